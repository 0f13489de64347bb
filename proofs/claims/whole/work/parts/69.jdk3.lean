section JD3
theorem gZ_d1 : ("java/lang/Integer", "DigitOnes", "[B", Value.ref 1000003) ∈ gZs := List.mem_of_getElem? (i := 3) rfl
theorem gZ_d10 : ("java/lang/Integer", "DigitTens", "[B", Value.ref 1000004) ∈ gZs := List.mem_of_getElem? (i := 4) rfl
theorem gT_d1 : ((.byte : FieldType), 1000003, 100, tArr mD1) ∈ gTs := List.mem_of_getElem? (i := 3) rfl
theorem gT_d10 : ((.byte : FieldType), 1000004, 100, tArr mD10) ∈ gTs := List.mem_of_getElem? (i := 4) rfl
theorem dg_tab : ∀ k, k < 100 → vp_nar .byte (mD1.getD k 0) = sb_b (48 + k % 10) ∧ vp_nar .byte (mD10.getD k 0) = sb_b (48 + k / 10) := by decide +kernel
/-- a height's decimal digits -/
def numT (v : Nat) : List Nat := if v < 10 then [48 + v % 10] else if v < 100 then [48 + v / 10, 48 + v % 10] else [48 + v / 100, 48 + v % 100 / 10, 48 + v % 10]
theorem ng_t {v c : Nat} {x : Int32} (hv : v < 1000) (hc : c < 2000) (h : c ≤ v) (hx : x = -nI c) : -nI v ≤ x := by rw [hx]; exact (sb_nle (by omega) (by omega)).mpr h
theorem ng_f {v c : Nat} {x : Int32} (hv : v < 1000) (hc : c < 2000) (h : v < c) (hx : x = -nI c) : ¬ -nI v ≤ x := by rw [hx]; exact fun z => absurd ((sb_nle (by omega) (by omega)).mp z) (by omega)
theorem ng_lt {v c : Nat} {x : Int32} (hv : v < 1000) (hc : c < 2000) (h : v < c) (hx : x = -nI c) : x < -nI v := Int32.not_le.mp (ng_f hv hc h hx)
theorem ng_nlt {v c : Nat} {x : Int32} (hv : v < 1000) (hc : c < 2000) (h : c ≤ v) (hx : x = -nI c) : ¬ x < -nI v := Int32.not_lt.mpr (ng_t hv hc h hx)
theorem ng_ge {v c : Nat} {x : Int32} (hv : v < 1000) (hc : c < 2000) (h : v ≤ c) (hx : x = -nI c) : x ≤ -nI v := by rw [hx]; exact (sb_nle (by omega) (by omega)).mpr h
theorem nI_m1 (b : Nat) : nI (b + 1) + (-1) = nI b := sb_m1 (p := b + 1) (by omega)
set_option maxRecDepth 100000 in
set_option maxHeartbeats 4000000 in
theorem sj_ss0 {d v : Nat} {w : mW} (h0 : v < 10) : Sp d yJ6_stringSize_0f7a4 cJ6_stringSize_0f7a4 4 (some .int) [.int (nI v)] w 0 0 (fun v9 w' => v9 = some (.int (nI 1)) ∧ w' = w) noX := by
  refine Sp.of (by decide +kernel) (Nat.le_of_ble_eq_true rfl) (fun X hC hnl hE hR hN => ?_)
  have hC : Cx X RJ6 cJ6_stringSize_0f7a4 d 0 0 := hC
  show Wp X 0 0 w [(0, .int (nI v))] [] 0
  refine r_iconst hC dJ6_stringSize_0f7a4_0 (v := 1) (by decide) ?_
  refine r_istore_n hC dJ6_stringSize_0f7a4_1 rfl (by rw [hnl]; decide) (L' := [(1, .int 1), (0, .int (nI v))]) rfl ?_
  refine r_iload_n hC dJ6_stringSize_0f7a4_2 rfl (j := 1) rfl ?_
  refine r_if_lt hC dJ6_stringSize_0f7a4_3 (tgt := 11) (by decide) (fun h => absurd h (nI_pos (by omega))) (fun _ => ?_)
  refine r_iconst hC dJ6_stringSize_0f7a4_6 (v := 0) (by decide) ?_
  refine r_istore_n hC dJ6_stringSize_0f7a4_7 rfl (by rw [hnl]; decide) (L' := [(1, .int 0), (0, .int (nI v))]) rfl ?_
  refine r_iload_n hC dJ6_stringSize_0f7a4_8 rfl (j := 1) rfl ?_
  refine r_ineg hC dJ6_stringSize_0f7a4_9 ?_
  refine r_istore_n hC dJ6_stringSize_0f7a4_10 rfl (by rw [hnl]; decide) (L' := [(0, .int (-(nI v))), (1, .int 0)]) rfl ?_
  refine r_bipush hC dJ6_stringSize_0f7a4_11 (v := (-10)) (by decide) ?_
  refine r_istore_n hC dJ6_stringSize_0f7a4_13 rfl (by rw [hnl]; decide) (L' := [(2, .int (-10)), (0, .int (-(nI v))), (1, .int 0)]) rfl ?_
  refine r_iconst hC dJ6_stringSize_0f7a4_14 (v := 1) (by decide) ?_
  refine r_istore_n hC dJ6_stringSize_0f7a4_15 rfl (by rw [hnl]; decide) (L' := [(3, .int 1), (2, .int (-10)), (0, .int (-(nI v))), (1, .int 0)]) rfl ?_
  refine r_iload_n hC dJ6_stringSize_0f7a4_16 rfl (j := 0) rfl ?_
  refine r_bipush hC dJ6_stringSize_0f7a4_17 (v := 10) (by decide) ?_
  refine r_icmp_ge hC dJ6_stringSize_0f7a4_19 (tgt := 42) (by decide) (fun h => absurd h (by decide)) (fun _ => ?_)
  refine r_iload_n hC dJ6_stringSize_0f7a4_22 rfl (j := 2) rfl ?_
  refine r_iload_n hC dJ6_stringSize_0f7a4_23 rfl (j := 1) rfl ?_
  refine r_icmp_le hC dJ6_stringSize_0f7a4_24 (tgt := 31) (by decide) (fun h => absurd h (ng_f (c := 10) (by omega) (by decide) (by omega) (by decide))) (fun _ => ?_)
  refine r_iload_n hC dJ6_stringSize_0f7a4_27 rfl (j := 0) rfl ?_
  refine r_iload_n hC dJ6_stringSize_0f7a4_28 rfl (j := 3) rfl ?_
  refine r_iadd hC dJ6_stringSize_0f7a4_29 ?_
  rw [show (1 + 0 : Int32) = 1 from by decide]
  refine r_iret hC hE hR dJ6_stringSize_0f7a4_30 (by omega) (by omega) (rfl) ?_
  exact ⟨rfl, rfl⟩
set_option maxRecDepth 100000 in
set_option maxHeartbeats 4000000 in
theorem sj_ss1 {d v : Nat} {w : mW} (h0 : 10 ≤ v) (h1 : v < 100) : Sp d yJ6_stringSize_0f7a4 cJ6_stringSize_0f7a4 4 (some .int) [.int (nI v)] w 0 0 (fun v9 w' => v9 = some (.int (nI 2)) ∧ w' = w) noX := by
  refine Sp.of (by decide +kernel) (Nat.le_of_ble_eq_true rfl) (fun X hC hnl hE hR hN => ?_)
  have hC : Cx X RJ6 cJ6_stringSize_0f7a4 d 0 0 := hC
  show Wp X 0 0 w [(0, .int (nI v))] [] 0
  refine r_iconst hC dJ6_stringSize_0f7a4_0 (v := 1) (by decide) ?_
  refine r_istore_n hC dJ6_stringSize_0f7a4_1 rfl (by rw [hnl]; decide) (L' := [(1, .int 1), (0, .int (nI v))]) rfl ?_
  refine r_iload_n hC dJ6_stringSize_0f7a4_2 rfl (j := 1) rfl ?_
  refine r_if_lt hC dJ6_stringSize_0f7a4_3 (tgt := 11) (by decide) (fun h => absurd h (nI_pos (by omega))) (fun _ => ?_)
  refine r_iconst hC dJ6_stringSize_0f7a4_6 (v := 0) (by decide) ?_
  refine r_istore_n hC dJ6_stringSize_0f7a4_7 rfl (by rw [hnl]; decide) (L' := [(1, .int 0), (0, .int (nI v))]) rfl ?_
  refine r_iload_n hC dJ6_stringSize_0f7a4_8 rfl (j := 1) rfl ?_
  refine r_ineg hC dJ6_stringSize_0f7a4_9 ?_
  refine r_istore_n hC dJ6_stringSize_0f7a4_10 rfl (by rw [hnl]; decide) (L' := [(0, .int (-(nI v))), (1, .int 0)]) rfl ?_
  refine r_bipush hC dJ6_stringSize_0f7a4_11 (v := (-10)) (by decide) ?_
  refine r_istore_n hC dJ6_stringSize_0f7a4_13 rfl (by rw [hnl]; decide) (L' := [(2, .int (-10)), (0, .int (-(nI v))), (1, .int 0)]) rfl ?_
  refine r_iconst hC dJ6_stringSize_0f7a4_14 (v := 1) (by decide) ?_
  refine r_istore_n hC dJ6_stringSize_0f7a4_15 rfl (by rw [hnl]; decide) (L' := [(3, .int 1), (2, .int (-10)), (0, .int (-(nI v))), (1, .int 0)]) rfl ?_
  refine r_iload_n hC dJ6_stringSize_0f7a4_16 rfl (j := 0) rfl ?_
  refine r_bipush hC dJ6_stringSize_0f7a4_17 (v := 10) (by decide) ?_
  refine r_icmp_ge hC dJ6_stringSize_0f7a4_19 (tgt := 42) (by decide) (fun h => absurd h (by decide)) (fun _ => ?_)
  refine r_iload_n hC dJ6_stringSize_0f7a4_22 rfl (j := 2) rfl ?_
  refine r_iload_n hC dJ6_stringSize_0f7a4_23 rfl (j := 1) rfl ?_
  refine r_icmp_le hC dJ6_stringSize_0f7a4_24 (tgt := 31) (by decide) (fun _ => ?_) (fun h => absurd (ng_t (c := 10) (by omega) (by decide) (by omega) (by decide)) h)
  refine r_bipush hC dJ6_stringSize_0f7a4_31 (v := 10) (by decide) ?_
  refine r_iload_n hC dJ6_stringSize_0f7a4_33 rfl (j := 1) rfl ?_
  refine r_imul hC dJ6_stringSize_0f7a4_34 ?_
  rw [show (10 * (-10) : Int32) = (-100) from by decide]
  refine r_istore_n hC dJ6_stringSize_0f7a4_35 rfl (by rw [hnl]; decide) (L' := [(2, .int (-100)), (3, .int 1), (0, .int (-(nI v))), (1, .int 0)]) rfl ?_
  refine r_iinc hC dJ6_stringSize_0f7a4_36 (j := 1) rfl (v := 2) (by decide) (by rw [hnl]; decide) (L' := [(3, .int 2), (2, .int (-100)), (0, .int (-(nI v))), (1, .int 0)]) rfl ?_
  refine r_goto hC dJ6_stringSize_0f7a4_39 (tgt := 16) (by decide) ?_
  refine r_iload_n hC dJ6_stringSize_0f7a4_16 rfl (j := 0) rfl ?_
  refine r_bipush hC dJ6_stringSize_0f7a4_17 (v := 10) (by decide) ?_
  refine r_icmp_ge hC dJ6_stringSize_0f7a4_19 (tgt := 42) (by decide) (fun h => absurd h (by decide)) (fun _ => ?_)
  refine r_iload_n hC dJ6_stringSize_0f7a4_22 rfl (j := 2) rfl ?_
  refine r_iload_n hC dJ6_stringSize_0f7a4_23 rfl (j := 1) rfl ?_
  refine r_icmp_le hC dJ6_stringSize_0f7a4_24 (tgt := 31) (by decide) (fun h => absurd h (ng_f (c := 100) (by omega) (by decide) (by omega) (by decide))) (fun _ => ?_)
  refine r_iload_n hC dJ6_stringSize_0f7a4_27 rfl (j := 0) rfl ?_
  refine r_iload_n hC dJ6_stringSize_0f7a4_28 rfl (j := 3) rfl ?_
  refine r_iadd hC dJ6_stringSize_0f7a4_29 ?_
  rw [show (2 + 0 : Int32) = 2 from by decide]
  refine r_iret hC hE hR dJ6_stringSize_0f7a4_30 (by omega) (by omega) (rfl) ?_
  exact ⟨rfl, rfl⟩
set_option maxRecDepth 100000 in
set_option maxHeartbeats 4000000 in
theorem sj_ss2 {d v : Nat} {w : mW} (h0 : 100 ≤ v) (h1 : v < 1000) : Sp d yJ6_stringSize_0f7a4 cJ6_stringSize_0f7a4 4 (some .int) [.int (nI v)] w 0 0 (fun v9 w' => v9 = some (.int (nI 3)) ∧ w' = w) noX := by
  refine Sp.of (by decide +kernel) (Nat.le_of_ble_eq_true rfl) (fun X hC hnl hE hR hN => ?_)
  have hC : Cx X RJ6 cJ6_stringSize_0f7a4 d 0 0 := hC
  show Wp X 0 0 w [(0, .int (nI v))] [] 0
  refine r_iconst hC dJ6_stringSize_0f7a4_0 (v := 1) (by decide) ?_
  refine r_istore_n hC dJ6_stringSize_0f7a4_1 rfl (by rw [hnl]; decide) (L' := [(1, .int 1), (0, .int (nI v))]) rfl ?_
  refine r_iload_n hC dJ6_stringSize_0f7a4_2 rfl (j := 1) rfl ?_
  refine r_if_lt hC dJ6_stringSize_0f7a4_3 (tgt := 11) (by decide) (fun h => absurd h (nI_pos (by omega))) (fun _ => ?_)
  refine r_iconst hC dJ6_stringSize_0f7a4_6 (v := 0) (by decide) ?_
  refine r_istore_n hC dJ6_stringSize_0f7a4_7 rfl (by rw [hnl]; decide) (L' := [(1, .int 0), (0, .int (nI v))]) rfl ?_
  refine r_iload_n hC dJ6_stringSize_0f7a4_8 rfl (j := 1) rfl ?_
  refine r_ineg hC dJ6_stringSize_0f7a4_9 ?_
  refine r_istore_n hC dJ6_stringSize_0f7a4_10 rfl (by rw [hnl]; decide) (L' := [(0, .int (-(nI v))), (1, .int 0)]) rfl ?_
  refine r_bipush hC dJ6_stringSize_0f7a4_11 (v := (-10)) (by decide) ?_
  refine r_istore_n hC dJ6_stringSize_0f7a4_13 rfl (by rw [hnl]; decide) (L' := [(2, .int (-10)), (0, .int (-(nI v))), (1, .int 0)]) rfl ?_
  refine r_iconst hC dJ6_stringSize_0f7a4_14 (v := 1) (by decide) ?_
  refine r_istore_n hC dJ6_stringSize_0f7a4_15 rfl (by rw [hnl]; decide) (L' := [(3, .int 1), (2, .int (-10)), (0, .int (-(nI v))), (1, .int 0)]) rfl ?_
  refine r_iload_n hC dJ6_stringSize_0f7a4_16 rfl (j := 0) rfl ?_
  refine r_bipush hC dJ6_stringSize_0f7a4_17 (v := 10) (by decide) ?_
  refine r_icmp_ge hC dJ6_stringSize_0f7a4_19 (tgt := 42) (by decide) (fun h => absurd h (by decide)) (fun _ => ?_)
  refine r_iload_n hC dJ6_stringSize_0f7a4_22 rfl (j := 2) rfl ?_
  refine r_iload_n hC dJ6_stringSize_0f7a4_23 rfl (j := 1) rfl ?_
  refine r_icmp_le hC dJ6_stringSize_0f7a4_24 (tgt := 31) (by decide) (fun _ => ?_) (fun h => absurd (ng_t (c := 10) (by omega) (by decide) (by omega) (by decide)) h)
  refine r_bipush hC dJ6_stringSize_0f7a4_31 (v := 10) (by decide) ?_
  refine r_iload_n hC dJ6_stringSize_0f7a4_33 rfl (j := 1) rfl ?_
  refine r_imul hC dJ6_stringSize_0f7a4_34 ?_
  rw [show (10 * (-10) : Int32) = (-100) from by decide]
  refine r_istore_n hC dJ6_stringSize_0f7a4_35 rfl (by rw [hnl]; decide) (L' := [(2, .int (-100)), (3, .int 1), (0, .int (-(nI v))), (1, .int 0)]) rfl ?_
  refine r_iinc hC dJ6_stringSize_0f7a4_36 (j := 1) rfl (v := 2) (by decide) (by rw [hnl]; decide) (L' := [(3, .int 2), (2, .int (-100)), (0, .int (-(nI v))), (1, .int 0)]) rfl ?_
  refine r_goto hC dJ6_stringSize_0f7a4_39 (tgt := 16) (by decide) ?_
  refine r_iload_n hC dJ6_stringSize_0f7a4_16 rfl (j := 0) rfl ?_
  refine r_bipush hC dJ6_stringSize_0f7a4_17 (v := 10) (by decide) ?_
  refine r_icmp_ge hC dJ6_stringSize_0f7a4_19 (tgt := 42) (by decide) (fun h => absurd h (by decide)) (fun _ => ?_)
  refine r_iload_n hC dJ6_stringSize_0f7a4_22 rfl (j := 2) rfl ?_
  refine r_iload_n hC dJ6_stringSize_0f7a4_23 rfl (j := 1) rfl ?_
  refine r_icmp_le hC dJ6_stringSize_0f7a4_24 (tgt := 31) (by decide) (fun _ => ?_) (fun h => absurd (ng_t (c := 100) (by omega) (by decide) (by omega) (by decide)) h)
  refine r_bipush hC dJ6_stringSize_0f7a4_31 (v := 10) (by decide) ?_
  refine r_iload_n hC dJ6_stringSize_0f7a4_33 rfl (j := 1) rfl ?_
  refine r_imul hC dJ6_stringSize_0f7a4_34 ?_
  rw [show (10 * (-100) : Int32) = (-1000) from by decide]
  refine r_istore_n hC dJ6_stringSize_0f7a4_35 rfl (by rw [hnl]; decide) (L' := [(2, .int (-1000)), (3, .int 2), (0, .int (-(nI v))), (1, .int 0)]) rfl ?_
  refine r_iinc hC dJ6_stringSize_0f7a4_36 (j := 1) rfl (v := 3) (by decide) (by rw [hnl]; decide) (L' := [(3, .int 3), (2, .int (-1000)), (0, .int (-(nI v))), (1, .int 0)]) rfl ?_
  refine r_goto hC dJ6_stringSize_0f7a4_39 (tgt := 16) (by decide) ?_
  refine r_iload_n hC dJ6_stringSize_0f7a4_16 rfl (j := 0) rfl ?_
  refine r_bipush hC dJ6_stringSize_0f7a4_17 (v := 10) (by decide) ?_
  refine r_icmp_ge hC dJ6_stringSize_0f7a4_19 (tgt := 42) (by decide) (fun h => absurd h (by decide)) (fun _ => ?_)
  refine r_iload_n hC dJ6_stringSize_0f7a4_22 rfl (j := 2) rfl ?_
  refine r_iload_n hC dJ6_stringSize_0f7a4_23 rfl (j := 1) rfl ?_
  refine r_icmp_le hC dJ6_stringSize_0f7a4_24 (tgt := 31) (by decide) (fun h => absurd h (ng_f (c := 1000) (by omega) (by decide) (by omega) (by decide))) (fun _ => ?_)
  refine r_iload_n hC dJ6_stringSize_0f7a4_27 rfl (j := 0) rfl ?_
  refine r_iload_n hC dJ6_stringSize_0f7a4_28 rfl (j := 3) rfl ?_
  refine r_iadd hC dJ6_stringSize_0f7a4_29 ?_
  rw [show (3 + 0 : Int32) = 3 from by decide]
  refine r_iret hC hE hR dJ6_stringSize_0f7a4_30 (by omega) (by omega) (rfl) ?_
  exact ⟨rfl, rfl⟩
set_option maxRecDepth 100000 in
set_option maxHeartbeats 4000000 in
theorem sj_gc0 {d v b cap h : Nat} {w : mW} {a : Nat → Int32} (h0 : v < 10) (hb : b + 1 ≤ cap) (hcap : cap ≤ 65536) (hw : w[h]? = some (mI 5 cap a)) : Sp d yJ6_getChars_ba4f3 cJ6_getChars_ba4f3 7 (some .int) [.int (nI v), .int (nI (b + 1)), .ref h] w 0 0 (fun v9 w' => v9 = some (.int (nI b)) ∧ w' = w.set h (mI 5 cap (upd a b (sb_b (48 + v % 10))))) noX := by
  refine Sp.of (by decide +kernel) (Nat.le_of_ble_eq_true rfl) (fun X hC hnl hE hR hN => ?_)
  have hC : Cx X RJ6 cJ6_getChars_ba4f3 d 0 0 := hC
  show Wp X 0 0 w [(0, .int (nI v)), (1, .int (nI (b + 1))), (2, .ref h)] [] 0
  refine r_iload_n hC dJ6_getChars_ba4f3_0 rfl (j := 1) rfl ?_
  refine r_istore hC dJ6_getChars_ba4f3_1 (by rw [hnl]; decide) (L' := [(5, .int (nI (b + 1))), (0, .int (nI v)), (1, .int (nI (b + 1))), (2, .ref h)]) rfl ?_
  refine r_iload_n hC dJ6_getChars_ba4f3_3 rfl (j := 1) rfl ?_
  refine r_if_ge hC dJ6_getChars_ba4f3_4 (tgt := 11) (by decide) (fun _ => ?_) (fun h => absurd (show (0 : Int32) ≤ nI v from nI_pos' (by omega)) h)
  refine r_iconst hC dJ6_getChars_ba4f3_11 (v := 0) (by decide) ?_
  refine r_istore hC dJ6_getChars_ba4f3_12 (by rw [hnl]; decide) (L' := [(6, .int 0), (5, .int (nI (b + 1))), (0, .int (nI v)), (1, .int (nI (b + 1))), (2, .ref h)]) rfl ?_
  refine r_iload hC dJ6_getChars_ba4f3_14 (j := 0) rfl ?_
  refine r_if_ne hC dJ6_getChars_ba4f3_16 (tgt := 22) (by decide) (fun h => absurd (by decide) h) (fun _ => ?_)
  refine r_iload_n hC dJ6_getChars_ba4f3_19 rfl (j := 2) rfl ?_
  refine r_ineg hC dJ6_getChars_ba4f3_20 ?_
  refine r_istore_n hC dJ6_getChars_ba4f3_21 rfl (by rw [hnl]; decide) (L' := [(0, .int (-(nI v))), (6, .int 0), (5, .int (nI (b + 1))), (1, .int (nI (b + 1))), (2, .ref h)]) rfl ?_
  refine r_iload_n hC dJ6_getChars_ba4f3_22 rfl (j := 0) rfl ?_
  refine r_bipush hC dJ6_getChars_ba4f3_23 (v := (-100)) (by decide) ?_
  refine r_icmp_gt hC dJ6_getChars_ba4f3_25 (tgt := 72) (by decide) (fun _ => ?_) (fun h => absurd (ng_lt (c := 100) (by omega) (by decide) (by omega) (by decide)) h)
  refine r_aload_n hC dJ6_getChars_ba4f3_72 rfl (j := 4) rfl ?_
  refine r_iinc hC dJ6_getChars_ba4f3_73 (j := 2) rfl (v := nI b) (nI_m1 b) (by rw [hnl]; decide) (L' := [(5, .int (nI b)), (0, .int (-(nI v))), (6, .int 0), (1, .int (nI (b + 1))), (2, .ref h)]) rfl ?_
  refine r_iload hC dJ6_getChars_ba4f3_76 (j := 0) rfl ?_
  refine r_gets hC sJ6_getChars_ba4f3_78 (v := .ref 1000003) gZ_d1 ?_
  refine r_iload_n hC dJ6_getChars_ba4f3_81 rfl (j := 1) rfl ?_
  refine r_ineg hC dJ6_getChars_ba4f3_82 ?_
  rw [Int32.neg_neg]
  refine r_baldS hC dJ6_getChars_ba4f3_83 (j := v) gT_d1 (mIx_nI (by omega) (by decide)) ?_
  refine r_bast hC dJ6_getChars_ba4f3_84 (j := b) hw (mIx_nI (by omega) (by omega)) (fun w_1 ew_1 => ?_)
  rw [(dg_tab v (by omega)).1] at ew_1
  have hf1_h : w_1[h]? = some (mI 5 cap (upd a b (sb_b (48 + v % 10)))) := by rw [ew_1]; exact List.getElem?_set_self (lt_of_get hw)
  refine r_iload_n hC dJ6_getChars_ba4f3_85 rfl (j := 1) rfl ?_
  refine r_bipush hC dJ6_getChars_ba4f3_86 (v := (-9)) (by decide) ?_
  refine r_icmp_ge hC dJ6_getChars_ba4f3_88 (tgt := 104) (by decide) (fun _ => ?_) (fun h => absurd (ng_ge (v := v) (c := 9) (by omega) (by decide) (by omega) (by decide)) h)
  refine r_iload hC dJ6_getChars_ba4f3_104 (j := 2) rfl ?_
  refine r_if_eq hC dJ6_getChars_ba4f3_106 (tgt := 118) (by decide) (fun _ => ?_) (fun h => absurd (by decide) h)
  refine r_iload hC dJ6_getChars_ba4f3_118 (j := 0) rfl ?_
  refine r_iret hC hE hR dJ6_getChars_ba4f3_120 (by omega) (by omega) (by simp only [ew_1, List.length_set]) ?_
  exact ⟨rfl, by simp only [ew_1, List.set_set]⟩
set_option maxRecDepth 100000 in
set_option maxHeartbeats 4000000 in
theorem sj_gc1 {d v b cap h : Nat} {w : mW} {a : Nat → Int32} (h0 : 10 ≤ v) (h1 : v < 100) (hb : b + 2 ≤ cap) (hcap : cap ≤ 65536) (hw : w[h]? = some (mI 5 cap a)) : Sp d yJ6_getChars_ba4f3 cJ6_getChars_ba4f3 7 (some .int) [.int (nI v), .int (nI (b + 2)), .ref h] w 0 0 (fun v9 w' => v9 = some (.int (nI b)) ∧ w' = w.set h (mI 5 cap (upd (upd a (b + 1) (sb_b (48 + v % 10))) b (sb_b (48 + v / 10))))) noX := by
  refine Sp.of (by decide +kernel) (Nat.le_of_ble_eq_true rfl) (fun X hC hnl hE hR hN => ?_)
  have hC : Cx X RJ6 cJ6_getChars_ba4f3 d 0 0 := hC
  show Wp X 0 0 w [(0, .int (nI v)), (1, .int (nI (b + 2))), (2, .ref h)] [] 0
  refine r_iload_n hC dJ6_getChars_ba4f3_0 rfl (j := 1) rfl ?_
  refine r_istore hC dJ6_getChars_ba4f3_1 (by rw [hnl]; decide) (L' := [(5, .int (nI (b + 2))), (0, .int (nI v)), (1, .int (nI (b + 2))), (2, .ref h)]) rfl ?_
  refine r_iload_n hC dJ6_getChars_ba4f3_3 rfl (j := 1) rfl ?_
  refine r_if_ge hC dJ6_getChars_ba4f3_4 (tgt := 11) (by decide) (fun _ => ?_) (fun h => absurd (show (0 : Int32) ≤ nI v from nI_pos' (by omega)) h)
  refine r_iconst hC dJ6_getChars_ba4f3_11 (v := 0) (by decide) ?_
  refine r_istore hC dJ6_getChars_ba4f3_12 (by rw [hnl]; decide) (L' := [(6, .int 0), (5, .int (nI (b + 2))), (0, .int (nI v)), (1, .int (nI (b + 2))), (2, .ref h)]) rfl ?_
  refine r_iload hC dJ6_getChars_ba4f3_14 (j := 0) rfl ?_
  refine r_if_ne hC dJ6_getChars_ba4f3_16 (tgt := 22) (by decide) (fun h => absurd (by decide) h) (fun _ => ?_)
  refine r_iload_n hC dJ6_getChars_ba4f3_19 rfl (j := 2) rfl ?_
  refine r_ineg hC dJ6_getChars_ba4f3_20 ?_
  refine r_istore_n hC dJ6_getChars_ba4f3_21 rfl (by rw [hnl]; decide) (L' := [(0, .int (-(nI v))), (6, .int 0), (5, .int (nI (b + 2))), (1, .int (nI (b + 2))), (2, .ref h)]) rfl ?_
  refine r_iload_n hC dJ6_getChars_ba4f3_22 rfl (j := 0) rfl ?_
  refine r_bipush hC dJ6_getChars_ba4f3_23 (v := (-100)) (by decide) ?_
  refine r_icmp_gt hC dJ6_getChars_ba4f3_25 (tgt := 72) (by decide) (fun _ => ?_) (fun h => absurd (ng_lt (c := 100) (by omega) (by decide) (by omega) (by decide)) h)
  refine r_aload_n hC dJ6_getChars_ba4f3_72 rfl (j := 4) rfl ?_
  refine r_iinc hC dJ6_getChars_ba4f3_73 (j := 2) rfl (v := nI (b + 1)) (nI_m1 (b + 1)) (by rw [hnl]; decide) (L' := [(5, .int (nI (b + 1))), (0, .int (-(nI v))), (6, .int 0), (1, .int (nI (b + 2))), (2, .ref h)]) rfl ?_
  refine r_iload hC dJ6_getChars_ba4f3_76 (j := 0) rfl ?_
  refine r_gets hC sJ6_getChars_ba4f3_78 (v := .ref 1000003) gZ_d1 ?_
  refine r_iload_n hC dJ6_getChars_ba4f3_81 rfl (j := 1) rfl ?_
  refine r_ineg hC dJ6_getChars_ba4f3_82 ?_
  rw [Int32.neg_neg]
  refine r_baldS hC dJ6_getChars_ba4f3_83 (j := v) gT_d1 (mIx_nI (by omega) (by decide)) ?_
  refine r_bast hC dJ6_getChars_ba4f3_84 (j := (b + 1)) hw (mIx_nI (by omega) (by omega)) (fun w_1 ew_1 => ?_)
  rw [(dg_tab v (by omega)).1] at ew_1
  have hf1_h : w_1[h]? = some (mI 5 cap (upd a (b + 1) (sb_b (48 + v % 10)))) := by rw [ew_1]; exact List.getElem?_set_self (lt_of_get hw)
  refine r_iload_n hC dJ6_getChars_ba4f3_85 rfl (j := 1) rfl ?_
  refine r_bipush hC dJ6_getChars_ba4f3_86 (v := (-9)) (by decide) ?_
  refine r_icmp_ge hC dJ6_getChars_ba4f3_88 (tgt := 104) (by decide) (fun h => absurd h (fun z => absurd ((sb_nle (a := 9) (b := v) (by decide) (by omega)).mp (show -nI 9 ≤ -nI v from z)) (by omega))) (fun _ => ?_)
  refine r_aload_n hC dJ6_getChars_ba4f3_91 rfl (j := 4) rfl ?_
  refine r_iinc hC dJ6_getChars_ba4f3_92 (j := 0) rfl (v := nI b) (nI_m1 b) (by rw [hnl]; decide) (L' := [(5, .int (nI b)), (0, .int (-(nI v))), (6, .int 0), (1, .int (nI (b + 2))), (2, .ref h)]) rfl ?_
  refine r_iload hC dJ6_getChars_ba4f3_95 (j := 0) rfl ?_
  refine r_gets hC sJ6_getChars_ba4f3_97 (v := .ref 1000004) gZ_d10 ?_
  refine r_iload_n hC dJ6_getChars_ba4f3_100 rfl (j := 1) rfl ?_
  refine r_ineg hC dJ6_getChars_ba4f3_101 ?_
  rw [Int32.neg_neg]
  refine r_baldS hC dJ6_getChars_ba4f3_102 (j := v) gT_d10 (mIx_nI (by omega) (by decide)) ?_
  refine r_bast hC dJ6_getChars_ba4f3_103 (j := b) hf1_h (mIx_nI (by omega) (by omega)) (fun w_2 ew_2 => ?_)
  rw [(dg_tab v (by omega)).2] at ew_2
  have hf2_h : w_2[h]? = some (mI 5 cap (upd (upd a (b + 1) (sb_b (48 + v % 10))) b (sb_b (48 + v / 10)))) := by rw [ew_2]; exact List.getElem?_set_self (lt_of_get hf1_h)
  refine r_iload hC dJ6_getChars_ba4f3_104 (j := 2) rfl ?_
  refine r_if_eq hC dJ6_getChars_ba4f3_106 (tgt := 118) (by decide) (fun _ => ?_) (fun h => absurd (by decide) h)
  refine r_iload hC dJ6_getChars_ba4f3_118 (j := 0) rfl ?_
  refine r_iret hC hE hR dJ6_getChars_ba4f3_120 (by omega) (by omega) (by simp only [ew_2, ew_1, List.length_set]) ?_
  exact ⟨rfl, by simp only [ew_2, ew_1, List.set_set]⟩
set_option maxRecDepth 100000 in
set_option maxHeartbeats 4000000 in
theorem sj_gc2 {d v b cap h : Nat} {w : mW} {a : Nat → Int32} (h0 : 100 ≤ v) (h1 : v < 1000) (hb : b + 3 ≤ cap) (hcap : cap ≤ 65536) (hw : w[h]? = some (mI 5 cap a)) : Sp d yJ6_getChars_ba4f3 cJ6_getChars_ba4f3 7 (some .int) [.int (nI v), .int (nI (b + 3)), .ref h] w 0 0 (fun v9 w' => v9 = some (.int (nI b)) ∧ w' = w.set h (mI 5 cap (upd (upd (upd a (b + 2) (sb_b (48 + v % 10))) (b + 1) (sb_b (48 + v % 100 / 10))) b (sb_b (48 + v / 100))))) noX := by
  refine Sp.of (by decide +kernel) (Nat.le_of_ble_eq_true rfl) (fun X hC hnl hE hR hN => ?_)
  have hC : Cx X RJ6 cJ6_getChars_ba4f3 d 0 0 := hC
  show Wp X 0 0 w [(0, .int (nI v)), (1, .int (nI (b + 3))), (2, .ref h)] [] 0
  refine r_iload_n hC dJ6_getChars_ba4f3_0 rfl (j := 1) rfl ?_
  refine r_istore hC dJ6_getChars_ba4f3_1 (by rw [hnl]; decide) (L' := [(5, .int (nI (b + 3))), (0, .int (nI v)), (1, .int (nI (b + 3))), (2, .ref h)]) rfl ?_
  refine r_iload_n hC dJ6_getChars_ba4f3_3 rfl (j := 1) rfl ?_
  refine r_if_ge hC dJ6_getChars_ba4f3_4 (tgt := 11) (by decide) (fun _ => ?_) (fun h => absurd (show (0 : Int32) ≤ nI v from nI_pos' (by omega)) h)
  refine r_iconst hC dJ6_getChars_ba4f3_11 (v := 0) (by decide) ?_
  refine r_istore hC dJ6_getChars_ba4f3_12 (by rw [hnl]; decide) (L' := [(6, .int 0), (5, .int (nI (b + 3))), (0, .int (nI v)), (1, .int (nI (b + 3))), (2, .ref h)]) rfl ?_
  refine r_iload hC dJ6_getChars_ba4f3_14 (j := 0) rfl ?_
  refine r_if_ne hC dJ6_getChars_ba4f3_16 (tgt := 22) (by decide) (fun h => absurd (by decide) h) (fun _ => ?_)
  refine r_iload_n hC dJ6_getChars_ba4f3_19 rfl (j := 2) rfl ?_
  refine r_ineg hC dJ6_getChars_ba4f3_20 ?_
  refine r_istore_n hC dJ6_getChars_ba4f3_21 rfl (by rw [hnl]; decide) (L' := [(0, .int (-(nI v))), (6, .int 0), (5, .int (nI (b + 3))), (1, .int (nI (b + 3))), (2, .ref h)]) rfl ?_
  refine r_iload_n hC dJ6_getChars_ba4f3_22 rfl (j := 0) rfl ?_
  refine r_bipush hC dJ6_getChars_ba4f3_23 (v := (-100)) (by decide) ?_
  refine r_icmp_gt hC dJ6_getChars_ba4f3_25 (tgt := 72) (by decide) (fun h => absurd h (ng_nlt (c := 100) (by omega) (by decide) (by omega) (by decide))) (fun _ => ?_)
  refine r_iload_n hC dJ6_getChars_ba4f3_28 rfl (j := 0) rfl ?_
  refine r_bipush hC dJ6_getChars_ba4f3_29 (v := 100) (by decide) ?_
  refine r_idiv hC dJ6_getChars_ba4f3_31 (by decide) ?_
  rw [sb_ndiv (w := v) (by omega)]
  refine r_istore_n hC dJ6_getChars_ba4f3_32 rfl (by rw [hnl]; decide) (L' := [(3, .int (-nI (v / 100))), (0, .int (-(nI v))), (6, .int 0), (5, .int (nI (b + 3))), (1, .int (nI (b + 3))), (2, .ref h)]) rfl ?_
  refine r_iload_n hC dJ6_getChars_ba4f3_33 rfl (j := 0) rfl ?_
  refine r_bipush hC dJ6_getChars_ba4f3_34 (v := 100) (by decide) ?_
  refine r_imul hC dJ6_getChars_ba4f3_36 ?_
  refine r_iload_n hC dJ6_getChars_ba4f3_37 rfl (j := 1) rfl ?_
  refine r_isub hC dJ6_getChars_ba4f3_38 ?_
  rw [sb_nrem (w := v) (by omega)]
  refine r_istore hC dJ6_getChars_ba4f3_39 (by rw [hnl]; decide) (L' := [(4, .int (nI (v % 100))), (3, .int (-nI (v / 100))), (0, .int (-(nI v))), (6, .int 0), (5, .int (nI (b + 3))), (1, .int (nI (b + 3))), (2, .ref h)]) rfl ?_
  refine r_iload_n hC dJ6_getChars_ba4f3_41 rfl (j := 1) rfl ?_
  refine r_istore_n hC dJ6_getChars_ba4f3_42 rfl (by rw [hnl]; decide) (L' := [(0, .int (-nI (v / 100))), (4, .int (nI (v % 100))), (3, .int (-nI (v / 100))), (6, .int 0), (5, .int (nI (b + 3))), (1, .int (nI (b + 3))), (2, .ref h)]) rfl ?_
  refine r_aload_n hC dJ6_getChars_ba4f3_43 rfl (j := 6) rfl ?_
  refine r_iinc hC dJ6_getChars_ba4f3_44 (j := 4) rfl (v := nI (b + 2)) (nI_m1 (b + 2)) (by rw [hnl]; decide) (L' := [(5, .int (nI (b + 2))), (0, .int (-nI (v / 100))), (4, .int (nI (v % 100))), (3, .int (-nI (v / 100))), (6, .int 0), (1, .int (nI (b + 3))), (2, .ref h)]) rfl ?_
  refine r_iload hC dJ6_getChars_ba4f3_47 (j := 0) rfl ?_
  refine r_gets hC sJ6_getChars_ba4f3_49 (v := .ref 1000003) gZ_d1 ?_
  refine r_iload hC dJ6_getChars_ba4f3_52 (j := 2) rfl ?_
  refine r_baldS hC dJ6_getChars_ba4f3_54 (j := (v % 100)) gT_d1 (mIx_nI (by omega) (by decide)) ?_
  refine r_bast hC dJ6_getChars_ba4f3_55 (j := (b + 2)) hw (mIx_nI (by omega) (by omega)) (fun w_1 ew_1 => ?_)
  rw [(show vp_nar .byte (mD1.getD (v % 100) 0) = sb_b (48 + v % 10) from by rw [(dg_tab (v % 100) (by omega)).1, show v % 100 % 10 = v % 10 by omega])] at ew_1
  have hf1_h : w_1[h]? = some (mI 5 cap (upd a (b + 2) (sb_b (48 + v % 10)))) := by rw [ew_1]; exact List.getElem?_set_self (lt_of_get hw)
  refine r_aload_n hC dJ6_getChars_ba4f3_56 rfl (j := 6) rfl ?_
  refine r_iinc hC dJ6_getChars_ba4f3_57 (j := 0) rfl (v := nI (b + 1)) (nI_m1 (b + 1)) (by rw [hnl]; decide) (L' := [(5, .int (nI (b + 1))), (0, .int (-nI (v / 100))), (4, .int (nI (v % 100))), (3, .int (-nI (v / 100))), (6, .int 0), (1, .int (nI (b + 3))), (2, .ref h)]) rfl ?_
  refine r_iload hC dJ6_getChars_ba4f3_60 (j := 0) rfl ?_
  refine r_gets hC sJ6_getChars_ba4f3_62 (v := .ref 1000004) gZ_d10 ?_
  refine r_iload hC dJ6_getChars_ba4f3_65 (j := 2) rfl ?_
  refine r_baldS hC dJ6_getChars_ba4f3_67 (j := (v % 100)) gT_d10 (mIx_nI (by omega) (by decide)) ?_
  refine r_bast hC dJ6_getChars_ba4f3_68 (j := (b + 1)) hf1_h (mIx_nI (by omega) (by omega)) (fun w_2 ew_2 => ?_)
  rw [(dg_tab (v % 100) (by omega)).2] at ew_2
  have hf2_h : w_2[h]? = some (mI 5 cap (upd (upd a (b + 2) (sb_b (48 + v % 10))) (b + 1) (sb_b (48 + v % 100 / 10)))) := by rw [ew_2]; exact List.getElem?_set_self (lt_of_get hf1_h)
  refine r_goto hC dJ6_getChars_ba4f3_69 (tgt := 22) (by decide) ?_
  refine r_iload_n hC dJ6_getChars_ba4f3_22 rfl (j := 1) rfl ?_
  refine r_bipush hC dJ6_getChars_ba4f3_23 (v := (-100)) (by decide) ?_
  refine r_icmp_gt hC dJ6_getChars_ba4f3_25 (tgt := 72) (by decide) (fun _ => ?_) (fun h => absurd (ng_lt (v := v / 100) (c := 100) (by omega) (by decide) (by omega) (by decide)) h)
  refine r_aload_n hC dJ6_getChars_ba4f3_72 rfl (j := 6) rfl ?_
  refine r_iinc hC dJ6_getChars_ba4f3_73 (j := 0) rfl (v := nI b) (nI_m1 b) (by rw [hnl]; decide) (L' := [(5, .int (nI b)), (0, .int (-nI (v / 100))), (4, .int (nI (v % 100))), (3, .int (-nI (v / 100))), (6, .int 0), (1, .int (nI (b + 3))), (2, .ref h)]) rfl ?_
  refine r_iload hC dJ6_getChars_ba4f3_76 (j := 0) rfl ?_
  refine r_gets hC sJ6_getChars_ba4f3_78 (v := .ref 1000003) gZ_d1 ?_
  refine r_iload_n hC dJ6_getChars_ba4f3_81 rfl (j := 1) rfl ?_
  refine r_ineg hC dJ6_getChars_ba4f3_82 ?_
  rw [Int32.neg_neg]
  refine r_baldS hC dJ6_getChars_ba4f3_83 (j := (v / 100)) gT_d1 (mIx_nI (by omega) (by decide)) ?_
  refine r_bast hC dJ6_getChars_ba4f3_84 (j := b) hf2_h (mIx_nI (by omega) (by omega)) (fun w_3 ew_3 => ?_)
  rw [(show vp_nar .byte (mD1.getD (v / 100) 0) = sb_b (48 + v / 100) from by rw [(dg_tab (v / 100) (by omega)).1, show v / 100 % 10 = v / 100 by omega])] at ew_3
  have hf3_h : w_3[h]? = some (mI 5 cap (upd (upd (upd a (b + 2) (sb_b (48 + v % 10))) (b + 1) (sb_b (48 + v % 100 / 10))) b (sb_b (48 + v / 100)))) := by rw [ew_3]; exact List.getElem?_set_self (lt_of_get hf2_h)
  refine r_iload_n hC dJ6_getChars_ba4f3_85 rfl (j := 1) rfl ?_
  refine r_bipush hC dJ6_getChars_ba4f3_86 (v := (-9)) (by decide) ?_
  refine r_icmp_ge hC dJ6_getChars_ba4f3_88 (tgt := 104) (by decide) (fun _ => ?_) (fun h => absurd (ng_ge (v := (v / 100)) (c := 9) (by omega) (by decide) (by omega) (by decide)) h)
  refine r_iload hC dJ6_getChars_ba4f3_104 (j := 4) rfl ?_
  refine r_if_eq hC dJ6_getChars_ba4f3_106 (tgt := 118) (by decide) (fun _ => ?_) (fun h => absurd (by decide) h)
  refine r_iload hC dJ6_getChars_ba4f3_118 (j := 0) rfl ?_
  refine r_iret hC hE hR dJ6_getChars_ba4f3_120 (by omega) (by omega) (by simp only [ew_3, ew_2, ew_1, List.length_set]) ?_
  exact ⟨rfl, by simp only [ew_3, ew_2, ew_1, List.set_set]⟩
theorem numT_len {v : Nat} : 0 < (numT v).length ∧ (numT v).length ≤ 3 := by
  unfold numT
  split
  · exact ⟨Nat.zero_lt_succ _, Nat.le_of_ble_eq_true rfl⟩
  · split <;> exact ⟨Nat.zero_lt_succ _, Nat.le_of_ble_eq_true rfl⟩
theorem sj_ss {d v : Nat} {w : mW} (hv : v < 1000) : Sp d yJ6_stringSize_0f7a4 cJ6_stringSize_0f7a4 4 (some .int) [.int (nI v)] w 0 0 (fun v9 w' => v9 = some (.int (nI (numT v).length)) ∧ w' = w) noX := by
  unfold numT
  by_cases h0 : v < 10
  · rw [if_pos h0]; exact sj_ss0 h0
  · by_cases h1 : v < 100
    · rw [if_neg h0, if_pos h1]; exact sj_ss1 (by omega) h1
    · rw [if_neg h0, if_neg h1]; exact sj_ss2 (by omega) hv
/-- the array a with v's digits from b on -/
def numA (a : Nat → Int32) (b v : Nat) : Nat → Int32 := if v < 10 then (upd a b (sb_b (48 + v % 10))) else if v < 100 then (upd (upd a (b + 1) (sb_b (48 + v % 10))) b (sb_b (48 + v / 10))) else (upd (upd (upd a (b + 2) (sb_b (48 + v % 10))) (b + 1) (sb_b (48 + v % 100 / 10))) b (sb_b (48 + v / 100)))
theorem sj_gc {d v b cap h : Nat} {w : mW} {a : Nat → Int32} (hv : v < 1000) (hb : b + (numT v).length ≤ cap) (hcap : cap ≤ 65536) (hw : w[h]? = some (mI 5 cap a)) : Sp d yJ6_getChars_ba4f3 cJ6_getChars_ba4f3 7 (some .int) [.int (nI v), .int (nI (b + (numT v).length)), .ref h] w 0 0 (fun v9 w' => v9 = some (.int (nI b)) ∧ w' = w.set h (mI 5 cap (numA a b v))) noX := by
  revert hb
  unfold numT numA
  by_cases h0 : v < 10
  · rw [if_pos h0, if_pos h0]; exact fun hb => sj_gc0 h0 hb hcap hw
  · by_cases h1 : v < 100
    · rw [if_neg h0, if_pos h1, if_neg h0, if_pos h1]; exact fun hb => sj_gc1 (by omega) h1 hb hcap hw
    · rw [if_neg h0, if_neg h1, if_neg h0, if_neg h1]; exact fun hb => sj_gc2 (by omega) hv hb hcap hw
theorem numA_lo {a : Nat → Int32} {b v j : Nat} (h : j < b) : numA a b v j = a j := by
  unfold numA
  split
  · exact pk_un (by omega)
  · split
    · rw [pk_un (by omega), pk_un (by omega)]
    · rw [pk_un (by omega), pk_un (by omega), pk_un (by omega)]
theorem numA_at {a : Nat → Int32} {b v i : Nat} (hv : v < 1000) (h : i < (numT v).length) : (numT v).getD i 0 < 256 ∧ numA a b v (b + i) = sb_b ((numT v).getD i 0) := by
  revert h
  unfold numA numT
  by_cases h0 : v < 10
  · rw [if_pos h0, if_pos h0]
    intro h
    obtain rfl : i = 0 := by simp at h; exact h
    exact ⟨by show 48 + v % 10 < 256; omega, pk_us⟩
  · by_cases h1 : v < 100
    · rw [if_neg h0, if_pos h1, if_neg h0, if_pos h1]
      intro h
      match i, h with
      | 0, _ => exact ⟨by show 48 + v / 10 < 256; omega, pk_us⟩
      | 1, _ => exact ⟨by show 48 + v % 10 < 256; omega, (pk_un (by omega)).trans pk_us⟩
      | i + 2, h => exact absurd (show i + 2 < 2 from h) (by omega)
    · rw [if_neg h0, if_neg h1, if_neg h0, if_neg h1]
      intro h
      match i, h with
      | 0, _ => exact ⟨by show 48 + v / 100 < 256; omega, pk_us⟩
      | 1, _ => exact ⟨by show 48 + v % 100 / 10 < 256; omega, (pk_un (by omega)).trans pk_us⟩
      | 2, _ => exact ⟨by show 48 + v % 10 < 256; omega, (pk_un (by omega)).trans ((pk_un (by omega)).trans pk_us)⟩
      | i + 3, h => exact absurd (show i + 3 < 3 from h) (by omega)
theorem numA_fit {a : Nat → Int32} {b v : Nat} (h : sb_Fit a) : sb_Fit (numA a b v) := by
  unfold numA
  split
  · exact sb_fitU h (sb_fitB _)
  · split
    · exact sb_fitU (sb_fitU h (sb_fitB _)) (sb_fitB _)
    · exact sb_fitU (sb_fitU (sb_fitU h (sb_fitB _)) (sb_fitB _)) (sb_fitB _)
set_option maxRecDepth 100000 in
set_option maxHeartbeats 4000000 in
theorem sj_api5_0 {v mc ms : Nat} {d n cap : Nat} {ml : Int32} {a : Nat → Int32} (hn : n ≤ cap) (hv : v < 1000) (hb : cap ≤ 65536) (hq : n + (numT v).length ≤ cap) : SpN (d + 1) yJ5_append_c97b9 cJ5_append_c97b9 4 (some (.object "java/lang/AbstractStringBuilder")) [.ref 0, .int (nI v)] [(mO 1 [.ref 1, .int 0, .int ml, .int (nI n)]), (mI 5 cap a)] mc ms (fun v9 w' => v9 = some (.ref 0) ∧ w' = [(mO 1 [.ref 1, .int 0, .int ml, .int (nI (n + (numT v).length))]), (mI 5 cap (numA a n v))]) := by
  refine SpN.of (by decide +kernel) (Nat.le_of_ble_eq_true rfl) (fun X hC hnl hE hR hN hNm => ?_)
  have hC : Cx X RJ5 cJ5_append_c97b9 (d + 1) mc ms := hC
  show Wp X 0 0 [(mO 1 [.ref 1, .int 0, .int ml, .int (nI n)]), (mI 5 cap a)] [(0, .ref 0), (1, .int (nI v))] [] 0
  have hl3 := numT_len (v := v)
  refine r_aload_n hC dJ5_append_c97b9_0 rfl (j := 0) rfl ?_
  refine r_get hC gJ5_append_c97b9_1 (show _ = some (mO 1 [.ref 1, .int 0, .int ml, .int (nI n)]) from rfl) (v := .int (nI n)) rfl ?_
  refine r_istore_n hC dJ5_append_c97b9_4 rfl (by rw [hnl]; decide) (L' := [(2, .int (nI n)), (0, .ref 0), (1, .int (nI v))]) rfl ?_
  refine r_iload_n hC dJ5_append_c97b9_5 rfl (j := 0) rfl ?_
  refine r_iload_n hC dJ5_append_c97b9_6 rfl (j := 2) rfl ?_
  refine r_callS hC (vs := [.int (nI v)]) vJ5_append_c97b9_7 (sj_ss (d := d) hv) rfl (by omega) (by omega) (by omega) (Nat.le_of_ble_eq_true rfl) (fun v_1 w_1 hP_1 hlen_1 => ?_) (fun _ _ h => h.elim)
  obtain ⟨rfl, rfl⟩ := hP_1
  show Wp X 0 0 [(mO 1 [.ref 1, .int 0, .int ml, .int (nI n)]), (mI 5 cap a)] [(2, .int (nI n)), (0, .ref 0), (1, .int (nI v))] [.int (nI (numT v).length), .int (nI n)] 10
  refine r_iadd hC dJ5_append_c97b9_10 ?_
  rw [nI_add _ _]
  refine r_istore_n hC dJ5_append_c97b9_11 rfl (by rw [hnl]; decide) (L' := [(3, .int (nI (n + (numT v).length))), (2, .int (nI n)), (0, .ref 0), (1, .int (nI v))]) rfl ?_
  refine r_aload_n hC dJ5_append_c97b9_12 rfl (j := 2) rfl ?_
  refine r_iload_n hC dJ5_append_c97b9_13 rfl (j := 0) rfl ?_
  refine r_callX hC (vs := [.int (nI (n + (numT v).length))]) vJ5_append_c97b9_14 (sj_ens0 (d := d) (q := n + (numT v).length) hq hb) (show _ = some (mO 1 [.ref 1, .int 0, .int ml, .int (nI n)]) from rfl) rfl rfl (by omega) (by omega) (by omega) (Nat.le_of_ble_eq_true rfl) (fun v_2 w_2 hP_2 hlen_2 => ?_)
  obtain ⟨rfl, rfl⟩ := hP_2
  show Wp X 0 0 [(mO 1 [.ref 1, .int 0, .int ml, .int (nI n)]), (mI 5 cap a)] [(3, .int (nI (n + (numT v).length))), (2, .int (nI n)), (0, .ref 0), (1, .int (nI v))] [] 17
  refine r_aload_n hC dJ5_append_c97b9_17 rfl (j := 2) rfl ?_
  refine r_callX hC (vs := []) vJ5_append_c97b9_18 (sj_lat (d := d) (n := n)) (show _ = some (mO 1 [.ref 1, .int 0, .int ml, .int (nI n)]) from rfl) rfl rfl (by omega) (by omega) (by omega) (Nat.le_of_ble_eq_true rfl) (fun v_3 w_3 hP_3 hlen_3 => ?_)
  obtain ⟨rfl, rfl⟩ := hP_3
  show Wp X 0 0 [(mO 1 [.ref 1, .int 0, .int ml, .int (nI n)]), (mI 5 cap a)] [(3, .int (nI (n + (numT v).length))), (2, .int (nI n)), (0, .ref 0), (1, .int (nI v))] [.int 1] 21
  refine r_if_eq hC dJ5_append_c97b9_21 (tgt := 37) (by decide) (fun h => absurd h (by decide)) (fun _ => ?_)
  refine r_iload_n hC dJ5_append_c97b9_24 rfl (j := 3) rfl ?_
  refine r_iload_n hC dJ5_append_c97b9_25 rfl (j := 0) rfl ?_
  refine r_aload_n hC dJ5_append_c97b9_26 rfl (j := 2) rfl ?_
  refine r_get hC gJ5_append_c97b9_27 (show _ = some (mO 1 [.ref 1, .int 0, .int ml, .int (nI n)]) from rfl) (v := .ref 1) rfl ?_
  refine r_callS hC (vs := [.int (nI v), .int (nI (n + (numT v).length)), .ref 1]) vJ5_append_c97b9_30 (sj_gc (d := d) (b := n) (cap := cap) (h := 1) (a := a) hv hq hb rfl) rfl (by omega) (by omega) (by omega) (Nat.le_of_ble_eq_true rfl) (fun v_4 w_4 hP_4 hlen_4 => ?_) (fun _ _ h => h.elim)
  obtain ⟨rfl, rfl⟩ := hP_4
  show Wp X 0 0 [(mO 1 [.ref 1, .int 0, .int ml, .int (nI n)]), (mI 5 cap (numA a n v))] [(3, .int (nI (n + (numT v).length))), (2, .int (nI n)), (0, .ref 0), (1, .int (nI v))] [.int (nI n)] 33
  refine r_pop hC dJ5_append_c97b9_33 rfl ?_
  refine r_goto hC dJ5_append_c97b9_34 (tgt := 48) (by decide) ?_
  refine r_aload_n hC dJ5_append_c97b9_48 rfl (j := 2) rfl ?_
  refine r_iload_n hC dJ5_append_c97b9_49 rfl (j := 0) rfl ?_
  refine r_put' hC pJ5_append_c97b9_50 (show _ = some (mO 1 [.ref 1, .int 0, .int ml, .int (nI n)]) from rfl) (Nat.le_of_ble_eq_true rfl) (fun _ => rfl) (fun _ => rfl) (fun w_5 ew_5 => ?_)
  subst ew_5
  show Wp X 0 0 [(mO 1 [.ref 1, .int 0, .int ml, .int (nI (n + (numT v).length))]), (mI 5 cap (numA a n v))] [(3, .int (nI (n + (numT v).length))), (2, .int (nI n)), (0, .ref 0), (1, .int (nI v))] [] _
  refine r_aload_n hC dJ5_append_c97b9_53 rfl (j := 2) rfl ?_
  refine n_aret hC hE (Or.inl ⟨_, rfl⟩) hR dJ5_append_c97b9_54 (by omega) (by omega) (Nat.le_of_ble_eq_true rfl) ?_
  exact ⟨rfl, rfl⟩
set_option maxRecDepth 100000 in
set_option maxHeartbeats 4000000 in
theorem sj_api4_0 {v mc ms : Nat} {d n cap : Nat} {ml : Int32} {a : Nat → Int32} (hn : n ≤ cap) (hv : v < 1000) (hb : cap ≤ 65536) (hq : n + (numT v).length ≤ cap) : SpN (d + 2) yJ4_append_bf812 cJ4_append_bf812 2 (some (.object "java/lang/StringBuilder")) [.ref 0, .int (nI v)] [(mO 1 [.ref 1, .int 0, .int ml, .int (nI n)]), (mI 5 cap a)] mc ms (fun v9 w' => v9 = some (.ref 0) ∧ w' = [(mO 1 [.ref 1, .int 0, .int ml, .int (nI (n + (numT v).length))]), (mI 5 cap (numA a n v))]) := by
  refine SpN.of (by decide +kernel) (Nat.le_of_ble_eq_true rfl) (fun X hC hnl hE hR hN hNm => ?_)
  have hC : Cx X RJ4 cJ4_append_bf812 (d + 2) mc ms := hC
  show Wp X 0 0 [(mO 1 [.ref 1, .int 0, .int ml, .int (nI n)]), (mI 5 cap a)] [(0, .ref 0), (1, .int (nI v))] [] 0
  refine r_aload_n hC dJ4_append_bf812_0 rfl (j := 0) rfl ?_
  refine r_iload_n hC dJ4_append_bf812_1 rfl (j := 1) rfl ?_
  refine n_callSU hC (vs := [.int (nI v)]) vJ4_append_bf812_2 (sj_api5_0 (d := d) (mc := mc) (ms := ms) hn hv hb hq) (show _ = some (mO 1 [.ref 1, .int 0, .int ml, .int (nI n)]) from rfl) rfl rfl (by omega) (by omega) (by omega) (Nat.le_of_ble_eq_true rfl) ⟨(Or.inl (Nat.le_of_ble_eq_true rfl)), trivial, trivial⟩ trivial (fun v_1 w_1 X hT hP_1 hlen_1 => ?_)
  have hC := Cx.tie hT hC
  have hnl := (mNL.tie hT).trans hnl
  have hE := mEndN.tie hT (Nat.le_of_ble_eq_true rfl) hE
  have hR := mRet.tie hT hR
  have hN := mNoTab.tie hT hN
  have hNm := mNam.tie hT hNm
  clear hT
  obtain ⟨rfl, rfl⟩ := hP_1
  show Wp X (0 + mc) (0 + ms) [(mO 1 [.ref 1, .int 0, .int ml, .int (nI (n + (numT v).length))]), (mI 5 cap (numA a n v))] [(0, .ref 0), (1, .int (nI v))] [.ref 0] 5
  refine r_pop hC dJ4_append_bf812_5 rfl ?_
  refine r_aload_n hC dJ4_append_bf812_6 rfl (j := 0) rfl ?_
  refine n_aret hC hE (Or.inl ⟨_, rfl⟩) hR dJ4_append_bf812_7 (by omega) (by omega) (Nat.le_of_ble_eq_true rfl) ?_
  exact ⟨rfl, rfl⟩
set_option maxRecDepth 100000 in
set_option maxHeartbeats 4000000 in
theorem sj_api5_1 {v mc ms : Nat} {d n cap : Nat} {ml : Int32} {a : Nat → Int32} (hn : n ≤ cap) (hv : v < 1000) (hb : (capN cap (n + (numT v).length)) ≤ 65536) (hq : cap < n + (numT v).length) (hf : sb_Fit a) (hmc : 1 ≤ mc) (hms : (capN cap (n + (numT v).length)) ≤ ms) : SpN (d + 4) yJ5_append_c97b9 cJ5_append_c97b9 4 (some (.object "java/lang/AbstractStringBuilder")) [.ref 0, .int (nI v)] [(mO 1 [.ref 1, .int 0, .int ml, .int (nI n)]), (mI 5 cap a)] mc ms (fun v9 w' => v9 = some (.ref 0) ∧ w' = [(mO 1 [.ref 2, .int 0, .int ml, .int (nI (n + (numT v).length))]), (mI 5 cap a), (mI 5 (capN cap (n + (numT v).length)) (numA (va_cpy a (fun _ => 0) 0 0 cap) n v))]) := by
  refine SpN.of (by decide +kernel) (Nat.le_of_ble_eq_true rfl) (fun X hC hnl hE hR hN hNm => ?_)
  have hC : Cx X RJ5 cJ5_append_c97b9 (d + 4) mc ms := hC
  show Wp X 0 0 [(mO 1 [.ref 1, .int 0, .int ml, .int (nI n)]), (mI 5 cap a)] [(0, .ref 0), (1, .int (nI v))] [] 0
  have hl3 := numT_len (v := v)
  have hcq : n + (numT v).length ≤ capN cap (n + (numT v).length) := by
    unfold capN
    have := Nat.le_max_left (n + (numT v).length - cap) (cap + 2)
    omega
  refine r_aload_n hC dJ5_append_c97b9_0 rfl (j := 0) rfl ?_
  refine r_get hC gJ5_append_c97b9_1 (show _ = some (mO 1 [.ref 1, .int 0, .int ml, .int (nI n)]) from rfl) (v := .int (nI n)) rfl ?_
  refine r_istore_n hC dJ5_append_c97b9_4 rfl (by rw [hnl]; decide) (L' := [(2, .int (nI n)), (0, .ref 0), (1, .int (nI v))]) rfl ?_
  refine r_iload_n hC dJ5_append_c97b9_5 rfl (j := 0) rfl ?_
  refine r_iload_n hC dJ5_append_c97b9_6 rfl (j := 2) rfl ?_
  refine r_callS hC (vs := [.int (nI v)]) vJ5_append_c97b9_7 (sj_ss (d := d + 2) hv) rfl (by omega) (by omega) (by omega) (Nat.le_of_ble_eq_true rfl) (fun v_1 w_1 hP_1 hlen_1 => ?_) (fun _ _ h => h.elim)
  obtain ⟨rfl, rfl⟩ := hP_1
  show Wp X 0 0 [(mO 1 [.ref 1, .int 0, .int ml, .int (nI n)]), (mI 5 cap a)] [(2, .int (nI n)), (0, .ref 0), (1, .int (nI v))] [.int (nI (numT v).length), .int (nI n)] 10
  refine r_iadd hC dJ5_append_c97b9_10 ?_
  rw [nI_add _ _]
  refine r_istore_n hC dJ5_append_c97b9_11 rfl (by rw [hnl]; decide) (L' := [(3, .int (nI (n + (numT v).length))), (2, .int (nI n)), (0, .ref 0), (1, .int (nI v))]) rfl ?_
  refine r_aload_n hC dJ5_append_c97b9_12 rfl (j := 2) rfl ?_
  refine r_iload_n hC dJ5_append_c97b9_13 rfl (j := 0) rfl ?_
  refine n_callX hC (vs := [.int (nI (n + (numT v).length))]) vJ5_append_c97b9_14 (sj_ens1 (d := d) (q := n + (numT v).length) hq hb hf) (show _ = some (mO 1 [.ref 1, .int 0, .int ml, .int (nI n)]) from rfl) rfl rfl (by omega) (by omega) (by omega) (Nat.le_of_ble_eq_true rfl) ⟨trivial, trivial, (Or.inl (Nat.le_of_ble_eq_true rfl)), trivial, trivial⟩ trivial (fun v_2 w_2 X hT hP_2 hlen_2 => ?_)
  have hC := Cx.tie hT hC
  have hnl := (mNL.tie hT).trans hnl
  have hE := mEndN.tie hT (Nat.le_of_ble_eq_true rfl) hE
  have hR := mRet.tie hT hR
  have hN := mNoTab.tie hT hN
  have hNm := mNam.tie hT hNm
  clear hT
  obtain ⟨rfl, rfl⟩ := hP_2
  show Wp X (0 + 1) (0 + (capN cap (n + (numT v).length))) [(mO 1 [.ref 2, .int 0, .int ml, .int (nI n)]), (mI 5 cap a), (mI 5 (capN cap (n + (numT v).length)) (va_cpy a (fun _ => 0) 0 0 cap))] [(3, .int (nI (n + (numT v).length))), (2, .int (nI n)), (0, .ref 0), (1, .int (nI v))] [] 17
  refine r_aload_n hC dJ5_append_c97b9_17 rfl (j := 2) rfl ?_
  refine r_callX hC (vs := []) vJ5_append_c97b9_18 (sj_lat2 (d := d + 2) (n := n)) (show _ = some (mO 1 [.ref 2, .int 0, .int ml, .int (nI n)]) from rfl) rfl rfl (by omega) (by omega) (by omega) (Nat.le_of_ble_eq_true rfl) (fun v_3 w_3 hP_3 hlen_3 => ?_)
  obtain ⟨rfl, rfl⟩ := hP_3
  show Wp X (0 + 1) (0 + (capN cap (n + (numT v).length))) [(mO 1 [.ref 2, .int 0, .int ml, .int (nI n)]), (mI 5 cap a), (mI 5 (capN cap (n + (numT v).length)) (va_cpy a (fun _ => 0) 0 0 cap))] [(3, .int (nI (n + (numT v).length))), (2, .int (nI n)), (0, .ref 0), (1, .int (nI v))] [.int 1] 21
  refine r_if_eq hC dJ5_append_c97b9_21 (tgt := 37) (by decide) (fun h => absurd h (by decide)) (fun _ => ?_)
  refine r_iload_n hC dJ5_append_c97b9_24 rfl (j := 3) rfl ?_
  refine r_iload_n hC dJ5_append_c97b9_25 rfl (j := 0) rfl ?_
  refine r_aload_n hC dJ5_append_c97b9_26 rfl (j := 2) rfl ?_
  refine r_get hC gJ5_append_c97b9_27 (show _ = some (mO 1 [.ref 2, .int 0, .int ml, .int (nI n)]) from rfl) (v := .ref 2) rfl ?_
  refine r_callS hC (vs := [.int (nI v), .int (nI (n + (numT v).length)), .ref 2]) vJ5_append_c97b9_30 (sj_gc (d := d + 2) (b := n) (cap := (capN cap (n + (numT v).length))) (h := 2) (a := (va_cpy a (fun _ => 0) 0 0 cap)) hv hcq hb rfl) rfl (by omega) (by omega) (by omega) (Nat.le_of_ble_eq_true rfl) (fun v_4 w_4 hP_4 hlen_4 => ?_) (fun _ _ h => h.elim)
  obtain ⟨rfl, rfl⟩ := hP_4
  show Wp X (0 + 1) (0 + (capN cap (n + (numT v).length))) [(mO 1 [.ref 2, .int 0, .int ml, .int (nI n)]), (mI 5 cap a), (mI 5 (capN cap (n + (numT v).length)) (numA (va_cpy a (fun _ => 0) 0 0 cap) n v))] [(3, .int (nI (n + (numT v).length))), (2, .int (nI n)), (0, .ref 0), (1, .int (nI v))] [.int (nI n)] 33
  refine r_pop hC dJ5_append_c97b9_33 rfl ?_
  refine r_goto hC dJ5_append_c97b9_34 (tgt := 48) (by decide) ?_
  refine r_aload_n hC dJ5_append_c97b9_48 rfl (j := 2) rfl ?_
  refine r_iload_n hC dJ5_append_c97b9_49 rfl (j := 0) rfl ?_
  refine r_put' hC pJ5_append_c97b9_50 (show _ = some (mO 1 [.ref 2, .int 0, .int ml, .int (nI n)]) from rfl) (Nat.le_of_ble_eq_true rfl) (fun _ => rfl) (fun _ => rfl) (fun w_5 ew_5 => ?_)
  subst ew_5
  show Wp X (0 + 1) (0 + (capN cap (n + (numT v).length))) [(mO 1 [.ref 2, .int 0, .int ml, .int (nI (n + (numT v).length))]), (mI 5 cap a), (mI 5 (capN cap (n + (numT v).length)) (numA (va_cpy a (fun _ => 0) 0 0 cap) n v))] [(3, .int (nI (n + (numT v).length))), (2, .int (nI n)), (0, .ref 0), (1, .int (nI v))] [] _
  refine r_aload_n hC dJ5_append_c97b9_53 rfl (j := 2) rfl ?_
  refine n_aret hC hE (Or.inl ⟨_, rfl⟩) hR dJ5_append_c97b9_54 (by omega) (by omega) (Nat.le_of_ble_eq_true rfl) ?_
  exact ⟨rfl, rfl⟩
set_option maxRecDepth 100000 in
set_option maxHeartbeats 4000000 in
theorem sj_api4_1 {v mc ms : Nat} {d n cap : Nat} {ml : Int32} {a : Nat → Int32} (hn : n ≤ cap) (hv : v < 1000) (hb : (capN cap (n + (numT v).length)) ≤ 65536) (hq : cap < n + (numT v).length) (hf : sb_Fit a) (hmc : 1 ≤ mc) (hms : (capN cap (n + (numT v).length)) ≤ ms) : SpN (d + 5) yJ4_append_bf812 cJ4_append_bf812 2 (some (.object "java/lang/StringBuilder")) [.ref 0, .int (nI v)] [(mO 1 [.ref 1, .int 0, .int ml, .int (nI n)]), (mI 5 cap a)] mc ms (fun v9 w' => v9 = some (.ref 0) ∧ w' = [(mO 1 [.ref 2, .int 0, .int ml, .int (nI (n + (numT v).length))]), (mI 5 cap a), (mI 5 (capN cap (n + (numT v).length)) (numA (va_cpy a (fun _ => 0) 0 0 cap) n v))]) := by
  refine SpN.of (by decide +kernel) (Nat.le_of_ble_eq_true rfl) (fun X hC hnl hE hR hN hNm => ?_)
  have hC : Cx X RJ4 cJ4_append_bf812 (d + 5) mc ms := hC
  show Wp X 0 0 [(mO 1 [.ref 1, .int 0, .int ml, .int (nI n)]), (mI 5 cap a)] [(0, .ref 0), (1, .int (nI v))] [] 0
  refine r_aload_n hC dJ4_append_bf812_0 rfl (j := 0) rfl ?_
  refine r_iload_n hC dJ4_append_bf812_1 rfl (j := 1) rfl ?_
  refine n_callSU hC (vs := [.int (nI v)]) vJ4_append_bf812_2 (sj_api5_1 (d := d) (mc := mc) (ms := ms) hn hv hb hq hf hmc hms) (show _ = some (mO 1 [.ref 1, .int 0, .int ml, .int (nI n)]) from rfl) rfl rfl (by omega) (by omega) (by omega) (Nat.le_of_ble_eq_true rfl) ⟨(Or.inl (Nat.le_of_ble_eq_true rfl)), trivial, trivial⟩ trivial (fun v_1 w_1 X hT hP_1 hlen_1 => ?_)
  have hC := Cx.tie hT hC
  have hnl := (mNL.tie hT).trans hnl
  have hE := mEndN.tie hT (Nat.le_of_ble_eq_true rfl) hE
  have hR := mRet.tie hT hR
  have hN := mNoTab.tie hT hN
  have hNm := mNam.tie hT hNm
  clear hT
  obtain ⟨rfl, rfl⟩ := hP_1
  show Wp X (0 + mc) (0 + ms) [(mO 1 [.ref 2, .int 0, .int ml, .int (nI (n + (numT v).length))]), (mI 5 cap a), (mI 5 (capN cap (n + (numT v).length)) (numA (va_cpy a (fun _ => 0) 0 0 cap) n v))] [(0, .ref 0), (1, .int (nI v))] [.ref 0] 5
  refine r_pop hC dJ4_append_bf812_5 rfl ?_
  refine r_aload_n hC dJ4_append_bf812_6 rfl (j := 0) rfl ?_
  refine n_aret hC hE (Or.inl ⟨_, rfl⟩) hR dJ4_append_bf812_7 (by omega) (by omega) (Nat.le_of_ble_eq_true rfl) ?_
  exact ⟨rfl, rfl⟩
end JD3
