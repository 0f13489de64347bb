section KT
theorem c128 : ∀ c, c < 128 → nI c &&& 255 = nI c ∧ ((nI c).toUInt32 % 65536).toInt32 = nI c := by decide +kernel
set_option maxRecDepth 100000 in
set_option maxHeartbeats 4000000 in
theorem sk_coder {d h vh : Nat} {w : mW} (hc : ("java/lang/String", "coder", "B", Value.int 0, h) ∈ gFs) (hv : ("java/lang/String", "value", "[B", Value.ref vh, h) ∈ gFs) (hO : ("java/lang/String", h) ∈ gOs) : Sp d yJ0_coder_7d493 cJ0_coder_7d493 1 (some .byte) [.ref h] w 0 0 (fun v w' => v = some (.int 0) ∧ w' = w) noX := by
  refine Sp.of (by decide +kernel) (Nat.le_of_ble_eq_true rfl) (fun X hC hnl hE hR hN => ?_)
  have hC : Cx X RJ0 cJ0_coder_7d493 d 0 0 := hC
  show Wp X 0 0 w [(0, .ref h)] [] 0
  refine r_gets hC sJ0_coder_7d493_0 (v := .int 1) gZ_cs ?_
  refine r_if_eq hC dJ0_coder_7d493_3 (tgt := 13) (by decide) (fun h => absurd h (by decide)) (fun _ => ?_)
  refine r_aload_n hC dJ0_coder_7d493_6 rfl (j := 0) rfl ?_
  refine r_getk hC gJ0_coder_7d493_7 (v := .int 0) hc ?_
  refine r_goto hC dJ0_coder_7d493_10 (tgt := 14) (by decide) ?_
  refine r_nret hC hE hR dJ0_coder_7d493_14 (by decide) (by omega) (by omega) rfl ?_
  exact ⟨rfl, rfl⟩
set_option maxRecDepth 100000 in
set_option maxHeartbeats 4000000 in
theorem sk_lat {d h vh : Nat} {w : mW} (hc : ("java/lang/String", "coder", "B", Value.int 0, h) ∈ gFs) (hv : ("java/lang/String", "value", "[B", Value.ref vh, h) ∈ gFs) (hO : ("java/lang/String", h) ∈ gOs) : Sp d yJ0_isLatin1_aae02 cJ0_isLatin1_aae02 1 (some .boolean) [.ref h] w 0 0 (fun v w' => v = some (.int 1) ∧ w' = w) noX := by
  refine Sp.of (by decide +kernel) (Nat.le_of_ble_eq_true rfl) (fun X hC hnl hE hR hN => ?_)
  have hC : Cx X RJ0 cJ0_isLatin1_aae02 d 0 0 := hC
  show Wp X 0 0 w [(0, .ref h)] [] 0
  refine r_gets hC sJ0_isLatin1_aae02_0 (v := .int 1) gZ_cs ?_
  refine r_if_eq hC dJ0_isLatin1_aae02_3 (tgt := 17) (by decide) (fun h => absurd h (by decide)) (fun _ => ?_)
  refine r_aload_n hC dJ0_isLatin1_aae02_6 rfl (j := 0) rfl ?_
  refine r_getk hC gJ0_isLatin1_aae02_7 (v := .int 0) hc ?_
  refine r_if_ne hC dJ0_isLatin1_aae02_10 (tgt := 17) (by decide) (fun h => absurd (by decide) h) (fun _ => ?_)
  refine r_iconst hC dJ0_isLatin1_aae02_13 (v := 1) (by decide) ?_
  refine r_goto hC dJ0_isLatin1_aae02_14 (tgt := 18) (by decide) ?_
  refine r_nret hC hE hR dJ0_isLatin1_aae02_18 (by decide) (by omega) (by omega) rfl ?_
  exact ⟨rfl, rfl⟩
set_option maxRecDepth 100000 in
set_option maxHeartbeats 4000000 in
theorem sk_len {N : Nat} {f : Nat → Value} {d h vh : Nat} {w : mW} (hc : ("java/lang/String", "coder", "B", Value.int 0, h) ∈ gFs) (hv : ("java/lang/String", "value", "[B", Value.ref vh, h) ∈ gFs) (hO : ("java/lang/String", h) ∈ gOs) (hT : ((.byte : FieldType), vh, N, f) ∈ gTs) : Sp (d + 1) yJ0_length_8abf5 cJ0_length_8abf5 1 (some .int) [.ref h] w 0 0 (fun v w' => v = some (.int (nI N)) ∧ w' = w) noX := by
  refine Sp.of (by decide +kernel) (Nat.le_of_ble_eq_true rfl) (fun X hC hnl hE hR hN => ?_)
  have hC : Cx X RJ0 cJ0_length_8abf5 (d + 1) 0 0 := hC
  show Wp X 0 0 w [(0, .ref h)] [] 0
  refine r_aload_n hC dJ0_length_8abf5_0 rfl (j := 0) rfl ?_
  refine r_getk hC gJ0_length_8abf5_1 (v := .ref vh) hv ?_
  refine r_alenS hC dJ0_length_8abf5_4 (v := (nI N)) hT rfl ?_
  refine r_aload_n hC dJ0_length_8abf5_5 rfl (j := 0) rfl ?_
  refine r_callXK hC (vs := []) vJ0_length_8abf5_6 (sk_coder (d := d) hc hv hO) hO rfl (by omega) (by omega) (by omega) (Nat.le_of_ble_eq_true rfl) (fun v_1 w_1 hP_1 hlen_1 => ?_)
  rw [hP_1.1, hP_1.2]
  show Wp X 0 0 w [(0, .ref h)] [.int 0, .int (nI N)] 9
  refine r_ishr0 hC dJ0_length_8abf5_9 ?_
  refine r_iret hC hE hR dJ0_length_8abf5_10 (by omega) (by omega) rfl ?_
  exact ⟨rfl, rfl⟩
set_option maxRecDepth 100000 in
set_option maxHeartbeats 4000000 in
theorem sk_chr1 {d vh N i c : Nat} {f : Nat → Value} {w : mW}  (hT : ((.byte : FieldType), vh, N, f) ∈ gTs) (hi : i < N) (hN9 : N < 100) (hx : f i = .int (nI c)) (hc9 : c < 128) : Sp (d + 2) yJ1_charAt_3b067 cJ1_charAt_3b067 2 (some .char) [.ref vh, .int (nI i)] w 0 0 (fun v w' => v = some (.int (nI c)) ∧ w' = w) noX := by
  refine Sp.of (by decide +kernel) (Nat.le_of_ble_eq_true rfl) (fun X hC hnl hE hR hN => ?_)
  have hC : Cx X RJ1 cJ1_charAt_3b067 (d + 2) 0 0 := hC
  show Wp X 0 0 w [(0, .ref vh), (1, .int (nI i))] [] 0
  refine r_iload_n hC dJ1_charAt_3b067_0 rfl (j := 1) rfl ?_
  refine r_aload_n hC dJ1_charAt_3b067_1 rfl (j := 0) rfl ?_
  refine r_alenS hC dJ1_charAt_3b067_2 (v := (nI N)) hT rfl ?_
  refine r_callS hC (vs := [.int (nI i), .int (nI N)]) vJ1_charAt_3b067_3 (sj_chk (d := d) hi (by omega)) rfl (by omega) (by omega) (by omega) (Nat.le_of_ble_eq_true rfl) (fun v_1 w_1 hP_1 hlen_1 => ?_) (fun _ _ h => h.elim)
  rw [hP_1.1, hP_1.2]
  show Wp X 0 0 w [(0, .ref vh), (1, .int (nI i))] [] 6
  refine r_aload_n hC dJ1_charAt_3b067_6 rfl (j := 0) rfl ?_
  refine r_iload_n hC dJ1_charAt_3b067_7 rfl (j := 1) rfl ?_
  refine r_baldS hC dJ1_charAt_3b067_8 (j := i) hT (mIx_nI hi (by omega)) ?_
  rw [hx]
  refine r_sipush hC dJ1_charAt_3b067_9 (v := 255) (by decide) ?_
  refine r_iand hC dJ1_charAt_3b067_12 ?_
  rw [(c128 c hc9).1]
  refine r_i2c hC dJ1_charAt_3b067_13 rfl ?_
  rw [(c128 c hc9).2]
  refine r_nret hC hE hR dJ1_charAt_3b067_14 (nar_c _ (by omega)) (by omega) (by omega) rfl ?_
  exact ⟨rfl, rfl⟩
set_option maxRecDepth 100000 in
set_option maxHeartbeats 4000000 in
theorem sk_chr {N i c : Nat} {f : Nat → Value} {d h vh : Nat} {w : mW} (hc : ("java/lang/String", "coder", "B", Value.int 0, h) ∈ gFs) (hv : ("java/lang/String", "value", "[B", Value.ref vh, h) ∈ gFs) (hO : ("java/lang/String", h) ∈ gOs) (hT : ((.byte : FieldType), vh, N, f) ∈ gTs) (hi : i < N) (hN9 : N < 100) (hx : f i = .int (nI c)) (hc9 : c < 128) : Sp (d + 3) yJ0_charAt_5068e cJ0_charAt_5068e 2 (some .char) [.ref h, .int (nI i)] w 0 0 (fun v w' => v = some (.int (nI c)) ∧ w' = w) noX := by
  refine Sp.of (by decide +kernel) (Nat.le_of_ble_eq_true rfl) (fun X hC hnl hE hR hN => ?_)
  have hC : Cx X RJ0 cJ0_charAt_5068e (d + 3) 0 0 := hC
  show Wp X 0 0 w [(0, .ref h), (1, .int (nI i))] [] 0
  refine r_aload_n hC dJ0_charAt_5068e_0 rfl (j := 0) rfl ?_
  refine r_callXK hC (vs := []) vJ0_charAt_5068e_1 (sk_lat (d := d) hc hv hO) hO rfl (by omega) (by omega) (by omega) (Nat.le_of_ble_eq_true rfl) (fun v_1 w_1 hP_1 hlen_1 => ?_)
  rw [hP_1.1, hP_1.2]
  show Wp X 0 0 w [(0, .ref h), (1, .int (nI i))] [.int 1] 4
  refine r_if_eq hC dJ0_charAt_5068e_4 (tgt := 16) (by decide) (fun h => absurd h (by decide)) (fun _ => ?_)
  refine r_aload_n hC dJ0_charAt_5068e_7 rfl (j := 0) rfl ?_
  refine r_getk hC gJ0_charAt_5068e_8 (v := .ref vh) hv ?_
  refine r_iload_n hC dJ0_charAt_5068e_11 rfl (j := 1) rfl ?_
  refine r_callS hC (vs := [.ref vh, .int (nI i)]) vJ0_charAt_5068e_12 (sk_chr1 (d := d) hT hi hN9 hx hc9) rfl (by omega) (by omega) (by omega) (Nat.le_of_ble_eq_true rfl) (fun v_2 w_2 hP_2 hlen_2 => ?_) (fun _ _ h => h.elim)
  rw [hP_2.1, hP_2.2]
  show Wp X 0 0 w [(0, .ref h), (1, .int (nI i))] [.int (nI c)] 15
  refine r_nret hC hE hR dJ0_charAt_5068e_15 (nar_c _ (by omega)) (by omega) (by omega) rfl ?_
  exact ⟨rfl, rfl⟩
set_option maxRecDepth 100000 in
set_option maxHeartbeats 4000000 in
theorem sk_ord {d h : Nat} {x : Int32} {w : mW} (hx : ("java/lang/Enum", "ordinal", "I", Value.int x, h) ∈ gFs) : Sp d yJx29ce0_ordinal_8abf5 cJx29ce0_ordinal_8abf5 1 (some .int) [.ref h] w 0 0 (fun v w' => v = some (.int x) ∧ w' = w) noX := by
  refine Sp.of (by decide +kernel) (Nat.le_of_ble_eq_true rfl) (fun X hC hnl hE hR hN => ?_)
  have hC : Cx X RJx29ce0 cJx29ce0_ordinal_8abf5 d 0 0 := hC
  show Wp X 0 0 w [(0, .ref h)] [] 0
  refine r_aload_n hC dJx29ce0_ordinal_8abf5_0 rfl (j := 0) rfl ?_
  refine r_getk hC gJx29ce0_ordinal_8abf5_1 (v := .int x) hx ?_
  refine r_iret hC hE hR dJx29ce0_ordinal_8abf5_4 (by omega) (by omega) rfl ?_
  exact ⟨rfl, rfl⟩
theorem oiJ5_3 : mObjI RJ5 cJ5_init_d00df 1 := ⟨3, mGood_in (List.mem_of_getElem? (i := 211) (by decide +kernel)) rfl, mGood_in (List.mem_of_getElem? (i := 99) (by decide +kernel)) rfl, mGood_in (List.mem_of_getElem? (i := 100) (by decide +kernel)) rfl, dJ5_init_d00df_1⟩
set_option maxRecDepth 100000 in
set_option maxHeartbeats 4000000 in
theorem sj_init5 {d k : Nat} {w : mW} (hk : w[k]? = some (mO 1 [.null, .int 0, .int 0, .int 0])) (hw : mLowW w.length w) (hlen : w.length < 999990) : SpN d yJ5_init_d00df cJ5_init_d00df 2 none [.ref k, .int 16] w 1 16 (fun v w' => v = none ∧ w' = (w ++ [mI 5 16 (fun _ => 0)]).set k (mO 1 [.ref w.length, .int 0, .int 0, .int 0])) := by
  refine SpN.of (by decide +kernel) (Nat.le_of_ble_eq_true rfl) (fun X hC hnl hE hR hN hNm => ?_)
  have hC : Cx X RJ5 cJ5_init_d00df d 1 16 := hC
  have hkl := lt_of_get hk
  show Wp X 0 0 w [(0, .ref k), (1, .int 16)] [] 0
  refine r_aload_n hC dJ5_init_d00df_0 rfl (j := 0) rfl ?_
  refine r_objI hC oiJ5_3 (Nat.le_of_ble_eq_true rfl) ?_
  refine r_gets hC sJ5_init_d00df_4 (v := .int 1) gZ_cs ?_
  refine r_if_eq hC dJ5_init_d00df_7 (tgt := 25) (by decide) (fun h => absurd h (by decide)) (fun _ => ?_)
  refine r_aload_n hC dJ5_init_d00df_10 rfl (j := 0) rfl ?_
  refine r_iload_n hC dJ5_init_d00df_11 rfl (j := 1) rfl ?_
  refine n_newa hC (atype := .byte) (ty := .byte) (t := 5) (N := 16) (a0 := (16, .inl (fun _ => 0))) ac_byte rfl (fun _ => rfl) (fun _ => rfl) (fun _ => rfl) (by decide) (by decide) (by decide) dJ5_init_d00df_12 hw (by omega) (by omega) (by omega) ⟨Or.inl hkl, trivial, trivial⟩ ⟨Or.inl hkl, trivial⟩ (fun X hT => ?_)
  have hC := Cx.tie hT hC
  have hE := mEndN.tie hT (Nat.le_refl _) hE
  have hR := mRet.tie hT hR
  have hN := mNoTab.tie hT hN
  clear hT
  show Wp X 1 16 (w ++ [mI 5 16 (fun _ => 0)]) [(0, .ref k), (1, .int 16)] [.ref w.length, .ref k] 14
  have hk2 : (w ++ [mI 5 16 (fun _ => 0)])[k]? = some (mO 1 [.null, .int 0, .int 0, .int 0]) := by rw [List.getElem?_append_left hkl]; exact hk
  refine r_put' hC pJ5_init_d00df_14 hk2 (Nat.le_of_ble_eq_true rfl) (fun _ => rfl) (fun _ => rfl) (fun w_1 ew_1 => ?_)
  have hk3 : w_1[k]? = some (mO 1 [.ref w.length, .int 0, .int 0, .int 0]) := by rw [ew_1]; exact List.getElem?_set_self (lt_of_get hk2)
  refine r_aload_n hC dJ5_init_d00df_17 rfl (j := 0) rfl ?_
  refine r_iconst hC dJ5_init_d00df_18 (v := 0) (by decide) ?_
  refine r_put' hC pJ5_init_d00df_19 hk3 (Nat.le_of_ble_eq_true rfl) (fun _ => rfl) (fun _ => rfl) (fun w_2 ew_2 => ?_)
  refine r_goto hC dJ5_init_d00df_22 (tgt := 38) (by decide) ?_
  refine n_vret hC hE hR dJ5_init_d00df_38 (Nat.le_refl _) (Nat.le_refl _) (by rw [ew_2, ew_1, List.length_set, List.length_set, List.length_append]; omega) ?_
  refine ⟨rfl, ?_⟩
  rw [ew_2, ew_1, List.set_set]
  rfl
set_option maxRecDepth 100000 in
set_option maxHeartbeats 4000000 in
theorem sj_init4 {d k : Nat} {w : mW} (hk : w[k]? = some (mO 1 [.null, .int 0, .int 0, .int 0])) (hw : mLowW w.length w) (hlen : w.length < 999990) : SpN (d + 1) yJ4_init_da8c8 cJ4_init_da8c8 1 none [.ref k] w 1 16 (fun v w' => v = none ∧ w' = (w ++ [mI 5 16 (fun _ => 0)]).set k (mO 1 [.ref w.length, .int 0, .int 0, .int 0])) := by
  refine SpN.of (by decide +kernel) (Nat.le_of_ble_eq_true rfl) (fun X hC hnl hE hR hN hNm => ?_)
  have hC : Cx X RJ4 cJ4_init_da8c8 (d + 1) 1 16 := hC
  have hkl := lt_of_get hk
  show Wp X 0 0 w [(0, .ref k)] [] 0
  refine r_aload_n hC dJ4_init_da8c8_0 rfl (j := 0) rfl ?_
  refine r_bipush hC dJ4_init_da8c8_1 (v := 16) (by decide) ?_
  refine n_callI hC (vs := [.int 16]) vJ4_init_da8c8_3 (sj_init5 (d := d) hk hw hlen) rfl (by omega) (by omega) (by omega) (Nat.le_of_ble_eq_true rfl) ⟨Or.inl hkl, trivial⟩ trivial (fun v_1 w_1 X hT hP_1 hlen_1 => ?_)
  have hC := Cx.tie hT hC
  have hE := mEndN.tie hT (Nat.le_refl _) hE
  have hR := mRet.tie hT hR
  clear hT
  obtain ⟨rfl, rfl⟩ := hP_1
  refine n_vret hC hE hR dJ4_init_da8c8_6 (by omega) (by omega) hlen_1 ?_
  exact ⟨rfl, rfl⟩
theorem st_init {d k : Nat} {w : mW} (hk : w[k]? = some (mO 1 [.null, .int 0, .int 0, .int 0])) (hw : mLowW w.length w) (hlen : w.length < 999990) : SpN (d + 1) yJ4_init_da8c8 cJ4_init_da8c8 1 none [.ref k] w 1 16 (fun v w' => v = none ∧ w' = w.set k (mT [])) :=
  SpN.foldT (lt_of_get hk) ((sj_init4 (d := d) hk hw hlen).imp (fun v w' h => ⟨h.1, 0, fun _ => 0, 16, by decide, sb_fit0, h.2⟩))
end KT
