section HL2
def hSteep (f : Nat → Int32) (op : Int32) (c : Nat) : Int32 := f c - f (hLow f op c)
set_option maxRecDepth 100000 in
set_option maxHeartbeats 4000000 in
theorem sp_steep {d c : Nat} {w : mW} {h a b : Nat} {f g : Nat → Int32} {sl op lo : Int32} (H : HillAt w h a b (f, g, sl, op, lo)) (hc : c < 25) : Sp (d + 1) yX4_steepnessOf cX4_steepnessOf 2 (some .int) [.ref h, .int (nI c)] w 0 0 (fun v w' => v = some (.int (hSteep f op c)) ∧ w' = w) noX := by
  refine Sp.of (by decide +kernel) (Nat.le_of_ble_eq_true rfl) (fun X hC hnl hE hR hN => ?_)
  have hC : Cx X RX4 cX4_steepnessOf (d + 1) 0 0 := hC
  show Wp X 0 0 w [(0, .ref h), (1, .int (nI c))] [] 0
  obtain ⟨nha, nhb, nab⟩ := H.ne
  have hh : w[h]? = some (mO 6 [.ref a, .ref b, .int sl, .int op, .int lo]) := H.1
  have ha : w[a]? = some (mI 0 26 f) := H.2.1
  have hb : w[b]? = some (mI 0 25 g) := H.2.2
  have hlt := hLow_lt (f := f) (op := op) hc
  refine r_aload_n hC dX4_steepnessOf_0 rfl (j := 0) rfl ?_
  refine r_get hC gX4_steepnessOf_1 hh (v := .ref a) rfl ?_
  refine r_iload_n hC dX4_steepnessOf_4 rfl (j := 1) rfl ?_
  refine r_iald hC dX4_steepnessOf_5 (j := c) ha (mIx_nI (by omega) (by decide)) ?_
  refine r_aload_n hC dX4_steepnessOf_6 rfl (j := 0) rfl ?_
  refine r_get hC gX4_steepnessOf_7 hh (v := .ref a) rfl ?_
  refine r_aload_n hC dX4_steepnessOf_10 rfl (j := 0) rfl ?_
  refine r_iload_n hC dX4_steepnessOf_11 rfl (j := 1) rfl ?_
  refine r_callV hC (vs := [.int (nI c)]) vX4_steepnessOf_12 (sp_low (d := d) H hc) hh rfl rfl (by omega) (by omega) (by omega) (Nat.le_of_ble_eq_true rfl) (fun v_1 w_1 hP_1 hlen_1 => ?_) (fun _ _ h => h.elim)
  rw [hP_1.1, hP_1.2]
  show Wp X 0 0 w [(0, .ref h), (1, .int (nI c))] [.int (nI (hLow f op c)), .ref a, .int (f c)] 15
  refine r_iald hC dX4_steepnessOf_15 (j := (hLow f op c)) ha (mIx_nI (by omega) (by decide)) ?_
  refine r_isub hC dX4_steepnessOf_16 ?_
  refine r_iret hC hE hR dX4_steepnessOf_17 (by omega) (by omega) (rfl) ?_
  exact ⟨rfl, rfl⟩
/-- a cell or none, as the number that the code has -/
def oI : Option Nat → Int32
  | none => -1
  | some k => nI k
def oAt (f : Nat → Int32) : Option Nat → Int32
  | none => 0
  | some k => f k
/-- the highest unstable cell below the place c -/
def hNext (f : Nat → Int32) (op sl : Int32) : Nat → Option Nat
  | 0 => none
  | c + 1 => if (hNext f op sl c = none ∨ ¬ f c ≤ oAt f (hNext f op sl c)) ∧ ¬ hSteep f op c < sl then some c else hNext f op sl c
theorem hNext_lt {f : Nat → Int32} {op sl : Int32} : ∀ {c k : Nat}, hNext f op sl c = some k → k < c
  | 0, k, h => by cases h
  | c + 1, k, h => by
    unfold hNext at h
    split at h
    · cases h; omega
    · have := hNext_lt h; omega
theorem oI_none {o : Option Nat} {N : Nat} (ho : ∀ k, o = some k → k < N) (hN : N < 2 ^ 31) : oI o = -1 ↔ o = none := by
  cases o with
  | none => exact ⟨fun _ => rfl, fun _ => rfl⟩
  | some k =>
    refine ⟨fun h => ?_, fun h => by cases h⟩
    have hk := ho k rfl
    have h2 : nI k = -1 := h
    have h3 := congrArg Int32.toInt h2
    rw [nI_toInt (by omega)] at h3
    exact absurd h3 (by show ¬ (k : Int) = -1; omega)
set_option maxRecDepth 100000 in
set_option maxHeartbeats 4000000 in
theorem fhu_it {X : mC} {d : Nat} {c : Nat} {w : mW} {h a b : Nat} {f g : Nat → Int32} {sl op lo : Int32} (hC : Cx X RX4 cX4_findHighestUnstable (d + 2) 0 0) (hnl : mNL X = 4) (H : HillAt w h a b (f, g, sl, op, lo)) (hc : c < 25) (kk : Wp X 0 0 w [(0, .ref h), (1, .int (oI (hNext f op sl (c + 1)))), (2, .int (nI (c + 1)))] [] 4) : Wp X 0 0 w [(0, .ref h), (1, .int (oI (hNext f op sl c))), (2, .int (nI c))] [] 4 := by
  obtain ⟨nha, nhb, nab⟩ := H.ne
  have hh : w[h]? = some (mO 6 [.ref a, .ref b, .int sl, .int op, .int lo]) := H.1
  have ha : w[a]? = some (mI 0 26 f) := H.2.1
  have hb : w[b]? = some (mI 0 25 g) := H.2.2
  have hlt := fun k => hNext_lt (f := f) (op := op) (sl := sl) (c := c) (k := k)
  refine r_iload_n hC dX4_findHighestUnstable_4 rfl (j := 2) rfl ?_
  refine r_bipush hC dX4_findHighestUnstable_5 (v := 25) (by decide) ?_
  refine r_icmp_ge hC dX4_findHighestUnstable_7 (tgt := 60) (by decide) (fun h => absurd h (lit_ge rfl hc (by decide))) (fun _ => ?_)
  refine r_iload_n hC dX4_findHighestUnstable_10 rfl (j := 1) rfl ?_
  refine r_iconst hC dX4_findHighestUnstable_11 (v := (-1)) (by decide) ?_
  refine r_icmp_eq hC dX4_findHighestUnstable_12 (tgt := 30) (by decide) (fun c12 => ?_) (fun c12 => ?_)
  · refine r_iconst hC dX4_findHighestUnstable_30 (v := 1) (by decide) ?_
    refine r_goto hC dX4_findHighestUnstable_31 (tgt := 35) (by decide) ?_
    refine r_istore_n hC dX4_findHighestUnstable_35 rfl (by rw [hnl]; decide) (L' := [(3, .int 1), (0, .ref h), (1, .int (oI (hNext f op sl c))), (2, .int (nI c))]) rfl ?_
    refine r_iload_n hC dX4_findHighestUnstable_36 rfl (j := 0) rfl ?_
    refine r_if_eq hC dX4_findHighestUnstable_37 (tgt := 54) (by decide) (fun h => absurd h (by decide)) (fun _ => ?_)
    refine r_aload_n hC dX4_findHighestUnstable_40 rfl (j := 1) rfl ?_
    refine r_iload_n hC dX4_findHighestUnstable_41 rfl (j := 3) rfl ?_
    refine r_callV hC (vs := [.int (nI c)]) vX4_findHighestUnstable_42 (sp_steep (d := d) H hc) hh rfl rfl (by omega) (by omega) (by omega) (Nat.le_of_ble_eq_true rfl) (fun v_1 w_1 hP_1 hlen_1 => ?_) (fun _ _ h => h.elim)
    rw [hP_1.1, hP_1.2]
    show Wp X 0 0 w [(3, .int 1), (0, .ref h), (1, .int (oI (hNext f op sl c))), (2, .int (nI c))] [.int (hSteep f op c)] 45
    refine r_aload_n hC dX4_findHighestUnstable_45 rfl (j := 1) rfl ?_
    refine r_get hC gX4_findHighestUnstable_46 hh (v := .int sl) rfl ?_
    refine r_icmp_lt hC dX4_findHighestUnstable_49 (tgt := 54) (by decide) (fun c49 => ?_) (fun c49 => ?_)
    · refine r_iinc hC dX4_findHighestUnstable_54 (j := 3) rfl (v := nI (c + 1)) (nI_succ c).symm (by rw [hnl]; decide) (L' := [(2, .int (nI (c + 1))), (3, .int 1), (0, .ref h), (1, .int (oI (hNext f op sl c)))]) rfl ?_
      refine r_goto hC dX4_findHighestUnstable_57 (tgt := 4) (by decide) ?_
      refine r_locals [2, 3, 0] (L' := [(0, .ref h), (1, .int (oI (hNext f op sl c))), (2, .int (nI (c + 1)))]) rfl ?_
      have e9 : hNext f op sl (c + 1) = hNext f op sl c := if_neg (fun q => q.2 c49)
      rw [e9] at kk
      exact kk
    · refine r_iload_n hC dX4_findHighestUnstable_52 rfl (j := 3) rfl ?_
      refine r_istore_n hC dX4_findHighestUnstable_53 rfl (by rw [hnl]; decide) (L' := [(1, .int (nI c)), (3, .int 1), (0, .ref h), (2, .int (nI c))]) rfl ?_
      refine r_iinc hC dX4_findHighestUnstable_54 (j := 3) rfl (v := nI (c + 1)) (nI_succ c).symm (by rw [hnl]; decide) (L' := [(2, .int (nI (c + 1))), (1, .int (nI c)), (3, .int 1), (0, .ref h)]) rfl ?_
      refine r_goto hC dX4_findHighestUnstable_57 (tgt := 4) (by decide) ?_
      refine r_locals [3, 1, 0] (L' := [(0, .ref h), (1, .int (nI c)), (2, .int (nI (c + 1)))]) rfl ?_
      have e9 : hNext f op sl (c + 1) = some c := if_pos ⟨Or.inl ((oI_none (N := 25) (fun k h => by have := hlt k h; omega) (by decide)).mp c12), c49⟩
      rw [e9] at kk
      exact kk
  · refine r_aload_n hC dX4_findHighestUnstable_15 rfl (j := 0) rfl ?_
    refine r_get hC gX4_findHighestUnstable_16 hh (v := .ref a) rfl ?_
    refine r_iload_n hC dX4_findHighestUnstable_19 rfl (j := 2) rfl ?_
    refine r_iald hC dX4_findHighestUnstable_20 (j := c) ha (mIx_nI (by omega) (by decide)) ?_
    refine r_aload_n hC dX4_findHighestUnstable_21 rfl (j := 0) rfl ?_
    refine r_get hC gX4_findHighestUnstable_22 hh (v := .ref a) rfl ?_
    refine r_iload_n hC dX4_findHighestUnstable_25 rfl (j := 1) rfl ?_
    obtain ⟨k9, hk9⟩ : ∃ k, hNext f op sl c = some k := by
      cases hq9 : hNext f op sl c with
      | none => exact absurd (by rw [hq9]; rfl) c12
      | some k => exact ⟨k, rfl⟩
    have hkl := hlt k9 hk9
    have ho1 : oI (hNext f op sl c) = nI k9 := by rw [hk9]; rfl
    have ho2 : f k9 = oAt f (hNext f op sl c) := by rw [hk9]; rfl
    refine r_iald hC dX4_findHighestUnstable_26 (j := k9) ha (by rw [ho1]; exact mIx_nI (by omega) (by decide)) ?_
    rw [ho2]
    refine r_icmp_le hC dX4_findHighestUnstable_27 (tgt := 34) (by decide) (fun c27 => ?_) (fun c27 => ?_)
    · refine r_iconst hC dX4_findHighestUnstable_34 (v := 0) (by decide) ?_
      refine r_istore_n hC dX4_findHighestUnstable_35 rfl (by rw [hnl]; decide) (L' := [(3, .int 0), (0, .ref h), (1, .int (oI (hNext f op sl c))), (2, .int (nI c))]) rfl ?_
      refine r_iload_n hC dX4_findHighestUnstable_36 rfl (j := 0) rfl ?_
      refine r_if_eq hC dX4_findHighestUnstable_37 (tgt := 54) (by decide) (fun _ => ?_) (fun h => absurd (by decide) h)
      refine r_iinc hC dX4_findHighestUnstable_54 (j := 3) rfl (v := nI (c + 1)) (nI_succ c).symm (by rw [hnl]; decide) (L' := [(2, .int (nI (c + 1))), (3, .int 0), (0, .ref h), (1, .int (oI (hNext f op sl c)))]) rfl ?_
      refine r_goto hC dX4_findHighestUnstable_57 (tgt := 4) (by decide) ?_
      refine r_locals [2, 3, 0] (L' := [(0, .ref h), (1, .int (oI (hNext f op sl c))), (2, .int (nI (c + 1)))]) rfl ?_
      have e9 : hNext f op sl (c + 1) = hNext f op sl c := if_neg (fun q => q.1.elim (fun h => c12 ((oI_none (N := 25) (fun k h => by have := hlt k h; omega) (by decide)).mpr h)) (fun h => h c27))
      rw [e9] at kk
      exact kk
    · refine r_iconst hC dX4_findHighestUnstable_30 (v := 1) (by decide) ?_
      refine r_goto hC dX4_findHighestUnstable_31 (tgt := 35) (by decide) ?_
      refine r_istore_n hC dX4_findHighestUnstable_35 rfl (by rw [hnl]; decide) (L' := [(3, .int 1), (0, .ref h), (1, .int (oI (hNext f op sl c))), (2, .int (nI c))]) rfl ?_
      refine r_iload_n hC dX4_findHighestUnstable_36 rfl (j := 0) rfl ?_
      refine r_if_eq hC dX4_findHighestUnstable_37 (tgt := 54) (by decide) (fun h => absurd h (by decide)) (fun _ => ?_)
      refine r_aload_n hC dX4_findHighestUnstable_40 rfl (j := 1) rfl ?_
      refine r_iload_n hC dX4_findHighestUnstable_41 rfl (j := 3) rfl ?_
      refine r_callV hC (vs := [.int (nI c)]) vX4_findHighestUnstable_42 (sp_steep (d := d) H hc) hh rfl rfl (by omega) (by omega) (by omega) (Nat.le_of_ble_eq_true rfl) (fun v_2 w_2 hP_2 hlen_2 => ?_) (fun _ _ h => h.elim)
      rw [hP_2.1, hP_2.2]
      show Wp X 0 0 w [(3, .int 1), (0, .ref h), (1, .int (oI (hNext f op sl c))), (2, .int (nI c))] [.int (hSteep f op c)] 45
      refine r_aload_n hC dX4_findHighestUnstable_45 rfl (j := 1) rfl ?_
      refine r_get hC gX4_findHighestUnstable_46 hh (v := .int sl) rfl ?_
      refine r_icmp_lt hC dX4_findHighestUnstable_49 (tgt := 54) (by decide) (fun c49 => ?_) (fun c49 => ?_)
      · refine r_iinc hC dX4_findHighestUnstable_54 (j := 3) rfl (v := nI (c + 1)) (nI_succ c).symm (by rw [hnl]; decide) (L' := [(2, .int (nI (c + 1))), (3, .int 1), (0, .ref h), (1, .int (oI (hNext f op sl c)))]) rfl ?_
        refine r_goto hC dX4_findHighestUnstable_57 (tgt := 4) (by decide) ?_
        refine r_locals [2, 3, 0] (L' := [(0, .ref h), (1, .int (oI (hNext f op sl c))), (2, .int (nI (c + 1)))]) rfl ?_
        have e9 : hNext f op sl (c + 1) = hNext f op sl c := if_neg (fun q => q.2 c49)
        rw [e9] at kk
        exact kk
      · refine r_iload_n hC dX4_findHighestUnstable_52 rfl (j := 3) rfl ?_
        refine r_istore_n hC dX4_findHighestUnstable_53 rfl (by rw [hnl]; decide) (L' := [(1, .int (nI c)), (3, .int 1), (0, .ref h), (2, .int (nI c))]) rfl ?_
        refine r_iinc hC dX4_findHighestUnstable_54 (j := 3) rfl (v := nI (c + 1)) (nI_succ c).symm (by rw [hnl]; decide) (L' := [(2, .int (nI (c + 1))), (1, .int (nI c)), (3, .int 1), (0, .ref h)]) rfl ?_
        refine r_goto hC dX4_findHighestUnstable_57 (tgt := 4) (by decide) ?_
        refine r_locals [3, 1, 0] (L' := [(0, .ref h), (1, .int (nI c)), (2, .int (nI (c + 1)))]) rfl ?_
        have e9 : hNext f op sl (c + 1) = some c := if_pos ⟨Or.inr c27, c49⟩
        rw [e9] at kk
        exact kk
set_option maxRecDepth 100000 in
theorem fhu_all {X : mC} {d : Nat} {w : mW} {h a b : Nat} {f g : Nat → Int32} {sl op lo : Int32} (hC : Cx X RX4 cX4_findHighestUnstable (d + 2) 0 0) (hnl : mNL X = 4) (H : HillAt w h a b (f, g, sl, op, lo)) (kk : Wp X 0 0 w [(0, .ref h), (1, .int (oI (hNext f op sl 25))), (2, .int (nI 25))] [] 4) : ∀ n c : Nat, c + n = 25 → Wp X 0 0 w [(0, .ref h), (1, .int (oI (hNext f op sl c))), (2, .int (nI c))] [] 4 := by
  intro n
  induction n with
  | zero =>
    intro c h9
    obtain rfl : c = 25 := by omega
    exact kk
  | succ n ih =>
    intro c h9
    exact fhu_it hC hnl H (by omega) (ih (c + 1) (by omega))
set_option maxRecDepth 100000 in
set_option maxHeartbeats 4000000 in
theorem sp_next {d : Nat} {w : mW} {h a b : Nat} {f g : Nat → Int32} {sl op lo : Int32} (H : HillAt w h a b (f, g, sl, op, lo)) : Sp (d + 2) yX4_findHighestUnstable cX4_findHighestUnstable 4 (some .int) [.ref h] w 0 0 (fun v w' => v = some (.int (oI (hNext f op sl 25))) ∧ w' = w) noX := by
  refine Sp.of (by decide +kernel) (Nat.le_of_ble_eq_true rfl) (fun X hC hnl hE hR hN => ?_)
  have hC : Cx X RX4 cX4_findHighestUnstable (d + 2) 0 0 := hC
  show Wp X 0 0 w [(0, .ref h)] [] 0
  obtain ⟨nha, nhb, nab⟩ := H.ne
  have hh : w[h]? = some (mO 6 [.ref a, .ref b, .int sl, .int op, .int lo]) := H.1
  have ha : w[a]? = some (mI 0 26 f) := H.2.1
  have hb : w[b]? = some (mI 0 25 g) := H.2.2
  refine r_iconst hC dX4_findHighestUnstable_0 (v := (-1)) (by decide) ?_
  refine r_istore_n hC dX4_findHighestUnstable_1 rfl (by rw [hnl]; decide) (L' := [(1, .int (-1)), (0, .ref h)]) rfl ?_
  refine r_iconst hC dX4_findHighestUnstable_2 (v := 0) (by decide) ?_
  refine r_istore_n hC dX4_findHighestUnstable_3 rfl (by rw [hnl]; decide) (L' := [(2, .int 0), (1, .int (-1)), (0, .ref h)]) rfl ?_
  refine r_locals [2, 1, 0] (L' := [(0, .ref h), (1, .int (-1)), (2, .int 0)]) rfl ?_
  refine fhu_all hC hnl H ?_ 25 0 rfl
  refine r_iload_n hC dX4_findHighestUnstable_4 rfl (j := 2) rfl ?_
  refine r_bipush hC dX4_findHighestUnstable_5 (v := 25) (by decide) ?_
  refine r_icmp_ge hC dX4_findHighestUnstable_7 (tgt := 60) (by decide) (fun _ => ?_) (fun h => absurd (lit_le rfl (Nat.le_refl 25) (by decide)) h)
  refine r_iload_n hC dX4_findHighestUnstable_60 rfl (j := 1) rfl ?_
  refine r_iret hC hE hR dX4_findHighestUnstable_61 (by omega) (by omega) (rfl) ?_
  exact ⟨rfl, rfl⟩
end HL2
