section LN2
/-- only the object and the line differ -/
def Oq (m : Nat) (w w' : mW) : Prop := w'.length = w.length ∧ ∀ k, ¬ (k = m ∨ k = m + 7) → w'[k]? = w[k]?
theorem Oq.rfl {m : Nat} {w : mW} : Oq m w w := ⟨Eq.refl _, fun _ _ => Eq.refl _⟩
theorem Oq.trans {m : Nat} {w w1 w2 : mW} (h1 : Oq m w w1) (h2 : Oq m w1 w2) : Oq m w w2 := ⟨h2.1.trans h1.1, fun k hk => (h2.2 k hk).trans (h1.2 k hk)⟩
theorem Oq.set {m a : Nat} {w w1 : mW} {c : mE} (h1 : Oq m w w1) (h : a = m ∨ a = m + 7) : Oq m w (w1.set a c) := ⟨by rw [List.length_set]; exact h1.1, fun k hk => by
  have : a ≠ k := fun z => hk (by rw [← z]; exact h)
  rw [List.getElem?_set_ne this]; exact h1.2 k hk⟩
theorem Fr.oq {m : Nat} {w w1 w2 : mW} (h1 : Fr m w w1) (h2 : Oq m w1 w2) : Fr m w w2 := ⟨h2.1.trans h1.1, fun k hk => (h2.2 k (by omega)).trans (h1.2 k hk)⟩
theorem numTx_len {n : Nat} : 0 < (numTx n).length ∧ (numTx n).length ≤ 3 := by
  unfold numTx
  split
  · exact ⟨Nat.le_of_ble_eq_true rfl, Nat.le_of_ble_eq_true rfl⟩
  · split
    · exact ⟨Nat.le_of_ble_eq_true rfl, Nat.le_of_ble_eq_true rfl⟩
    · exact ⟨Nat.le_of_ble_eq_true rfl, Nat.le_of_ble_eq_true rfl⟩
theorem ownTx_len {x : Int32} : (ownTx x).length ≤ 1 := by
  unfold ownTx
  split
  · exact Nat.zero_le 1
  · exact Nat.le_refl 1
theorem cellTx_len {f g : Nat → Int32} {c : Nat} {b : Bool} : 0 < (cellTx f g c b).length ∧ (cellTx f g c b).length ≤ 6 := by
  have h1 := numTx_len (n := cN f c)
  have h2 := ownTx_len (x := g c)
  unfold cellTx
  simp only [List.length_append]
  have h3 : (if b = true then ([] : List Int32) else [32]).length ≤ 1 := by split <;> decide
  have h4 : (if hPeak f c = true then ([42] : List Int32) else []).length ≤ 1 := by split <;> decide
  omega
theorem rowTx_len {f g : Nat → Int32} {r : Nat} : ∀ {c : Nat}, (rowTx f g r c).length ≤ 6 * c ∧ (0 < c → 0 < (rowTx f g r c).length)
  | 0 => ⟨Nat.le_refl 0, fun h => absurd h (Nat.lt_irrefl 0)⟩
  | c + 1 => by
    have h := rowTx_len (f := f) (g := g) (r := r) (c := c)
    have h2 := cellTx_len (f := f) (g := g) (c := 5 * r + c) (b := decide (c = 0))
    unfold rowTx
    rw [List.length_append]
    omega
theorem r5 : ∀ r, r < 5 → 5 * nI r = nI (5 * r) ∧ 5 * nI r + 5 = nI (5 * r + 5) := by decide
theorem own97 {x : Int32} : 97 + (x + 1) - 1 = 97 + x := by
  rw [← Int32.add_assoc, Int32.add_sub_cancel]
set_option maxRecDepth 100000 in
set_option maxHeartbeats 4000000 in
theorem dr_it {X : mC} {d : Nat} {c : Nat} {w : mW} {m : Nat} {th ch ea fa sv0 tn he en iw id0 : Int32} {lf0 : Nat → Int32} {f g : Nat → Int32} {sl op lo : Int32} {hd rs : Nat → Int32} {np : Nat} {tp av lg pl tk : Int32} {r : Nat} (hC : Cx X RX9 cX9_describeRow (d + 2) 0 0) (hnl : mNL X = 3) (hm : w[m]? = some (mO 10 [.int th, .int ch, .int ea, .int fa, .int sv0, .ref (m + 1), .ref (m + 2), .ref (m + 3), .ref (m + 4), .ref (m + 5), .ref (m + 6), .ref (m + 7), .ref (m + 8), .ref (m + 9), .ref (m + 10), .int tn, .int he, .int en, .int (nI (rowTx f g r c).length), .int iw, .int id0])) (hv : w[m + 1]? = some (mI 0 67 (enc ((f, g, sl, op, lo), hd, rs, np, tp, av, lg, pl, tk)))) (hlf : w[m + 7]? = some (mI 0 40 (Ld lf0 (rowTx f g r c)))) (h25 : f 25 = 0) (hpos : ∀ j, j < 25 → ¬ f j < 0) (hown : ∀ j, j < 25 → g j = -1 ∨ ∃ k, k < 4 ∧ g j = nI k) (h400 : ∀ j, j < 25 → cN f j < 400) (hr : r < 5) (hc : c < 5) (kk : ∀ w', Oq m w w' → w'[m]? = some (mO 10 [.int th, .int ch, .int ea, .int fa, .int sv0, .ref (m + 1), .ref (m + 2), .ref (m + 3), .ref (m + 4), .ref (m + 5), .ref (m + 6), .ref (m + 7), .ref (m + 8), .ref (m + 9), .ref (m + 10), .int tn, .int he, .int en, .int (nI (rowTx f g r (c + 1)).length), .int iw, .int id0]) → w'[m + 7]? = some (mI 0 40 (Ld lf0 (rowTx f g r (c + 1)))) → Wp X 0 0 w' [(2, .int (nI (5 * r + (c + 1)))), (0, .ref m), (1, .int (nI r))] [] 36) : Wp X 0 0 w [(2, .int (nI (5 * r + c))), (0, .ref m), (1, .int (nI r))] [] 36 := by
  have hF0 : Oq m w w := Oq.rfl
  have hrl := rowTx_len (f := f) (g := g) (r := r) (c := c)
  have hc25 : 5 * r + c < 25 := by omega
  refine r_iload_n hC dX9_describeRow_36 rfl (j := 0) rfl ?_
  refine r_iconst hC dX9_describeRow_37 (v := 5) (by decide) ?_
  refine r_iload_n hC dX9_describeRow_38 rfl (j := 2) rfl ?_
  refine r_imul hC dX9_describeRow_39 ?_
  rw [(r5 r hr).1]
  refine r_iconst hC dX9_describeRow_40 (v := 5) (by decide) ?_
  refine r_iadd hC dX9_describeRow_41 ?_
  rw [show nI (5 * r) + 5 = nI (5 * r + 5) from nI_add (5 * r) 5]
  refine r_icmp_ge hC dX9_describeRow_42 (tgt := 121) (by decide) (fun h => absurd h (nI_ge (by omega) (by omega))) (fun _ => ?_)
  refine r_aload_n hC dX9_describeRow_45 rfl (j := 1) rfl ?_
  refine r_get hC gX9_describeRow_46 hm (v := .int (nI (rowTx f g r c).length)) rfl ?_
  refine r_if_le hC dX9_describeRow_49 (tgt := 58) (by decide) (fun c49 => ?_) (fun c49 => ?_)
  · refine r_aload_n hC dX9_describeRow_58 rfl (j := 1) rfl ?_
    refine r_aload_n hC dX9_describeRow_59 rfl (j := 1) rfl ?_
    refine r_get hC gX9_describeRow_60 hm (v := .ref (m + 1)) rfl ?_
    refine r_bipush hC dX9_describeRow_63 (v := 17) (by decide) ?_
    refine r_iload_n hC dX9_describeRow_65 rfl (j := 0) rfl ?_
    refine r_iadd hC dX9_describeRow_66 ?_
    refine r_iald hC dX9_describeRow_67 (j := (17 + (5 * r + c))) hv (ix17 (c := (5 * r + c)) (by omega)) ?_
    rw [enc_hi (c := (5 * r + c)) (by omega)]
    rw [show f (5 * r + c) = nI (cN f (5 * r + c)) from (cN_eq (hpos _ hc25)).1]
    refine r_callV hC (vs := [.int (nI (cN f (5 * r + c)))]) vX9_describeRow_68 (sm_writesNumber (d := d) (ds := (rowTx f g r c)) (n := cN f (5 * r + c)) hm hlf (by omega) (h400 _ hc25)) hm rfl rfl (by omega) (by omega) (by omega) (Nat.le_of_ble_eq_true rfl) (fun v_1 w_1 hP_1 hlen_1 => ?_) (fun _ _ h => h.elim)
    obtain ⟨hv_1, ew_1⟩ := hP_1
    rw [hv_1]
    have hf1_m : w_1[m]? = some (mO 10 [.int th, .int ch, .int ea, .int fa, .int sv0, .ref (m + 1), .ref (m + 2), .ref (m + 3), .ref (m + 4), .ref (m + 5), .ref (m + 6), .ref (m + 7), .ref (m + 8), .ref (m + 9), .ref (m + 10), .int tn, .int he, .int en, .int (nI ((rowTx f g r c) ++ numTx (cN f (5 * r + c))).length), .int iw, .int id0]) := by rw [ew_1]; exact List.getElem?_set_self (by simp only [List.length_set]; exact lt_of_get hm)
    have hf1__m___1_ : w_1[(m + 1)]? = some (mI 0 67 (enc ((f, g, sl, op, lo), hd, rs, np, tp, av, lg, pl, tk))) := by rw [ew_1, List.getElem?_set_ne (by omega), List.getElem?_set_ne (by omega)]; exact hv
    have hf1__m___7_ : w_1[(m + 7)]? = some (mI 0 40 (Ld lf0 ((rowTx f g r c) ++ numTx (cN f (5 * r + c))))) := by rw [ew_1, List.getElem?_set_ne (by omega)]; exact List.getElem?_set_self (lt_of_get hlf)
    have hF_1 : Oq m w w_1 := by rw [ew_1]; exact (Oq.set (Oq.set hF0 (by omega)) (by omega))
    show Wp X 0 0 w_1 [(2, .int (nI (5 * r + c))), (0, .ref m), (1, .int (nI r))] [] 71
    refine r_aload_n hC dX9_describeRow_71 rfl (j := 1) rfl ?_
    refine r_get hC gX9_describeRow_72 hf1_m (v := .ref (m + 1)) rfl ?_
    refine r_bipush hC dX9_describeRow_75 (v := 42) (by decide) ?_
    refine r_iload_n hC dX9_describeRow_77 rfl (j := 0) rfl ?_
    refine r_iadd hC dX9_describeRow_78 ?_
    refine r_iald hC dX9_describeRow_79 (j := (42 + (5 * r + c))) hf1__m___1_ (ix42 (c := (5 * r + c)) (by omega)) ?_
    rw [enc_ow (c := (5 * r + c)) (by omega)]
    refine r_if_le hC dX9_describeRow_80 (tgt := 101) (by decide) (fun c80 => ?_) (fun c80 => ?_)
    · refine r_aload_n hC dX9_describeRow_101 rfl (j := 1) rfl ?_
      refine r_iload_n hC dX9_describeRow_102 rfl (j := 0) rfl ?_
      refine r_callV hC (vs := [.int (nI (5 * r + c))]) vX9_describeRow_103 (sm_isTop (d := d + 1) (c := (5 * r + c)) hf1_m hf1__m___1_ h25 hpos hc25) hf1_m rfl rfl (by omega) (by omega) (by omega) (Nat.le_of_ble_eq_true rfl) (fun v_2 w_2 hP_2 hlen_2 => ?_) (fun _ _ h => h.elim)
      rw [hP_2.1, hP_2.2]
      show Wp X 0 0 w_1 [(2, .int (nI (5 * r + c))), (0, .ref m), (1, .int (nI r))] [.int (bI (hPeak f (5 * r + c)))] 106
      refine r_if_eq hC dX9_describeRow_106 (tgt := 115) (by decide) (fun c106 => ?_) (fun c106 => ?_)
      · refine r_iinc hC dX9_describeRow_115 (j := 0) rfl (v := nI (5 * r + (c + 1))) (nI_succ _).symm (by rw [hnl]; decide) (L' := [(2, .int (nI (5 * r + (c + 1)))), (0, .ref m), (1, .int (nI r))]) rfl ?_
        refine r_goto hC dX9_describeRow_118 (tgt := 36) (by decide) ?_
        have y1 : decide (c = 0) = true := by simp; have := (nI_leI (b := 0) (by omega) (by decide)).mp c49; omega
        have y2 : ownTx (g (5 * r + c)) = [] := by
          rcases hown _ hc25 with z | ⟨k, hk, z⟩
          · exact if_pos z
          · rw [z, ← nI_succ] at c80; exact absurd ((nI_leI (b := 0) (by omega) (by decide)).mp c80) (by omega)
        have y3 : hPeak f (5 * r + c) = false := bI_0.mp c106
        have e8 : ((rowTx f g r c) ++ numTx (cN f (5 * r + c))) = rowTx f g r (c + 1) := by
          show _ = rowTx f g r c ++ cellTx f g (5 * r + c) (decide (c = 0))
          simp [cellTx, y1, y2, y3]
        have z1 := hf1_m
        have z2 := hf1__m___7_
        rw [e8] at z1 z2
        exact kk w_1 hF_1 z1 z2
      · refine r_aload_n hC dX9_describeRow_109 rfl (j := 1) rfl ?_
        refine r_bipush hC dX9_describeRow_110 (v := 42) (by decide) ?_
        refine r_callV hC (vs := [.int 42]) vX9_describeRow_112 (sm_writes (d := d + 1) (ds := ((rowTx f g r c) ++ numTx (cN f (5 * r + c)))) (x := 42) hf1_m hf1__m___7_ (by simp only [List.length_append, List.length_cons, List.length_nil]; have := numTx_len (n := cN f (5 * r + c)); omega)) hf1_m rfl rfl (by omega) (by omega) (by omega) (Nat.le_of_ble_eq_true rfl) (fun v_3 w_3 hP_3 hlen_3 => ?_) (fun _ _ h => h.elim)
        obtain ⟨hv_3, ew_3⟩ := hP_3
        rw [hv_3]
        have hf3_m : w_3[m]? = some (mO 10 [.int th, .int ch, .int ea, .int fa, .int sv0, .ref (m + 1), .ref (m + 2), .ref (m + 3), .ref (m + 4), .ref (m + 5), .ref (m + 6), .ref (m + 7), .ref (m + 8), .ref (m + 9), .ref (m + 10), .int tn, .int he, .int en, .int (nI (((rowTx f g r c) ++ numTx (cN f (5 * r + c))) ++ [42]).length), .int iw, .int id0]) := by rw [ew_3]; exact List.getElem?_set_self (by simp only [List.length_set]; exact lt_of_get hf1_m)
        have hf3__m___1_ : w_3[(m + 1)]? = some (mI 0 67 (enc ((f, g, sl, op, lo), hd, rs, np, tp, av, lg, pl, tk))) := by rw [ew_3, List.getElem?_set_ne (by omega), List.getElem?_set_ne (by omega)]; exact hf1__m___1_
        have hf3__m___7_ : w_3[(m + 7)]? = some (mI 0 40 (Ld lf0 (((rowTx f g r c) ++ numTx (cN f (5 * r + c))) ++ [42]))) := by rw [ew_3, List.getElem?_set_ne (by omega)]; exact List.getElem?_set_self (lt_of_get hf1__m___7_)
        have hF_3 : Oq m w w_3 := by rw [ew_3]; exact (Oq.set (Oq.set hF_1 (by omega)) (by omega))
        show Wp X 0 0 w_3 [(2, .int (nI (5 * r + c))), (0, .ref m), (1, .int (nI r))] [] 115
        refine r_iinc hC dX9_describeRow_115 (j := 0) rfl (v := nI (5 * r + (c + 1))) (nI_succ _).symm (by rw [hnl]; decide) (L' := [(2, .int (nI (5 * r + (c + 1)))), (0, .ref m), (1, .int (nI r))]) rfl ?_
        refine r_goto hC dX9_describeRow_118 (tgt := 36) (by decide) ?_
        have y1 : decide (c = 0) = true := by simp; have := (nI_leI (b := 0) (by omega) (by decide)).mp c49; omega
        have y2 : ownTx (g (5 * r + c)) = [] := by
          rcases hown _ hc25 with z | ⟨k, hk, z⟩
          · exact if_pos z
          · rw [z, ← nI_succ] at c80; exact absurd ((nI_leI (b := 0) (by omega) (by decide)).mp c80) (by omega)
        have y3 : hPeak f (5 * r + c) = true := bI_ne.mp c106
        have e8 : (((rowTx f g r c) ++ numTx (cN f (5 * r + c))) ++ [42]) = rowTx f g r (c + 1) := by
          show _ = rowTx f g r c ++ cellTx f g (5 * r + c) (decide (c = 0))
          simp [cellTx, y1, y2, y3]
        have z1 := hf3_m
        have z2 := hf3__m___7_
        rw [e8] at z1 z2
        exact kk w_3 hF_3 z1 z2
    · refine r_aload_n hC dX9_describeRow_83 rfl (j := 1) rfl ?_
      refine r_bipush hC dX9_describeRow_84 (v := 97) (by decide) ?_
      refine r_aload_n hC dX9_describeRow_86 rfl (j := 1) rfl ?_
      refine r_get hC gX9_describeRow_87 hf1_m (v := .ref (m + 1)) rfl ?_
      refine r_bipush hC dX9_describeRow_90 (v := 42) (by decide) ?_
      refine r_iload_n hC dX9_describeRow_92 rfl (j := 0) rfl ?_
      refine r_iadd hC dX9_describeRow_93 ?_
      refine r_iald hC dX9_describeRow_94 (j := (42 + (5 * r + c))) hf1__m___1_ (ix42 (c := (5 * r + c)) (by omega)) ?_
      rw [enc_ow (c := (5 * r + c)) (by omega)]
      refine r_iadd hC dX9_describeRow_95 ?_
      refine r_iconst hC dX9_describeRow_96 (v := 1) (by decide) ?_
      refine r_isub hC dX9_describeRow_97 ?_
      rw [own97]
      refine r_callV hC (vs := [.int (97 + g (5 * r + c))]) vX9_describeRow_98 (sm_writes (d := d + 1) (ds := ((rowTx f g r c) ++ numTx (cN f (5 * r + c)))) (x := (97 + g (5 * r + c))) hf1_m hf1__m___7_ (by simp only [List.length_append, List.length_cons, List.length_nil]; have := numTx_len (n := cN f (5 * r + c)); omega)) hf1_m rfl rfl (by omega) (by omega) (by omega) (Nat.le_of_ble_eq_true rfl) (fun v_4 w_4 hP_4 hlen_4 => ?_) (fun _ _ h => h.elim)
      obtain ⟨hv_4, ew_4⟩ := hP_4
      rw [hv_4]
      have hf4_m : w_4[m]? = some (mO 10 [.int th, .int ch, .int ea, .int fa, .int sv0, .ref (m + 1), .ref (m + 2), .ref (m + 3), .ref (m + 4), .ref (m + 5), .ref (m + 6), .ref (m + 7), .ref (m + 8), .ref (m + 9), .ref (m + 10), .int tn, .int he, .int en, .int (nI (((rowTx f g r c) ++ numTx (cN f (5 * r + c))) ++ [(97 + g (5 * r + c))]).length), .int iw, .int id0]) := by rw [ew_4]; exact List.getElem?_set_self (by simp only [List.length_set]; exact lt_of_get hf1_m)
      have hf4__m___1_ : w_4[(m + 1)]? = some (mI 0 67 (enc ((f, g, sl, op, lo), hd, rs, np, tp, av, lg, pl, tk))) := by rw [ew_4, List.getElem?_set_ne (by omega), List.getElem?_set_ne (by omega)]; exact hf1__m___1_
      have hf4__m___7_ : w_4[(m + 7)]? = some (mI 0 40 (Ld lf0 (((rowTx f g r c) ++ numTx (cN f (5 * r + c))) ++ [(97 + g (5 * r + c))]))) := by rw [ew_4, List.getElem?_set_ne (by omega)]; exact List.getElem?_set_self (lt_of_get hf1__m___7_)
      have hF_4 : Oq m w w_4 := by rw [ew_4]; exact (Oq.set (Oq.set hF_1 (by omega)) (by omega))
      show Wp X 0 0 w_4 [(2, .int (nI (5 * r + c))), (0, .ref m), (1, .int (nI r))] [] 101
      refine r_aload_n hC dX9_describeRow_101 rfl (j := 1) rfl ?_
      refine r_iload_n hC dX9_describeRow_102 rfl (j := 0) rfl ?_
      refine r_callV hC (vs := [.int (nI (5 * r + c))]) vX9_describeRow_103 (sm_isTop (d := d + 1) (c := (5 * r + c)) hf4_m hf4__m___1_ h25 hpos hc25) hf4_m rfl rfl (by omega) (by omega) (by omega) (Nat.le_of_ble_eq_true rfl) (fun v_5 w_5 hP_5 hlen_5 => ?_) (fun _ _ h => h.elim)
      rw [hP_5.1, hP_5.2]
      show Wp X 0 0 w_4 [(2, .int (nI (5 * r + c))), (0, .ref m), (1, .int (nI r))] [.int (bI (hPeak f (5 * r + c)))] 106
      refine r_if_eq hC dX9_describeRow_106 (tgt := 115) (by decide) (fun c106 => ?_) (fun c106 => ?_)
      · refine r_iinc hC dX9_describeRow_115 (j := 0) rfl (v := nI (5 * r + (c + 1))) (nI_succ _).symm (by rw [hnl]; decide) (L' := [(2, .int (nI (5 * r + (c + 1)))), (0, .ref m), (1, .int (nI r))]) rfl ?_
        refine r_goto hC dX9_describeRow_118 (tgt := 36) (by decide) ?_
        have y1 : decide (c = 0) = true := by simp; have := (nI_leI (b := 0) (by omega) (by decide)).mp c49; omega
        have y2 : ownTx (g (5 * r + c)) = [97 + g (5 * r + c)] := if_neg (fun z => c80 (by rw [z]; decide))
        have y3 : hPeak f (5 * r + c) = false := bI_0.mp c106
        have e8 : (((rowTx f g r c) ++ numTx (cN f (5 * r + c))) ++ [(97 + g (5 * r + c))]) = rowTx f g r (c + 1) := by
          show _ = rowTx f g r c ++ cellTx f g (5 * r + c) (decide (c = 0))
          simp [cellTx, y1, y2, y3]
        have z1 := hf4_m
        have z2 := hf4__m___7_
        rw [e8] at z1 z2
        exact kk w_4 hF_4 z1 z2
      · refine r_aload_n hC dX9_describeRow_109 rfl (j := 1) rfl ?_
        refine r_bipush hC dX9_describeRow_110 (v := 42) (by decide) ?_
        refine r_callV hC (vs := [.int 42]) vX9_describeRow_112 (sm_writes (d := d + 1) (ds := (((rowTx f g r c) ++ numTx (cN f (5 * r + c))) ++ [(97 + g (5 * r + c))])) (x := 42) hf4_m hf4__m___7_ (by simp only [List.length_append, List.length_cons, List.length_nil]; have := numTx_len (n := cN f (5 * r + c)); omega)) hf4_m rfl rfl (by omega) (by omega) (by omega) (Nat.le_of_ble_eq_true rfl) (fun v_6 w_6 hP_6 hlen_6 => ?_) (fun _ _ h => h.elim)
        obtain ⟨hv_6, ew_6⟩ := hP_6
        rw [hv_6]
        have hf6_m : w_6[m]? = some (mO 10 [.int th, .int ch, .int ea, .int fa, .int sv0, .ref (m + 1), .ref (m + 2), .ref (m + 3), .ref (m + 4), .ref (m + 5), .ref (m + 6), .ref (m + 7), .ref (m + 8), .ref (m + 9), .ref (m + 10), .int tn, .int he, .int en, .int (nI ((((rowTx f g r c) ++ numTx (cN f (5 * r + c))) ++ [(97 + g (5 * r + c))]) ++ [42]).length), .int iw, .int id0]) := by rw [ew_6]; exact List.getElem?_set_self (by simp only [List.length_set]; exact lt_of_get hf4_m)
        have hf6__m___1_ : w_6[(m + 1)]? = some (mI 0 67 (enc ((f, g, sl, op, lo), hd, rs, np, tp, av, lg, pl, tk))) := by rw [ew_6, List.getElem?_set_ne (by omega), List.getElem?_set_ne (by omega)]; exact hf4__m___1_
        have hf6__m___7_ : w_6[(m + 7)]? = some (mI 0 40 (Ld lf0 ((((rowTx f g r c) ++ numTx (cN f (5 * r + c))) ++ [(97 + g (5 * r + c))]) ++ [42]))) := by rw [ew_6, List.getElem?_set_ne (by omega)]; exact List.getElem?_set_self (lt_of_get hf4__m___7_)
        have hF_6 : Oq m w w_6 := by rw [ew_6]; exact (Oq.set (Oq.set hF_4 (by omega)) (by omega))
        show Wp X 0 0 w_6 [(2, .int (nI (5 * r + c))), (0, .ref m), (1, .int (nI r))] [] 115
        refine r_iinc hC dX9_describeRow_115 (j := 0) rfl (v := nI (5 * r + (c + 1))) (nI_succ _).symm (by rw [hnl]; decide) (L' := [(2, .int (nI (5 * r + (c + 1)))), (0, .ref m), (1, .int (nI r))]) rfl ?_
        refine r_goto hC dX9_describeRow_118 (tgt := 36) (by decide) ?_
        have y1 : decide (c = 0) = true := by simp; have := (nI_leI (b := 0) (by omega) (by decide)).mp c49; omega
        have y2 : ownTx (g (5 * r + c)) = [97 + g (5 * r + c)] := if_neg (fun z => c80 (by rw [z]; decide))
        have y3 : hPeak f (5 * r + c) = true := bI_ne.mp c106
        have e8 : ((((rowTx f g r c) ++ numTx (cN f (5 * r + c))) ++ [(97 + g (5 * r + c))]) ++ [42]) = rowTx f g r (c + 1) := by
          show _ = rowTx f g r c ++ cellTx f g (5 * r + c) (decide (c = 0))
          simp [cellTx, y1, y2, y3]
        have z1 := hf6_m
        have z2 := hf6__m___7_
        rw [e8] at z1 z2
        exact kk w_6 hF_6 z1 z2
  · refine r_aload_n hC dX9_describeRow_52 rfl (j := 1) rfl ?_
    refine r_bipush hC dX9_describeRow_53 (v := 32) (by decide) ?_
    refine r_callV hC (vs := [.int 32]) vX9_describeRow_55 (sm_writes (d := d + 1) (ds := (rowTx f g r c)) (x := 32) hm hlf (by omega)) hm rfl rfl (by omega) (by omega) (by omega) (Nat.le_of_ble_eq_true rfl) (fun v_7 w_7 hP_7 hlen_7 => ?_) (fun _ _ h => h.elim)
    obtain ⟨hv_7, ew_7⟩ := hP_7
    rw [hv_7]
    have hf7_m : w_7[m]? = some (mO 10 [.int th, .int ch, .int ea, .int fa, .int sv0, .ref (m + 1), .ref (m + 2), .ref (m + 3), .ref (m + 4), .ref (m + 5), .ref (m + 6), .ref (m + 7), .ref (m + 8), .ref (m + 9), .ref (m + 10), .int tn, .int he, .int en, .int (nI ((rowTx f g r c) ++ [32]).length), .int iw, .int id0]) := by rw [ew_7]; exact List.getElem?_set_self (by simp only [List.length_set]; exact lt_of_get hm)
    have hf7__m___1_ : w_7[(m + 1)]? = some (mI 0 67 (enc ((f, g, sl, op, lo), hd, rs, np, tp, av, lg, pl, tk))) := by rw [ew_7, List.getElem?_set_ne (by omega), List.getElem?_set_ne (by omega)]; exact hv
    have hf7__m___7_ : w_7[(m + 7)]? = some (mI 0 40 (Ld lf0 ((rowTx f g r c) ++ [32]))) := by rw [ew_7, List.getElem?_set_ne (by omega)]; exact List.getElem?_set_self (lt_of_get hlf)
    have hF_7 : Oq m w w_7 := by rw [ew_7]; exact (Oq.set (Oq.set hF0 (by omega)) (by omega))
    show Wp X 0 0 w_7 [(2, .int (nI (5 * r + c))), (0, .ref m), (1, .int (nI r))] [] 58
    refine r_aload_n hC dX9_describeRow_58 rfl (j := 1) rfl ?_
    refine r_aload_n hC dX9_describeRow_59 rfl (j := 1) rfl ?_
    refine r_get hC gX9_describeRow_60 hf7_m (v := .ref (m + 1)) rfl ?_
    refine r_bipush hC dX9_describeRow_63 (v := 17) (by decide) ?_
    refine r_iload_n hC dX9_describeRow_65 rfl (j := 0) rfl ?_
    refine r_iadd hC dX9_describeRow_66 ?_
    refine r_iald hC dX9_describeRow_67 (j := (17 + (5 * r + c))) hf7__m___1_ (ix17 (c := (5 * r + c)) (by omega)) ?_
    rw [enc_hi (c := (5 * r + c)) (by omega)]
    rw [show f (5 * r + c) = nI (cN f (5 * r + c)) from (cN_eq (hpos _ hc25)).1]
    refine r_callV hC (vs := [.int (nI (cN f (5 * r + c)))]) vX9_describeRow_68 (sm_writesNumber (d := d) (ds := ((rowTx f g r c) ++ [32])) (n := cN f (5 * r + c)) hf7_m hf7__m___7_ (by simp only [List.length_append, List.length_cons, List.length_nil]; have := numTx_len (n := cN f (5 * r + c)); omega) (h400 _ hc25)) hf7_m rfl rfl (by omega) (by omega) (by omega) (Nat.le_of_ble_eq_true rfl) (fun v_8 w_8 hP_8 hlen_8 => ?_) (fun _ _ h => h.elim)
    obtain ⟨hv_8, ew_8⟩ := hP_8
    rw [hv_8]
    have hf8_m : w_8[m]? = some (mO 10 [.int th, .int ch, .int ea, .int fa, .int sv0, .ref (m + 1), .ref (m + 2), .ref (m + 3), .ref (m + 4), .ref (m + 5), .ref (m + 6), .ref (m + 7), .ref (m + 8), .ref (m + 9), .ref (m + 10), .int tn, .int he, .int en, .int (nI (((rowTx f g r c) ++ [32]) ++ numTx (cN f (5 * r + c))).length), .int iw, .int id0]) := by rw [ew_8]; exact List.getElem?_set_self (by simp only [List.length_set]; exact lt_of_get hf7_m)
    have hf8__m___1_ : w_8[(m + 1)]? = some (mI 0 67 (enc ((f, g, sl, op, lo), hd, rs, np, tp, av, lg, pl, tk))) := by rw [ew_8, List.getElem?_set_ne (by omega), List.getElem?_set_ne (by omega)]; exact hf7__m___1_
    have hf8__m___7_ : w_8[(m + 7)]? = some (mI 0 40 (Ld lf0 (((rowTx f g r c) ++ [32]) ++ numTx (cN f (5 * r + c))))) := by rw [ew_8, List.getElem?_set_ne (by omega)]; exact List.getElem?_set_self (lt_of_get hf7__m___7_)
    have hF_8 : Oq m w w_8 := by rw [ew_8]; exact (Oq.set (Oq.set hF_7 (by omega)) (by omega))
    show Wp X 0 0 w_8 [(2, .int (nI (5 * r + c))), (0, .ref m), (1, .int (nI r))] [] 71
    refine r_aload_n hC dX9_describeRow_71 rfl (j := 1) rfl ?_
    refine r_get hC gX9_describeRow_72 hf8_m (v := .ref (m + 1)) rfl ?_
    refine r_bipush hC dX9_describeRow_75 (v := 42) (by decide) ?_
    refine r_iload_n hC dX9_describeRow_77 rfl (j := 0) rfl ?_
    refine r_iadd hC dX9_describeRow_78 ?_
    refine r_iald hC dX9_describeRow_79 (j := (42 + (5 * r + c))) hf8__m___1_ (ix42 (c := (5 * r + c)) (by omega)) ?_
    rw [enc_ow (c := (5 * r + c)) (by omega)]
    refine r_if_le hC dX9_describeRow_80 (tgt := 101) (by decide) (fun c80 => ?_) (fun c80 => ?_)
    · refine r_aload_n hC dX9_describeRow_101 rfl (j := 1) rfl ?_
      refine r_iload_n hC dX9_describeRow_102 rfl (j := 0) rfl ?_
      refine r_callV hC (vs := [.int (nI (5 * r + c))]) vX9_describeRow_103 (sm_isTop (d := d + 1) (c := (5 * r + c)) hf8_m hf8__m___1_ h25 hpos hc25) hf8_m rfl rfl (by omega) (by omega) (by omega) (Nat.le_of_ble_eq_true rfl) (fun v_9 w_9 hP_9 hlen_9 => ?_) (fun _ _ h => h.elim)
      rw [hP_9.1, hP_9.2]
      show Wp X 0 0 w_8 [(2, .int (nI (5 * r + c))), (0, .ref m), (1, .int (nI r))] [.int (bI (hPeak f (5 * r + c)))] 106
      refine r_if_eq hC dX9_describeRow_106 (tgt := 115) (by decide) (fun c106 => ?_) (fun c106 => ?_)
      · refine r_iinc hC dX9_describeRow_115 (j := 0) rfl (v := nI (5 * r + (c + 1))) (nI_succ _).symm (by rw [hnl]; decide) (L' := [(2, .int (nI (5 * r + (c + 1)))), (0, .ref m), (1, .int (nI r))]) rfl ?_
        refine r_goto hC dX9_describeRow_118 (tgt := 36) (by decide) ?_
        have y1 : decide (c = 0) = false := by simp; intro z; exact c49 (by rw [z]; exact Int32.le_refl 0)
        have y2 : ownTx (g (5 * r + c)) = [] := by
          rcases hown _ hc25 with z | ⟨k, hk, z⟩
          · exact if_pos z
          · rw [z, ← nI_succ] at c80; exact absurd ((nI_leI (b := 0) (by omega) (by decide)).mp c80) (by omega)
        have y3 : hPeak f (5 * r + c) = false := bI_0.mp c106
        have e8 : (((rowTx f g r c) ++ [32]) ++ numTx (cN f (5 * r + c))) = rowTx f g r (c + 1) := by
          show _ = rowTx f g r c ++ cellTx f g (5 * r + c) (decide (c = 0))
          simp [cellTx, y1, y2, y3]
        have z1 := hf8_m
        have z2 := hf8__m___7_
        rw [e8] at z1 z2
        exact kk w_8 hF_8 z1 z2
      · refine r_aload_n hC dX9_describeRow_109 rfl (j := 1) rfl ?_
        refine r_bipush hC dX9_describeRow_110 (v := 42) (by decide) ?_
        refine r_callV hC (vs := [.int 42]) vX9_describeRow_112 (sm_writes (d := d + 1) (ds := (((rowTx f g r c) ++ [32]) ++ numTx (cN f (5 * r + c)))) (x := 42) hf8_m hf8__m___7_ (by simp only [List.length_append, List.length_cons, List.length_nil]; have := numTx_len (n := cN f (5 * r + c)); omega)) hf8_m rfl rfl (by omega) (by omega) (by omega) (Nat.le_of_ble_eq_true rfl) (fun v_10 w_10 hP_10 hlen_10 => ?_) (fun _ _ h => h.elim)
        obtain ⟨hv_10, ew_10⟩ := hP_10
        rw [hv_10]
        have hf10_m : w_10[m]? = some (mO 10 [.int th, .int ch, .int ea, .int fa, .int sv0, .ref (m + 1), .ref (m + 2), .ref (m + 3), .ref (m + 4), .ref (m + 5), .ref (m + 6), .ref (m + 7), .ref (m + 8), .ref (m + 9), .ref (m + 10), .int tn, .int he, .int en, .int (nI ((((rowTx f g r c) ++ [32]) ++ numTx (cN f (5 * r + c))) ++ [42]).length), .int iw, .int id0]) := by rw [ew_10]; exact List.getElem?_set_self (by simp only [List.length_set]; exact lt_of_get hf8_m)
        have hf10__m___1_ : w_10[(m + 1)]? = some (mI 0 67 (enc ((f, g, sl, op, lo), hd, rs, np, tp, av, lg, pl, tk))) := by rw [ew_10, List.getElem?_set_ne (by omega), List.getElem?_set_ne (by omega)]; exact hf8__m___1_
        have hf10__m___7_ : w_10[(m + 7)]? = some (mI 0 40 (Ld lf0 ((((rowTx f g r c) ++ [32]) ++ numTx (cN f (5 * r + c))) ++ [42]))) := by rw [ew_10, List.getElem?_set_ne (by omega)]; exact List.getElem?_set_self (lt_of_get hf8__m___7_)
        have hF_10 : Oq m w w_10 := by rw [ew_10]; exact (Oq.set (Oq.set hF_8 (by omega)) (by omega))
        show Wp X 0 0 w_10 [(2, .int (nI (5 * r + c))), (0, .ref m), (1, .int (nI r))] [] 115
        refine r_iinc hC dX9_describeRow_115 (j := 0) rfl (v := nI (5 * r + (c + 1))) (nI_succ _).symm (by rw [hnl]; decide) (L' := [(2, .int (nI (5 * r + (c + 1)))), (0, .ref m), (1, .int (nI r))]) rfl ?_
        refine r_goto hC dX9_describeRow_118 (tgt := 36) (by decide) ?_
        have y1 : decide (c = 0) = false := by simp; intro z; exact c49 (by rw [z]; exact Int32.le_refl 0)
        have y2 : ownTx (g (5 * r + c)) = [] := by
          rcases hown _ hc25 with z | ⟨k, hk, z⟩
          · exact if_pos z
          · rw [z, ← nI_succ] at c80; exact absurd ((nI_leI (b := 0) (by omega) (by decide)).mp c80) (by omega)
        have y3 : hPeak f (5 * r + c) = true := bI_ne.mp c106
        have e8 : ((((rowTx f g r c) ++ [32]) ++ numTx (cN f (5 * r + c))) ++ [42]) = rowTx f g r (c + 1) := by
          show _ = rowTx f g r c ++ cellTx f g (5 * r + c) (decide (c = 0))
          simp [cellTx, y1, y2, y3]
        have z1 := hf10_m
        have z2 := hf10__m___7_
        rw [e8] at z1 z2
        exact kk w_10 hF_10 z1 z2
    · refine r_aload_n hC dX9_describeRow_83 rfl (j := 1) rfl ?_
      refine r_bipush hC dX9_describeRow_84 (v := 97) (by decide) ?_
      refine r_aload_n hC dX9_describeRow_86 rfl (j := 1) rfl ?_
      refine r_get hC gX9_describeRow_87 hf8_m (v := .ref (m + 1)) rfl ?_
      refine r_bipush hC dX9_describeRow_90 (v := 42) (by decide) ?_
      refine r_iload_n hC dX9_describeRow_92 rfl (j := 0) rfl ?_
      refine r_iadd hC dX9_describeRow_93 ?_
      refine r_iald hC dX9_describeRow_94 (j := (42 + (5 * r + c))) hf8__m___1_ (ix42 (c := (5 * r + c)) (by omega)) ?_
      rw [enc_ow (c := (5 * r + c)) (by omega)]
      refine r_iadd hC dX9_describeRow_95 ?_
      refine r_iconst hC dX9_describeRow_96 (v := 1) (by decide) ?_
      refine r_isub hC dX9_describeRow_97 ?_
      rw [own97]
      refine r_callV hC (vs := [.int (97 + g (5 * r + c))]) vX9_describeRow_98 (sm_writes (d := d + 1) (ds := (((rowTx f g r c) ++ [32]) ++ numTx (cN f (5 * r + c)))) (x := (97 + g (5 * r + c))) hf8_m hf8__m___7_ (by simp only [List.length_append, List.length_cons, List.length_nil]; have := numTx_len (n := cN f (5 * r + c)); omega)) hf8_m rfl rfl (by omega) (by omega) (by omega) (Nat.le_of_ble_eq_true rfl) (fun v_11 w_11 hP_11 hlen_11 => ?_) (fun _ _ h => h.elim)
      obtain ⟨hv_11, ew_11⟩ := hP_11
      rw [hv_11]
      have hf11_m : w_11[m]? = some (mO 10 [.int th, .int ch, .int ea, .int fa, .int sv0, .ref (m + 1), .ref (m + 2), .ref (m + 3), .ref (m + 4), .ref (m + 5), .ref (m + 6), .ref (m + 7), .ref (m + 8), .ref (m + 9), .ref (m + 10), .int tn, .int he, .int en, .int (nI ((((rowTx f g r c) ++ [32]) ++ numTx (cN f (5 * r + c))) ++ [(97 + g (5 * r + c))]).length), .int iw, .int id0]) := by rw [ew_11]; exact List.getElem?_set_self (by simp only [List.length_set]; exact lt_of_get hf8_m)
      have hf11__m___1_ : w_11[(m + 1)]? = some (mI 0 67 (enc ((f, g, sl, op, lo), hd, rs, np, tp, av, lg, pl, tk))) := by rw [ew_11, List.getElem?_set_ne (by omega), List.getElem?_set_ne (by omega)]; exact hf8__m___1_
      have hf11__m___7_ : w_11[(m + 7)]? = some (mI 0 40 (Ld lf0 ((((rowTx f g r c) ++ [32]) ++ numTx (cN f (5 * r + c))) ++ [(97 + g (5 * r + c))]))) := by rw [ew_11, List.getElem?_set_ne (by omega)]; exact List.getElem?_set_self (lt_of_get hf8__m___7_)
      have hF_11 : Oq m w w_11 := by rw [ew_11]; exact (Oq.set (Oq.set hF_8 (by omega)) (by omega))
      show Wp X 0 0 w_11 [(2, .int (nI (5 * r + c))), (0, .ref m), (1, .int (nI r))] [] 101
      refine r_aload_n hC dX9_describeRow_101 rfl (j := 1) rfl ?_
      refine r_iload_n hC dX9_describeRow_102 rfl (j := 0) rfl ?_
      refine r_callV hC (vs := [.int (nI (5 * r + c))]) vX9_describeRow_103 (sm_isTop (d := d + 1) (c := (5 * r + c)) hf11_m hf11__m___1_ h25 hpos hc25) hf11_m rfl rfl (by omega) (by omega) (by omega) (Nat.le_of_ble_eq_true rfl) (fun v_12 w_12 hP_12 hlen_12 => ?_) (fun _ _ h => h.elim)
      rw [hP_12.1, hP_12.2]
      show Wp X 0 0 w_11 [(2, .int (nI (5 * r + c))), (0, .ref m), (1, .int (nI r))] [.int (bI (hPeak f (5 * r + c)))] 106
      refine r_if_eq hC dX9_describeRow_106 (tgt := 115) (by decide) (fun c106 => ?_) (fun c106 => ?_)
      · refine r_iinc hC dX9_describeRow_115 (j := 0) rfl (v := nI (5 * r + (c + 1))) (nI_succ _).symm (by rw [hnl]; decide) (L' := [(2, .int (nI (5 * r + (c + 1)))), (0, .ref m), (1, .int (nI r))]) rfl ?_
        refine r_goto hC dX9_describeRow_118 (tgt := 36) (by decide) ?_
        have y1 : decide (c = 0) = false := by simp; intro z; exact c49 (by rw [z]; exact Int32.le_refl 0)
        have y2 : ownTx (g (5 * r + c)) = [97 + g (5 * r + c)] := if_neg (fun z => c80 (by rw [z]; decide))
        have y3 : hPeak f (5 * r + c) = false := bI_0.mp c106
        have e8 : ((((rowTx f g r c) ++ [32]) ++ numTx (cN f (5 * r + c))) ++ [(97 + g (5 * r + c))]) = rowTx f g r (c + 1) := by
          show _ = rowTx f g r c ++ cellTx f g (5 * r + c) (decide (c = 0))
          simp [cellTx, y1, y2, y3]
        have z1 := hf11_m
        have z2 := hf11__m___7_
        rw [e8] at z1 z2
        exact kk w_11 hF_11 z1 z2
      · refine r_aload_n hC dX9_describeRow_109 rfl (j := 1) rfl ?_
        refine r_bipush hC dX9_describeRow_110 (v := 42) (by decide) ?_
        refine r_callV hC (vs := [.int 42]) vX9_describeRow_112 (sm_writes (d := d + 1) (ds := ((((rowTx f g r c) ++ [32]) ++ numTx (cN f (5 * r + c))) ++ [(97 + g (5 * r + c))])) (x := 42) hf11_m hf11__m___7_ (by simp only [List.length_append, List.length_cons, List.length_nil]; have := numTx_len (n := cN f (5 * r + c)); omega)) hf11_m rfl rfl (by omega) (by omega) (by omega) (Nat.le_of_ble_eq_true rfl) (fun v_13 w_13 hP_13 hlen_13 => ?_) (fun _ _ h => h.elim)
        obtain ⟨hv_13, ew_13⟩ := hP_13
        rw [hv_13]
        have hf13_m : w_13[m]? = some (mO 10 [.int th, .int ch, .int ea, .int fa, .int sv0, .ref (m + 1), .ref (m + 2), .ref (m + 3), .ref (m + 4), .ref (m + 5), .ref (m + 6), .ref (m + 7), .ref (m + 8), .ref (m + 9), .ref (m + 10), .int tn, .int he, .int en, .int (nI (((((rowTx f g r c) ++ [32]) ++ numTx (cN f (5 * r + c))) ++ [(97 + g (5 * r + c))]) ++ [42]).length), .int iw, .int id0]) := by rw [ew_13]; exact List.getElem?_set_self (by simp only [List.length_set]; exact lt_of_get hf11_m)
        have hf13__m___1_ : w_13[(m + 1)]? = some (mI 0 67 (enc ((f, g, sl, op, lo), hd, rs, np, tp, av, lg, pl, tk))) := by rw [ew_13, List.getElem?_set_ne (by omega), List.getElem?_set_ne (by omega)]; exact hf11__m___1_
        have hf13__m___7_ : w_13[(m + 7)]? = some (mI 0 40 (Ld lf0 (((((rowTx f g r c) ++ [32]) ++ numTx (cN f (5 * r + c))) ++ [(97 + g (5 * r + c))]) ++ [42]))) := by rw [ew_13, List.getElem?_set_ne (by omega)]; exact List.getElem?_set_self (lt_of_get hf11__m___7_)
        have hF_13 : Oq m w w_13 := by rw [ew_13]; exact (Oq.set (Oq.set hF_11 (by omega)) (by omega))
        show Wp X 0 0 w_13 [(2, .int (nI (5 * r + c))), (0, .ref m), (1, .int (nI r))] [] 115
        refine r_iinc hC dX9_describeRow_115 (j := 0) rfl (v := nI (5 * r + (c + 1))) (nI_succ _).symm (by rw [hnl]; decide) (L' := [(2, .int (nI (5 * r + (c + 1)))), (0, .ref m), (1, .int (nI r))]) rfl ?_
        refine r_goto hC dX9_describeRow_118 (tgt := 36) (by decide) ?_
        have y1 : decide (c = 0) = false := by simp; intro z; exact c49 (by rw [z]; exact Int32.le_refl 0)
        have y2 : ownTx (g (5 * r + c)) = [97 + g (5 * r + c)] := if_neg (fun z => c80 (by rw [z]; decide))
        have y3 : hPeak f (5 * r + c) = true := bI_ne.mp c106
        have e8 : (((((rowTx f g r c) ++ [32]) ++ numTx (cN f (5 * r + c))) ++ [(97 + g (5 * r + c))]) ++ [42]) = rowTx f g r (c + 1) := by
          show _ = rowTx f g r c ++ cellTx f g (5 * r + c) (decide (c = 0))
          simp [cellTx, y1, y2, y3]
        have z1 := hf13_m
        have z2 := hf13__m___7_
        rw [e8] at z1 z2
        exact kk w_13 hF_13 z1 z2
set_option maxRecDepth 100000 in
theorem dr_all {X : mC} {d : Nat} {w : mW} {m : Nat} {th ch ea fa sv0 tn he en iw id0 : Int32} {lf0 : Nat → Int32} {f g : Nat → Int32} {sl op lo : Int32} {hd rs : Nat → Int32} {np : Nat} {tp av lg pl tk : Int32} {r : Nat} (hC : Cx X RX9 cX9_describeRow (d + 2) 0 0) (hnl : mNL X = 3) (hv : w[m + 1]? = some (mI 0 67 (enc ((f, g, sl, op, lo), hd, rs, np, tp, av, lg, pl, tk)))) (h25 : f 25 = 0) (hpos : ∀ j, j < 25 → ¬ f j < 0) (hown : ∀ j, j < 25 → g j = -1 ∨ ∃ k, k < 4 ∧ g j = nI k) (h400 : ∀ j, j < 25 → cN f j < 400) (hr : r < 5) (kk : ∀ w', Oq m w w' → w'[m]? = some (mO 10 [.int th, .int ch, .int ea, .int fa, .int sv0, .ref (m + 1), .ref (m + 2), .ref (m + 3), .ref (m + 4), .ref (m + 5), .ref (m + 6), .ref (m + 7), .ref (m + 8), .ref (m + 9), .ref (m + 10), .int tn, .int he, .int en, .int (nI (rowTx f g r 5).length), .int iw, .int id0]) → w'[m + 7]? = some (mI 0 40 (Ld lf0 (rowTx f g r 5))) → Wp X 0 0 w' [(2, .int (nI (5 * r + 5))), (0, .ref m), (1, .int (nI r))] [] 36) : ∀ (i9 c : Nat) (w1 : mW), c + i9 = 5 → Oq m w w1 → w1[m]? = some (mO 10 [.int th, .int ch, .int ea, .int fa, .int sv0, .ref (m + 1), .ref (m + 2), .ref (m + 3), .ref (m + 4), .ref (m + 5), .ref (m + 6), .ref (m + 7), .ref (m + 8), .ref (m + 9), .ref (m + 10), .int tn, .int he, .int en, .int (nI (rowTx f g r c).length), .int iw, .int id0]) → w1[m + 7]? = some (mI 0 40 (Ld lf0 (rowTx f g r c))) → Wp X 0 0 w1 [(2, .int (nI (5 * r + c))), (0, .ref m), (1, .int (nI r))] [] 36 := by
  intro i9
  induction i9 with
  | zero =>
    intro c w1 h9 z1 z2 z3
    obtain rfl : c = 5 := by omega
    exact kk w1 z1 z2 z3
  | succ i9 ih =>
    intro c w1 h9 z1 z2 z3
    exact dr_it hC hnl z2 (by rw [z1.2 _ (by omega)]; exact hv) z3 h25 hpos hown h400 hr (by omega) (fun w2 y1 y2 y3 => ih (c + 1) w2 (by omega) (z1.trans y1) y2 y3)
set_option maxRecDepth 100000 in
set_option maxHeartbeats 4000000 in
theorem sm_describeRow {d : Nat} {x : Int32} {w : mW} {m : Nat} {th : Int32} {f g : Nat → Int32} {sl op lo : Int32} {hd rs : Nat → Int32} {np : Nat} {tp av lg pl tk : Int32} {l : List sv} {ea fa : Int32} {so : Option sv} {tx : Nat → Int32} {tn : Nat} {lf : Nat → Int32} {ln : Nat} (H : MdAt w m th ((f, g, sl, op, lo), hd, rs, np, tp, av, lg, pl, tk) l ea fa so tx tn lf ln) (h25 : f 25 = 0) (hpos : ∀ j, j < 25 → ¬ f j < 0) (hown : ∀ j, j < 25 → g j = -1 ∨ ∃ k, k < 4 ∧ g j = nI k) (h400 : ∀ j, j < 25 → cN f j < 400) : Sp (d + 2) yX9_describeRow cX9_describeRow 3 (some .int) [.ref m, .int x] w 0 0 (fun v w' => (isI x 0 4 = true ∧ v = some (.int (nI (rowTx f g x.toNatClampNeg 5).length)) ∧ MdTo w w' m 0 ((f, g, sl, op, lo), hd, rs, np, tp, av, lg, pl, tk) l ea fa so tx tn (Ld lf (rowTx f g x.toNatClampNeg 5)) ((rowTx f g x.toNatClampNeg 5).length)) ∨ (isI x 0 4 = false ∧ v = some (.int 0) ∧ MdTo w w' m 1 ((f, g, sl, op, lo), hd, rs, np, tp, av, lg, pl, tk) l ea fa so tx tn lf ln)) noX := by
  refine Sp.of (by decide +kernel) (Nat.le_of_ble_eq_true rfl) (fun X hC hnl hE hR hN => ?_)
  have hC : Cx X RX9 cX9_describeRow (d + 2) 0 0 := hC
  show Wp X 0 0 w [(0, .ref m), (1, .int x)] [] 0
  obtain ⟨he, en, iw, id0, bf, sf, kf, pf, lt, hm, hv, hbf, hsf, hkf, hpf, htx, hlf, hlt, hwd, hwa, hpo, hso⟩ := H
  have hF0 : Fr m w w := Fr.rfl
  refine r_aload_n hC dX9_describeRow_0 rfl (j := 0) rfl ?_
  refine r_iload_n hC dX9_describeRow_1 rfl (j := 1) rfl ?_
  refine r_iconst hC dX9_describeRow_2 (v := 0) (by decide) ?_
  refine r_iconst hC dX9_describeRow_3 (v := 4) (by decide) ?_
  refine r_callS hC (vs := [.int x, .int 0, .int 4]) vX9_describeRow_4 (sm_isIn (d := d + 1)) rfl (by omega) (by omega) (by omega) (Nat.le_of_ble_eq_true rfl) (fun v_1 w_1 hP_1 hlen_1 => ?_) (fun _ _ h => h.elim)
  rw [hP_1.1, hP_1.2]
  show Wp X 0 0 w [(0, .ref m), (1, .int x)] [.int (bI (isI x 0 4)), .ref m] 7
  refine r_if_eq hC dX9_describeRow_7 (tgt := 14) (by decide) (fun c7 => ?_) (fun c7 => ?_)
  · refine r_iconst hC dX9_describeRow_14 (v := 1) (by decide) ?_
    refine r_put' hC pX9_describeRow_15 hm (Nat.le_of_ble_eq_true rfl) (fun _ => rfl) (fun _ => rfl) (fun w_2 ew_2 => ?_)
    replace ew_2 : w_2 = (w).set (m) (mO 10 [.int 1, .int (nI l.length), .int ea, .int fa, .int (bI so.isSome), .ref (m + 1), .ref (m + 2), .ref (m + 3), .ref (m + 4), .ref (m + 5), .ref (m + 6), .ref (m + 7), .ref (m + 8), .ref (m + 9), .ref (m + 10), .int (nI tn), .int he, .int en, .int (nI ln), .int iw, .int id0]) := ew_2
    have hf2_m : w_2[m]? = some (mO 10 [.int 1, .int (nI l.length), .int ea, .int fa, .int (bI so.isSome), .ref (m + 1), .ref (m + 2), .ref (m + 3), .ref (m + 4), .ref (m + 5), .ref (m + 6), .ref (m + 7), .ref (m + 8), .ref (m + 9), .ref (m + 10), .int (nI tn), .int he, .int en, .int (nI ln), .int iw, .int id0]) := by rw [ew_2]; exact List.getElem?_set_self (lt_of_get hm)
    have hf2__m___1_ : w_2[(m + 1)]? = some (mI 0 67 (enc ((f, g, sl, op, lo), hd, rs, np, tp, av, lg, pl, tk))) := by rw [ew_2, List.getElem?_set_ne (by omega)]; exact hv
    have hf2__m___2_ : w_2[(m + 2)]? = some (mI 0 67 bf) := by rw [ew_2, List.getElem?_set_ne (by omega)]; exact hbf
    have hf2__m___3_ : w_2[(m + 3)]? = some (mI 0 67 sf) := by rw [ew_2, List.getElem?_set_ne (by omega)]; exact hsf
    have hf2__m___4_ : w_2[(m + 4)]? = some (mI 0 67 kf) := by rw [ew_2, List.getElem?_set_ne (by omega)]; exact hkf
    have hf2__m___5_ : w_2[(m + 5)]? = some (mI 0 536 pf) := by rw [ew_2, List.getElem?_set_ne (by omega)]; exact hpf
    have hf2__m___6_ : w_2[(m + 6)]? = some (mI 0 60 tx) := by rw [ew_2, List.getElem?_set_ne (by omega)]; exact htx
    have hf2__m___7_ : w_2[(m + 7)]? = some (mI 0 40 lf) := by rw [ew_2, List.getElem?_set_ne (by omega)]; exact hlf
    have hf2__m___8_ : w_2[(m + 8)]? = some (mI 0 8 lt) := by rw [ew_2, List.getElem?_set_ne (by omega)]; exact hlt
    have hf2__m___9_ : w_2[(m + 9)]? = some (mI 0 41 wdF) := by rw [ew_2, List.getElem?_set_ne (by omega)]; exact hwd
    have hf2__m___10_ : w_2[(m + 10)]? = some (mI 0 9 waF) := by rw [ew_2, List.getElem?_set_ne (by omega)]; exact hwa
    have hF_2 : Fr m w w_2 := by rw [ew_2]; exact (Fr.set hF0 (by omega) (by omega))
    refine r_aload_n hC dX9_describeRow_18 rfl (j := 0) rfl ?_
    refine r_get hC gX9_describeRow_19 hf2_m (v := .int 1) rfl ?_
    refine r_if_eq hC dX9_describeRow_22 (tgt := 27) (by decide) (fun h => absurd h (by decide)) (fun _ => ?_)
    refine r_iconst hC dX9_describeRow_25 (v := 0) (by decide) ?_
    refine r_iret hC hE hR dX9_describeRow_26 (by omega) (by omega) (hF_2.1) ?_
    exact Or.inr ⟨bI_0.mp c7, rfl, ⟨⟨_, _, _, _, _, _, _, _, _, hf2_m, hf2__m___1_, hf2__m___2_, hf2__m___3_, hf2__m___4_, hf2__m___5_, hf2__m___6_, hf2__m___7_, hf2__m___8_, hf2__m___9_, hf2__m___10_, hpo, hso⟩, hF_2⟩⟩
  · refine r_iconst hC dX9_describeRow_10 (v := 0) (by decide) ?_
    refine r_goto hC dX9_describeRow_11 (tgt := 15) (by decide) ?_
    refine r_put' hC pX9_describeRow_15 hm (Nat.le_of_ble_eq_true rfl) (fun _ => rfl) (fun _ => rfl) (fun w_3 ew_3 => ?_)
    replace ew_3 : w_3 = (w).set (m) (mO 10 [.int 0, .int (nI l.length), .int ea, .int fa, .int (bI so.isSome), .ref (m + 1), .ref (m + 2), .ref (m + 3), .ref (m + 4), .ref (m + 5), .ref (m + 6), .ref (m + 7), .ref (m + 8), .ref (m + 9), .ref (m + 10), .int (nI tn), .int he, .int en, .int (nI ln), .int iw, .int id0]) := ew_3
    have hf3_m : w_3[m]? = some (mO 10 [.int 0, .int (nI l.length), .int ea, .int fa, .int (bI so.isSome), .ref (m + 1), .ref (m + 2), .ref (m + 3), .ref (m + 4), .ref (m + 5), .ref (m + 6), .ref (m + 7), .ref (m + 8), .ref (m + 9), .ref (m + 10), .int (nI tn), .int he, .int en, .int (nI ln), .int iw, .int id0]) := by rw [ew_3]; exact List.getElem?_set_self (lt_of_get hm)
    have hf3__m___1_ : w_3[(m + 1)]? = some (mI 0 67 (enc ((f, g, sl, op, lo), hd, rs, np, tp, av, lg, pl, tk))) := by rw [ew_3, List.getElem?_set_ne (by omega)]; exact hv
    have hf3__m___2_ : w_3[(m + 2)]? = some (mI 0 67 bf) := by rw [ew_3, List.getElem?_set_ne (by omega)]; exact hbf
    have hf3__m___3_ : w_3[(m + 3)]? = some (mI 0 67 sf) := by rw [ew_3, List.getElem?_set_ne (by omega)]; exact hsf
    have hf3__m___4_ : w_3[(m + 4)]? = some (mI 0 67 kf) := by rw [ew_3, List.getElem?_set_ne (by omega)]; exact hkf
    have hf3__m___5_ : w_3[(m + 5)]? = some (mI 0 536 pf) := by rw [ew_3, List.getElem?_set_ne (by omega)]; exact hpf
    have hf3__m___6_ : w_3[(m + 6)]? = some (mI 0 60 tx) := by rw [ew_3, List.getElem?_set_ne (by omega)]; exact htx
    have hf3__m___7_ : w_3[(m + 7)]? = some (mI 0 40 lf) := by rw [ew_3, List.getElem?_set_ne (by omega)]; exact hlf
    have hf3__m___8_ : w_3[(m + 8)]? = some (mI 0 8 lt) := by rw [ew_3, List.getElem?_set_ne (by omega)]; exact hlt
    have hf3__m___9_ : w_3[(m + 9)]? = some (mI 0 41 wdF) := by rw [ew_3, List.getElem?_set_ne (by omega)]; exact hwd
    have hf3__m___10_ : w_3[(m + 10)]? = some (mI 0 9 waF) := by rw [ew_3, List.getElem?_set_ne (by omega)]; exact hwa
    have hF_3 : Fr m w w_3 := by rw [ew_3]; exact (Fr.set hF0 (by omega) (by omega))
    refine r_aload_n hC dX9_describeRow_18 rfl (j := 0) rfl ?_
    refine r_get hC gX9_describeRow_19 hf3_m (v := .int 0) rfl ?_
    refine r_if_eq hC dX9_describeRow_22 (tgt := 27) (by decide) (fun _ => ?_) (fun h => absurd (by decide) h)
    have p1 : isI x 0 4 = true := bI_ne.mp c7
    have hb9 := isI_n (n := 5) (by decide) p1
    rw [show Wp X 0 0 w_3 [(0, .ref m), (1, .int x)] [] 27 = Wp X 0 0 w_3 [(0, .ref m), (1, .int (nI x.toNatClampNeg))] [] 27 from by rw [← hb9.2]]
    refine r_aload_n hC dX9_describeRow_27 rfl (j := 0) rfl ?_
    refine r_iconst hC dX9_describeRow_28 (v := 0) (by decide) ?_
    refine r_put' hC pX9_describeRow_29 hf3_m (Nat.le_of_ble_eq_true rfl) (fun _ => rfl) (fun _ => rfl) (fun w_4 ew_4 => ?_)
    replace ew_4 : w_4 = (w_3).set (m) (mO 10 [.int 0, .int (nI l.length), .int ea, .int fa, .int (bI so.isSome), .ref (m + 1), .ref (m + 2), .ref (m + 3), .ref (m + 4), .ref (m + 5), .ref (m + 6), .ref (m + 7), .ref (m + 8), .ref (m + 9), .ref (m + 10), .int (nI tn), .int he, .int en, .int 0, .int iw, .int id0]) := ew_4
    have hf4_m : w_4[m]? = some (mO 10 [.int 0, .int (nI l.length), .int ea, .int fa, .int (bI so.isSome), .ref (m + 1), .ref (m + 2), .ref (m + 3), .ref (m + 4), .ref (m + 5), .ref (m + 6), .ref (m + 7), .ref (m + 8), .ref (m + 9), .ref (m + 10), .int (nI tn), .int he, .int en, .int 0, .int iw, .int id0]) := by rw [ew_4]; exact List.getElem?_set_self (lt_of_get hf3_m)
    have hf4__m___1_ : w_4[(m + 1)]? = some (mI 0 67 (enc ((f, g, sl, op, lo), hd, rs, np, tp, av, lg, pl, tk))) := by rw [ew_4, List.getElem?_set_ne (by omega)]; exact hf3__m___1_
    have hf4__m___2_ : w_4[(m + 2)]? = some (mI 0 67 bf) := by rw [ew_4, List.getElem?_set_ne (by omega)]; exact hf3__m___2_
    have hf4__m___3_ : w_4[(m + 3)]? = some (mI 0 67 sf) := by rw [ew_4, List.getElem?_set_ne (by omega)]; exact hf3__m___3_
    have hf4__m___4_ : w_4[(m + 4)]? = some (mI 0 67 kf) := by rw [ew_4, List.getElem?_set_ne (by omega)]; exact hf3__m___4_
    have hf4__m___5_ : w_4[(m + 5)]? = some (mI 0 536 pf) := by rw [ew_4, List.getElem?_set_ne (by omega)]; exact hf3__m___5_
    have hf4__m___6_ : w_4[(m + 6)]? = some (mI 0 60 tx) := by rw [ew_4, List.getElem?_set_ne (by omega)]; exact hf3__m___6_
    have hf4__m___7_ : w_4[(m + 7)]? = some (mI 0 40 lf) := by rw [ew_4, List.getElem?_set_ne (by omega)]; exact hf3__m___7_
    have hf4__m___8_ : w_4[(m + 8)]? = some (mI 0 8 lt) := by rw [ew_4, List.getElem?_set_ne (by omega)]; exact hf3__m___8_
    have hf4__m___9_ : w_4[(m + 9)]? = some (mI 0 41 wdF) := by rw [ew_4, List.getElem?_set_ne (by omega)]; exact hf3__m___9_
    have hf4__m___10_ : w_4[(m + 10)]? = some (mI 0 9 waF) := by rw [ew_4, List.getElem?_set_ne (by omega)]; exact hf3__m___10_
    have hF_4 : Fr m w w_4 := by rw [ew_4]; exact (Fr.set hF_3 (by omega) (by omega))
    refine r_iconst hC dX9_describeRow_32 (v := 5) (by decide) ?_
    refine r_iload_n hC dX9_describeRow_33 rfl (j := 1) rfl ?_
    refine r_imul hC dX9_describeRow_34 ?_
    rw [(r5 _ hb9.1).1]
    refine r_istore_n hC dX9_describeRow_35 rfl (by rw [hnl]; decide) (L' := [(2, .int (nI (5 * x.toNatClampNeg))), (0, .ref m), (1, .int (nI x.toNatClampNeg))]) rfl ?_
    refine dr_all (r := x.toNatClampNeg) (lf0 := lf) (w := w_4) hC hnl hf4__m___1_ h25 hpos hown h400 hb9.1 (fun w9 z1 z2 z3 => ?_) 5 0 w_4 rfl Oq.rfl hf4_m hf4__m___7_
    have y_m := z2
    have y_m___1_ : w9[(m + 1)]? = some (mI 0 67 (enc ((f, g, sl, op, lo), hd, rs, np, tp, av, lg, pl, tk))) := by rw [z1.2 _ (by omega)]; exact hf4__m___1_
    have y_m___2_ : w9[(m + 2)]? = some (mI 0 67 bf) := by rw [z1.2 _ (by omega)]; exact hf4__m___2_
    have y_m___3_ : w9[(m + 3)]? = some (mI 0 67 sf) := by rw [z1.2 _ (by omega)]; exact hf4__m___3_
    have y_m___4_ : w9[(m + 4)]? = some (mI 0 67 kf) := by rw [z1.2 _ (by omega)]; exact hf4__m___4_
    have y_m___5_ : w9[(m + 5)]? = some (mI 0 536 pf) := by rw [z1.2 _ (by omega)]; exact hf4__m___5_
    have y_m___6_ : w9[(m + 6)]? = some (mI 0 60 tx) := by rw [z1.2 _ (by omega)]; exact hf4__m___6_
    have y_m___8_ : w9[(m + 8)]? = some (mI 0 8 lt) := by rw [z1.2 _ (by omega)]; exact hf4__m___8_
    have y_m___9_ : w9[(m + 9)]? = some (mI 0 41 wdF) := by rw [z1.2 _ (by omega)]; exact hf4__m___9_
    have y_m___10_ : w9[(m + 10)]? = some (mI 0 9 waF) := by rw [z1.2 _ (by omega)]; exact hf4__m___10_
    have hF_9 : Fr m w w9 := Fr.oq hF_4 z1
    refine r_iload_n hC dX9_describeRow_36 rfl (j := 0) rfl ?_
    refine r_iconst hC dX9_describeRow_37 (v := 5) (by decide) ?_
    refine r_iload_n hC dX9_describeRow_38 rfl (j := 2) rfl ?_
    refine r_imul hC dX9_describeRow_39 ?_
    rw [(r5 _ hb9.1).1]
    refine r_iconst hC dX9_describeRow_40 (v := 5) (by decide) ?_
    refine r_iadd hC dX9_describeRow_41 ?_
    rw [show nI (5 * x.toNatClampNeg) + 5 = nI (5 * x.toNatClampNeg + 5) from nI_add (5 * x.toNatClampNeg) 5]
    refine r_icmp_ge hC dX9_describeRow_42 (tgt := 121) (by decide) (fun _ => ?_) (fun h => absurd (nI_le (Nat.le_refl _) (by omega)) h)
    refine r_aload_n hC dX9_describeRow_121 rfl (j := 1) rfl ?_
    refine r_get hC gX9_describeRow_122 z2 (v := .int (nI (rowTx f g x.toNatClampNeg 5).length)) rfl ?_
    refine r_iret hC hE hR dX9_describeRow_125 (by omega) (by omega) (hF_9.1) ?_
    exact Or.inl ⟨p1, rfl, ⟨⟨_, _, _, _, _, _, _, _, _, z2, y_m___1_, y_m___2_, y_m___3_, y_m___4_, y_m___5_, y_m___6_, z3, y_m___8_, y_m___9_, y_m___10_, hpo, hso⟩, hF_9⟩⟩
theorem chr_i2c : ∀ k, k < 128 → ((nI k).toUInt32 % 65536).toInt32 = nI k := by decide
theorem chr_nar : ∀ k, k < 128 → narrow .char (.int (nI k)) = .int (nI k) := by
  have : ∀ k, k < 128 → (match narrow .char (.int (nI k)) with | .int z => decide (z = nI k) | _ => false) = true := by decide +kernel
  intro k hk
  have h := this k hk
  split at h
  · rename_i z e
    rw [e, of_decide_eq_true h]
  · cases h
set_option maxRecDepth 100000 in
set_option maxHeartbeats 4000000 in
theorem sm_lineAt {d : Nat} {x : Int32} {w : mW} {m : Nat} {th : Int32} {f g : Nat → Int32} {sl op lo : Int32} {hd rs : Nat → Int32} {np : Nat} {tp av lg pl tk : Int32} {l : List sv} {ea fa : Int32} {so : Option sv} {tx : Nat → Int32} {tn : Nat} {lf : Nat → Int32} {ln : Nat} (H : MdAt w m th ((f, g, sl, op, lo), hd, rs, np, tp, av, lg, pl, tk) l ea fa so tx tn lf ln) (hln : ln ≤ 40) (hch : ∀ j, j < ln → ∃ k, k < 128 ∧ lf j = nI k) : Sp (d + 1) yX9_lineAt cX9_lineAt 2 (some .char) [.ref m, .int x] w 0 0 (fun v w' => (isI x 0 (nI ln - 1) = true ∧ v = some (.int (lf x.toNatClampNeg)) ∧ MdTo w w' m 0 ((f, g, sl, op, lo), hd, rs, np, tp, av, lg, pl, tk) l ea fa so tx tn lf ln) ∨ (isI x 0 (nI ln - 1) = false ∧ v = some (.int 97) ∧ MdTo w w' m 1 ((f, g, sl, op, lo), hd, rs, np, tp, av, lg, pl, tk) l ea fa so tx tn lf ln)) noX := by
  refine Sp.of (by decide +kernel) (Nat.le_of_ble_eq_true rfl) (fun X hC hnl hE hR hN => ?_)
  have hC : Cx X RX9 cX9_lineAt (d + 1) 0 0 := hC
  show Wp X 0 0 w [(0, .ref m), (1, .int x)] [] 0
  obtain ⟨he, en, iw, id0, bf, sf, kf, pf, lt, hm, hv, hbf, hsf, hkf, hpf, htx, hlf, hlt, hwd, hwa, hpo, hso⟩ := H
  have hF0 : Fr m w w := Fr.rfl
  refine r_aload_n hC dX9_lineAt_0 rfl (j := 0) rfl ?_
  refine r_iload_n hC dX9_lineAt_1 rfl (j := 1) rfl ?_
  refine r_iconst hC dX9_lineAt_2 (v := 0) (by decide) ?_
  refine r_aload_n hC dX9_lineAt_3 rfl (j := 0) rfl ?_
  refine r_get hC gX9_lineAt_4 hm (v := .int (nI ln)) rfl ?_
  refine r_iconst hC dX9_lineAt_7 (v := 1) (by decide) ?_
  refine r_isub hC dX9_lineAt_8 ?_
  refine r_callS hC (vs := [.int x, .int 0, .int ((nI ln) - 1)]) vX9_lineAt_9 (sm_isIn (d := d)) rfl (by omega) (by omega) (by omega) (Nat.le_of_ble_eq_true rfl) (fun v_1 w_1 hP_1 hlen_1 => ?_) (fun _ _ h => h.elim)
  rw [hP_1.1, hP_1.2]
  show Wp X 0 0 w [(0, .ref m), (1, .int x)] [.int (bI (isI x 0 (nI ln - 1))), .ref m] 12
  refine r_if_eq hC dX9_lineAt_12 (tgt := 19) (by decide) (fun c12 => ?_) (fun c12 => ?_)
  · refine r_iconst hC dX9_lineAt_19 (v := 1) (by decide) ?_
    refine r_put' hC pX9_lineAt_20 hm (Nat.le_of_ble_eq_true rfl) (fun _ => rfl) (fun _ => rfl) (fun w_2 ew_2 => ?_)
    replace ew_2 : w_2 = (w).set (m) (mO 10 [.int 1, .int (nI l.length), .int ea, .int fa, .int (bI so.isSome), .ref (m + 1), .ref (m + 2), .ref (m + 3), .ref (m + 4), .ref (m + 5), .ref (m + 6), .ref (m + 7), .ref (m + 8), .ref (m + 9), .ref (m + 10), .int (nI tn), .int he, .int en, .int (nI ln), .int iw, .int id0]) := ew_2
    have hf2_m : w_2[m]? = some (mO 10 [.int 1, .int (nI l.length), .int ea, .int fa, .int (bI so.isSome), .ref (m + 1), .ref (m + 2), .ref (m + 3), .ref (m + 4), .ref (m + 5), .ref (m + 6), .ref (m + 7), .ref (m + 8), .ref (m + 9), .ref (m + 10), .int (nI tn), .int he, .int en, .int (nI ln), .int iw, .int id0]) := by rw [ew_2]; exact List.getElem?_set_self (lt_of_get hm)
    have hf2__m___1_ : w_2[(m + 1)]? = some (mI 0 67 (enc ((f, g, sl, op, lo), hd, rs, np, tp, av, lg, pl, tk))) := by rw [ew_2, List.getElem?_set_ne (by omega)]; exact hv
    have hf2__m___2_ : w_2[(m + 2)]? = some (mI 0 67 bf) := by rw [ew_2, List.getElem?_set_ne (by omega)]; exact hbf
    have hf2__m___3_ : w_2[(m + 3)]? = some (mI 0 67 sf) := by rw [ew_2, List.getElem?_set_ne (by omega)]; exact hsf
    have hf2__m___4_ : w_2[(m + 4)]? = some (mI 0 67 kf) := by rw [ew_2, List.getElem?_set_ne (by omega)]; exact hkf
    have hf2__m___5_ : w_2[(m + 5)]? = some (mI 0 536 pf) := by rw [ew_2, List.getElem?_set_ne (by omega)]; exact hpf
    have hf2__m___6_ : w_2[(m + 6)]? = some (mI 0 60 tx) := by rw [ew_2, List.getElem?_set_ne (by omega)]; exact htx
    have hf2__m___7_ : w_2[(m + 7)]? = some (mI 0 40 lf) := by rw [ew_2, List.getElem?_set_ne (by omega)]; exact hlf
    have hf2__m___8_ : w_2[(m + 8)]? = some (mI 0 8 lt) := by rw [ew_2, List.getElem?_set_ne (by omega)]; exact hlt
    have hf2__m___9_ : w_2[(m + 9)]? = some (mI 0 41 wdF) := by rw [ew_2, List.getElem?_set_ne (by omega)]; exact hwd
    have hf2__m___10_ : w_2[(m + 10)]? = some (mI 0 9 waF) := by rw [ew_2, List.getElem?_set_ne (by omega)]; exact hwa
    have hF_2 : Fr m w w_2 := by rw [ew_2]; exact (Fr.set hF0 (by omega) (by omega))
    refine r_aload_n hC dX9_lineAt_23 rfl (j := 0) rfl ?_
    refine r_get hC gX9_lineAt_24 hf2_m (v := .int 1) rfl ?_
    refine r_if_ne hC dX9_lineAt_27 (tgt := 40) (by decide) (fun _ => ?_) (fun h => absurd h (by decide))
    refine r_bipush hC dX9_lineAt_40 (v := 97) (by decide) ?_
    refine r_nret hC hE hR dX9_lineAt_42 (chr_nar 97 (by decide)) (by omega) (by omega) (hF_2.1) ?_
    exact (Or.inr ⟨(bI_0.mp c12), rfl, ⟨⟨_, _, _, _, _, _, _, _, _, hf2_m, hf2__m___1_, hf2__m___2_, hf2__m___3_, hf2__m___4_, hf2__m___5_, hf2__m___6_, hf2__m___7_, hf2__m___8_, hf2__m___9_, hf2__m___10_, hpo, hso⟩, hF_2⟩⟩)
  · refine r_iconst hC dX9_lineAt_15 (v := 0) (by decide) ?_
    refine r_goto hC dX9_lineAt_16 (tgt := 20) (by decide) ?_
    refine r_put' hC pX9_lineAt_20 hm (Nat.le_of_ble_eq_true rfl) (fun _ => rfl) (fun _ => rfl) (fun w_3 ew_3 => ?_)
    replace ew_3 : w_3 = (w).set (m) (mO 10 [.int 0, .int (nI l.length), .int ea, .int fa, .int (bI so.isSome), .ref (m + 1), .ref (m + 2), .ref (m + 3), .ref (m + 4), .ref (m + 5), .ref (m + 6), .ref (m + 7), .ref (m + 8), .ref (m + 9), .ref (m + 10), .int (nI tn), .int he, .int en, .int (nI ln), .int iw, .int id0]) := ew_3
    have hf3_m : w_3[m]? = some (mO 10 [.int 0, .int (nI l.length), .int ea, .int fa, .int (bI so.isSome), .ref (m + 1), .ref (m + 2), .ref (m + 3), .ref (m + 4), .ref (m + 5), .ref (m + 6), .ref (m + 7), .ref (m + 8), .ref (m + 9), .ref (m + 10), .int (nI tn), .int he, .int en, .int (nI ln), .int iw, .int id0]) := by rw [ew_3]; exact List.getElem?_set_self (lt_of_get hm)
    have hf3__m___1_ : w_3[(m + 1)]? = some (mI 0 67 (enc ((f, g, sl, op, lo), hd, rs, np, tp, av, lg, pl, tk))) := by rw [ew_3, List.getElem?_set_ne (by omega)]; exact hv
    have hf3__m___2_ : w_3[(m + 2)]? = some (mI 0 67 bf) := by rw [ew_3, List.getElem?_set_ne (by omega)]; exact hbf
    have hf3__m___3_ : w_3[(m + 3)]? = some (mI 0 67 sf) := by rw [ew_3, List.getElem?_set_ne (by omega)]; exact hsf
    have hf3__m___4_ : w_3[(m + 4)]? = some (mI 0 67 kf) := by rw [ew_3, List.getElem?_set_ne (by omega)]; exact hkf
    have hf3__m___5_ : w_3[(m + 5)]? = some (mI 0 536 pf) := by rw [ew_3, List.getElem?_set_ne (by omega)]; exact hpf
    have hf3__m___6_ : w_3[(m + 6)]? = some (mI 0 60 tx) := by rw [ew_3, List.getElem?_set_ne (by omega)]; exact htx
    have hf3__m___7_ : w_3[(m + 7)]? = some (mI 0 40 lf) := by rw [ew_3, List.getElem?_set_ne (by omega)]; exact hlf
    have hf3__m___8_ : w_3[(m + 8)]? = some (mI 0 8 lt) := by rw [ew_3, List.getElem?_set_ne (by omega)]; exact hlt
    have hf3__m___9_ : w_3[(m + 9)]? = some (mI 0 41 wdF) := by rw [ew_3, List.getElem?_set_ne (by omega)]; exact hwd
    have hf3__m___10_ : w_3[(m + 10)]? = some (mI 0 9 waF) := by rw [ew_3, List.getElem?_set_ne (by omega)]; exact hwa
    have hF_3 : Fr m w w_3 := by rw [ew_3]; exact (Fr.set hF0 (by omega) (by omega))
    refine r_aload_n hC dX9_lineAt_23 rfl (j := 0) rfl ?_
    refine r_get hC gX9_lineAt_24 hf3_m (v := .int 0) rfl ?_
    refine r_if_ne hC dX9_lineAt_27 (tgt := 40) (by decide) (fun h => absurd (by decide) h) (fun _ => ?_)
    have p1 : isI x 0 (nI ln - 1) = true := bI_ne.mp c12
    have hb9 := isI_n (by omega) p1
    obtain ⟨kc, hkc, ekc⟩ := hch _ hb9.1
    refine r_aload_n hC dX9_lineAt_30 rfl (j := 0) rfl ?_
    refine r_get hC gX9_lineAt_31 hf3_m (v := .ref (m + 7)) rfl ?_
    refine r_iload_n hC dX9_lineAt_34 rfl (j := 1) rfl ?_
    refine r_iald hC dX9_lineAt_35 (j := x.toNatClampNeg) hf3__m___7_ ⟨by rw [hb9.2]; exact nI_pos (by omega), rfl, by omega⟩ ?_
    rw [ekc]
    refine r_i2c hC dX9_lineAt_36 rfl ?_
    rw [chr_i2c kc hkc]
    refine r_goto hC dX9_lineAt_37 (tgt := 42) (by decide) ?_
    refine r_nret hC hE hR dX9_lineAt_42 (chr_nar kc hkc) (by omega) (by omega) (hF_3.1) ?_
    exact (Or.inl ⟨p1, (by rw [ekc]), ⟨⟨_, _, _, _, _, _, _, _, _, hf3_m, hf3__m___1_, hf3__m___2_, hf3__m___3_, hf3__m___4_, hf3__m___5_, hf3__m___6_, hf3__m___7_, hf3__m___8_, hf3__m___9_, hf3__m___10_, hpo, hso⟩, hF_3⟩⟩)
end LN2
