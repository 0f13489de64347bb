section LW
/-- behind a wrapper: what was answered lies in out; nothing was answered -/
def Lo (w w' : mW) (x o : Nat) (y : sv) (l : List sv) (ea fa : Int32) (so : Option sv) (tx ln : List Nat) (r : Int64) : Prop := CtAt w' x y l ea fa so tx ln ∧ (∃ q1 : Nat → Int64, w'[o]? = some (.inl (1, 1, .inr (.inl q1))) ∧ q1 0 = r) ∧ ∀ k, (k < x ∨ x + 88 < k) → k ≠ o → w'[k]? = w[k]?
def Lx (w w' : mW) (x o : Nat) (y : sv) (l : List sv) (ea fa : Int32) (so : Option sv) (tx ln : List Nat) : Prop := CtAt w' x y l ea fa so tx ln ∧ (∃ q1 : Nat → Int64, w'[o]? = some (.inl (1, 1, .inr (.inl q1)))) ∧ ∀ k, (k < x ∨ x + 88 < k) → k ≠ o → w'[k]? = w[k]?
def LoD (w w' : mW) (x o : Nat) (y : sv) (l : List sv) (ea fa : Int32) (so : Option sv) (tx ln : List Nat) (r : UInt64) : Prop := CtAt w' x y l ea fa so tx ln ∧ (∃ q1 : Nat → UInt64, w'[o]? = some (.inl (2, 1, .inr (.inr (.inr (.inl q1))))) ∧ q1 0 = r) ∧ ∀ k, (k < x ∨ x + 88 < k) → k ≠ o → w'[k]? = w[k]?
def LxD (w w' : mW) (x o : Nat) (y : sv) (l : List sv) (ea fa : Int32) (so : Option sv) (tx ln : List Nat) : Prop := CtAt w' x y l ea fa so tx ln ∧ (∃ q1 : Nat → UInt64, w'[o]? = some (.inl (2, 1, .inr (.inr (.inr (.inl q1)))))) ∧ ∀ k, (k < x ∨ x + 88 < k) → k ≠ o → w'[k]? = w[k]?
section
variable {w w1 w2 : mW} {x o : Nat} {y : sv} {l : List sv} {ea fa : Int32} {so : Option sv} {tx ln : List Nat}
theorem Lo.mk {q0 : Nat → Int64} {v r : Int64} (T : CtTo w w1 x y l ea fa so tx ln) (hox : o < x ∨ x + 88 < o) (ho : w1[o]? = some (.inl (1, 1, .inr (.inl q0)))) (e : w2 = w1.set o (.inl (1, 1, .inr (.inl (vp_updL q0 0 v))))) (hr : v = r) : Lo w w2 x o y l ea fa so tx ln r := by
  subst hr
  exact ⟨T.1.frame (fun k _ _ => by rw [e, List.getElem?_set_ne (by omega)]), ⟨_, by rw [e]; exact List.getElem?_set_self (lt_of_get ho), if_pos rfl⟩, fun k hk h2 => by rw [e, List.getElem?_set_ne (Ne.symm h2)]; exact T.2 k hk⟩
theorem Lx.mk {q0 : Nat → Int64} (T : CtTo w w1 x y l ea fa so tx ln) (hox : o < x ∨ x + 88 < o) (ho : w[o]? = some (.inl (1, 1, .inr (.inl q0)))) : Lx w w1 x o y l ea fa so tx ln := ⟨T.1, ⟨q0, (T.2 o hox).trans ho⟩, fun k hk _ => T.2 k hk⟩
theorem LoD.mk {q0 : Nat → UInt64} {v r : UInt64} (T : CtTo w w1 x y l ea fa so tx ln) (hox : o < x ∨ x + 88 < o) (ho : w1[o]? = some (.inl (2, 1, .inr (.inr (.inr (.inl q0)))))) (e : w2 = w1.set o (.inl (2, 1, .inr (.inr (.inr (.inl (vf_upd q0 0 v))))))) (hr : v = r) : LoD w w2 x o y l ea fa so tx ln r := by
  subst hr
  exact ⟨T.1.frame (fun k _ _ => by rw [e, List.getElem?_set_ne (by omega)]), ⟨_, by rw [e]; exact List.getElem?_set_self (lt_of_get ho), if_pos rfl⟩, fun k hk h2 => by rw [e, List.getElem?_set_ne (Ne.symm h2)]; exact T.2 k hk⟩
theorem LxD.mk {q0 : Nat → UInt64} (T : CtTo w w1 x y l ea fa so tx ln) (hox : o < x ∨ x + 88 < o) (ho : w[o]? = some (.inl (2, 1, .inr (.inr (.inr (.inl q0)))))) : LxD w w1 x o y l ea fa so tx ln := ⟨T.1, ⟨q0, (T.2 o hox).trans ho⟩, fun k hk _ => T.2 k hk⟩
end
theorem fc_entry {np : Nat} {z : Int32} : fltEntry np z = 1000010 ∨ fltEntry np z = 1000012 ∨ fltEntry np z = 1000013 := by
  unfold fltEntry; split
  · decide
  · split <;> decide
theorem fc_slope {z : Int32} : fltSlope z = 1000010 ∨ fltSlope z = 1000012 := by
  unfold fltSlope; split <;> decide
theorem fc_pile {f : Nat → Int32} {c z : Int32} : fltPile f c z = 1000010 ∨ fltPile f c z = 1000011 ∨ fltPile f c z = 1000012 ∨ fltPile f c z = 1000013 := by
  unfold fltPile; split
  · decide
  · split
    · decide
    · split <;> decide
theorem fc_take {f g : Nat → Int32} {np : Nat} {q c : Int32} : fltTake f g np q c = 1000010 ∨ fltTake f g np q c = 1000011 ∨ fltTake f g np q c = 1000014 ∨ fltTake f g np q c = 1000015 := by
  unfold fltTake; split
  · decide
  · split
    · decide
    · split <;> decide
theorem fc_drop {f hd rs : Nat → Int32} {np : Nat} {q c z : Int32} : fltDrop f hd rs np q c z = 1000010 ∨ fltDrop f hd rs np q c z = 1000011 ∨ fltDrop f hd rs np q c z = 1000012 ∨ fltDrop f hd rs np q c z = 1000013 ∨ fltDrop f hd rs np q c z = 1000015 := by
  unfold fltDrop; split
  · decide
  · split
    · rcases fc_pile (f := f) (c := c) (z := z) with h | h | h | h <;> rw [h] <;> decide
    · split
      · decide
      · split <;> decide
set_option maxRecDepth 100000 in
set_option maxHeartbeats 4000000 in
theorem lw_hand {d o : Nat} {q0 : Nat → Int64} {p : Int32} {w : mW} {x : Nat} {f g : Nat → Int32} {sl op lo : Int32} {hd rs : Nat → Int32} {np : Nat} {tp av lg pl tk : Int32} {l : List sv} {ea fa : Int32} {so : Option sv} {tx ln : List Nat} (H : CtAt w x ((f, g, sl, op, lo), hd, rs, np, tp, av, lg, pl, tk) l ea fa so tx ln) (ho : w[o]? = some (.inl (1, 1, .inr (.inl q0)))) (hox : o < x ∨ x + 88 < o) (hnp : np ≤ 4) : SpH (d + 3) yL_hand cL_hand 4 (some .int) hh_hand [.ref x, .int p, .ref o] w 1 6 (fun v w' => (isP p np = true ∧ v = some (.int 0) ∧ Lo w w' x o ((f, g, sl, op, lo), hd, rs, np, tp, av, lg, pl, tk) l ea fa so tx ln ((hd p.toNatClampNeg).toInt64)) ∨ (isP p np = false ∧ v = some (.int 1) ∧ Lx w w' x o ((f, g, sl, op, lo), hd, rs, np, tp, av, lg, pl, tk) l ea fa so tx ln)) := by
  refine SpH.of (by decide +kernel) (Nat.le_of_ble_eq_true rfl) (fun X hC hnl hE hR hT => ?_)
  have hC : Cx X RL cL_hand (d + 3) 1 6 := hC
  obtain ⟨ol, hs, yb, ys, hx, q, qn, cn, ps, cs, hob, -⟩ := id H
  show Wp X 0 0 w [(0, .ref x), (1, .int p), (2, .ref o)] [] 0
  refine r_aload_n hC dL_hand_0 rfl (j := 2) rfl ?_
  refine r_iconst hC dL_hand_1 (v := 0) (by decide) ?_
  refine r_aload_n hC dL_hand_2 rfl (j := 0) rfl ?_
  refine r_iload_n hC dL_hand_3 rfl (j := 1) rfl ?_
  
  refine r_callV hC (vs := [.int p]) vL_hand_4 (sh_hand (d := d) (p := p) H hnp) hob rfl rfl (by omega) (by omega) (by omega) (Nat.le_of_ble_eq_true rfl) (fun v_1 w_1 hP_1 hlen_1 => ?_) (fun E_1 w9_1 hX_1 hl9_1 => ?_)
  · obtain ⟨hc_1, hv_1, hw_1⟩ := hP_1
    rw [hv_1, hw_1]
    show Wp X (0 + 1) (0 + 6) w [(0, .ref x), (1, .int p), (2, .ref o)] [.int (hd p.toNatClampNeg), .int 0, .ref o] 7
    refine r_i2l hC dL_hand_7 rfl ?_
    refine r_last' hC dL_hand_8 (j := 0) ho ⟨by decide, by decide, by decide⟩ (fun w_2 ew_2 => ?_)
    have hf2_o : w_2[o]? = some (.inl (1, 1, .inr (.inl (vp_updL q0 0 (((hd p.toNatClampNeg)).toInt64))))) := by rw [ew_2]; exact List.getElem?_set_self (lt_of_get ho)
    refine r_goto hC dL_hand_9 (tgt := 15) (by decide) ?_
    refine r_iconst hC dL_hand_15 (v := 0) (by decide) ?_
    refine r_iret hC hE hR dL_hand_16 (by omega) (by omega) (by simp only [ew_2, List.length_set]) ?_
    exact Or.inl (⟨hc_1, rfl, Lo.mk (CtTo.rfl H) hox ho ew_2 rfl⟩)
  · obtain ⟨eE, hw, hcx⟩ := hX_1
    subst eE
    rw [hw]
    refine r_catch hC hT [] ⟨0, 9, 12, 21⟩ [] rfl (fun z hz => by cases hz) rfl (by decide) kcL_21 ca_IndexOutOfBoundsException dL_hand_12 rfl (by rw [hnl]; decide) ?_
    show Wp X (0 + 1) (0 + 6) w [] [] 13
    refine r_iconst hC dL_hand_13 (v := 1) (by decide) ?_
    refine r_iret hC hE hR dL_hand_14 (by omega) (by omega) rfl ?_
    exact Or.inr (⟨hcx, rfl, Lx.mk (CtTo.rfl H) hox ho⟩)
set_option maxRecDepth 100000 in
set_option maxHeartbeats 4000000 in
theorem lw_rest {d o : Nat} {q0 : Nat → Int64} {p : Int32} {w : mW} {x : Nat} {f g : Nat → Int32} {sl op lo : Int32} {hd rs : Nat → Int32} {np : Nat} {tp av lg pl tk : Int32} {l : List sv} {ea fa : Int32} {so : Option sv} {tx ln : List Nat} (H : CtAt w x ((f, g, sl, op, lo), hd, rs, np, tp, av, lg, pl, tk) l ea fa so tx ln) (ho : w[o]? = some (.inl (1, 1, .inr (.inl q0)))) (hox : o < x ∨ x + 88 < o) (hnp : np ≤ 4) : SpH (d + 3) yL_rest cL_rest 4 (some .int) hh_rest [.ref x, .int p, .ref o] w 1 6 (fun v w' => (isP p np = true ∧ v = some (.int 0) ∧ Lo w w' x o ((f, g, sl, op, lo), hd, rs, np, tp, av, lg, pl, tk) l ea fa so tx ln ((rs p.toNatClampNeg).toInt64)) ∨ (isP p np = false ∧ v = some (.int 1) ∧ Lx w w' x o ((f, g, sl, op, lo), hd, rs, np, tp, av, lg, pl, tk) l ea fa so tx ln)) := by
  refine SpH.of (by decide +kernel) (Nat.le_of_ble_eq_true rfl) (fun X hC hnl hE hR hT => ?_)
  have hC : Cx X RL cL_rest (d + 3) 1 6 := hC
  obtain ⟨ol, hs, yb, ys, hx, q, qn, cn, ps, cs, hob, -⟩ := id H
  show Wp X 0 0 w [(0, .ref x), (1, .int p), (2, .ref o)] [] 0
  refine r_aload_n hC dL_rest_0 rfl (j := 2) rfl ?_
  refine r_iconst hC dL_rest_1 (v := 0) (by decide) ?_
  refine r_aload_n hC dL_rest_2 rfl (j := 0) rfl ?_
  refine r_iload_n hC dL_rest_3 rfl (j := 1) rfl ?_
  
  refine r_callV hC (vs := [.int p]) vL_rest_4 (sh_rest (d := d) (p := p) H hnp) hob rfl rfl (by omega) (by omega) (by omega) (Nat.le_of_ble_eq_true rfl) (fun v_1 w_1 hP_1 hlen_1 => ?_) (fun E_1 w9_1 hX_1 hl9_1 => ?_)
  · obtain ⟨hc_1, hv_1, hw_1⟩ := hP_1
    rw [hv_1, hw_1]
    show Wp X (0 + 1) (0 + 6) w [(0, .ref x), (1, .int p), (2, .ref o)] [.int (rs p.toNatClampNeg), .int 0, .ref o] 7
    refine r_i2l hC dL_rest_7 rfl ?_
    refine r_last' hC dL_rest_8 (j := 0) ho ⟨by decide, by decide, by decide⟩ (fun w_2 ew_2 => ?_)
    have hf2_o : w_2[o]? = some (.inl (1, 1, .inr (.inl (vp_updL q0 0 (((rs p.toNatClampNeg)).toInt64))))) := by rw [ew_2]; exact List.getElem?_set_self (lt_of_get ho)
    refine r_goto hC dL_rest_9 (tgt := 15) (by decide) ?_
    refine r_iconst hC dL_rest_15 (v := 0) (by decide) ?_
    refine r_iret hC hE hR dL_rest_16 (by omega) (by omega) (by simp only [ew_2, List.length_set]) ?_
    exact Or.inl (⟨hc_1, rfl, Lo.mk (CtTo.rfl H) hox ho ew_2 rfl⟩)
  · obtain ⟨eE, hw, hcx⟩ := hX_1
    subst eE
    rw [hw]
    refine r_catch hC hT [] ⟨0, 9, 12, 21⟩ [] rfl (fun z hz => by cases hz) rfl (by decide) kcL_21 ca_IndexOutOfBoundsException dL_rest_12 rfl (by rw [hnl]; decide) ?_
    show Wp X (0 + 1) (0 + 6) w [] [] 13
    refine r_iconst hC dL_rest_13 (v := 1) (by decide) ?_
    refine r_iret hC hE hR dL_rest_14 (by omega) (by omega) rfl ?_
    exact Or.inr (⟨hcx, rfl, Lx.mk (CtTo.rfl H) hox ho⟩)
set_option maxRecDepth 100000 in
set_option maxHeartbeats 4000000 in
theorem lw_crowns {d o : Nat} {q0 : Nat → Int64} {p : Int32} {w : mW} {x : Nat} {f g : Nat → Int32} {sl op lo : Int32} {hd rs : Nat → Int32} {np : Nat} {tp av lg pl tk : Int32} {l : List sv} {ea fa : Int32} {so : Option sv} {tx ln : List Nat} (H : CtAt w x ((f, g, sl, op, lo), hd, rs, np, tp, av, lg, pl, tk) l ea fa so tx ln) (ho : w[o]? = some (.inl (1, 1, .inr (.inl q0)))) (hox : o < x ∨ x + 88 < o) (hnp : np ≤ 4) : SpH (d + 3) yL_crowns cL_crowns 4 (some .int) hh_crowns [.ref x, .int p, .ref o] w 1 6 (fun v w' => (isP p np = true ∧ v = some (.int 0) ∧ Lo w w' x o ((f, g, sl, op, lo), hd, rs, np, tp, av, lg, pl, tk) l ea fa so tx ln ((hCnt (hOwnP f g p) 25).toInt64)) ∨ (isP p np = false ∧ v = some (.int 1) ∧ Lx w w' x o ((f, g, sl, op, lo), hd, rs, np, tp, av, lg, pl, tk) l ea fa so tx ln)) := by
  refine SpH.of (by decide +kernel) (Nat.le_of_ble_eq_true rfl) (fun X hC hnl hE hR hT => ?_)
  have hC : Cx X RL cL_crowns (d + 3) 1 6 := hC
  obtain ⟨ol, hs, yb, ys, hx, q, qn, cn, ps, cs, hob, -⟩ := id H
  show Wp X 0 0 w [(0, .ref x), (1, .int p), (2, .ref o)] [] 0
  refine r_aload_n hC dL_crowns_0 rfl (j := 2) rfl ?_
  refine r_iconst hC dL_crowns_1 (v := 0) (by decide) ?_
  refine r_aload_n hC dL_crowns_2 rfl (j := 0) rfl ?_
  refine r_iload_n hC dL_crowns_3 rfl (j := 1) rfl ?_
  
  refine r_callV hC (vs := [.int p]) vL_crowns_4 (sh_crowns (d := d) (p := p) H hnp) hob rfl rfl (by omega) (by omega) (by omega) (Nat.le_of_ble_eq_true rfl) (fun v_1 w_1 hP_1 hlen_1 => ?_) (fun E_1 w9_1 hX_1 hl9_1 => ?_)
  · obtain ⟨hc_1, hv_1, hw_1⟩ := hP_1
    rw [hv_1, hw_1]
    show Wp X (0 + 1) (0 + 6) w [(0, .ref x), (1, .int p), (2, .ref o)] [.int (hCnt (hOwnP f g p) 25), .int 0, .ref o] 7
    refine r_i2l hC dL_crowns_7 rfl ?_
    refine r_last' hC dL_crowns_8 (j := 0) ho ⟨by decide, by decide, by decide⟩ (fun w_2 ew_2 => ?_)
    have hf2_o : w_2[o]? = some (.inl (1, 1, .inr (.inl (vp_updL q0 0 (((hCnt (hOwnP f g p) 25)).toInt64))))) := by rw [ew_2]; exact List.getElem?_set_self (lt_of_get ho)
    refine r_goto hC dL_crowns_9 (tgt := 15) (by decide) ?_
    refine r_iconst hC dL_crowns_15 (v := 0) (by decide) ?_
    refine r_iret hC hE hR dL_crowns_16 (by omega) (by omega) (by simp only [ew_2, List.length_set]) ?_
    exact Or.inl (⟨hc_1, rfl, Lo.mk (CtTo.rfl H) hox ho ew_2 rfl⟩)
  · obtain ⟨eE, hw, hcx⟩ := hX_1
    subst eE
    rw [hw]
    refine r_catch hC hT [] ⟨0, 9, 12, 21⟩ [] rfl (fun z hz => by cases hz) rfl (by decide) kcL_21 ca_IndexOutOfBoundsException dL_crowns_12 rfl (by rw [hnl]; decide) ?_
    show Wp X (0 + 1) (0 + 6) w [] [] 13
    refine r_iconst hC dL_crowns_13 (v := 1) (by decide) ?_
    refine r_iret hC hE hR dL_crowns_14 (by omega) (by omega) rfl ?_
    exact Or.inr (⟨hcx, rfl, Lx.mk (CtTo.rfl H) hox ho⟩)
set_option maxRecDepth 100000 in
set_option maxHeartbeats 4000000 in
theorem lw_score {d o : Nat} {q0 : Nat → Int64} {p : Int32} {w : mW} {x : Nat} {f g : Nat → Int32} {sl op lo : Int32} {hd rs : Nat → Int32} {np : Nat} {tp av lg pl tk : Int32} {l : List sv} {ea fa : Int32} {so : Option sv} {tx ln : List Nat} (H : CtAt w x ((f, g, sl, op, lo), hd, rs, np, tp, av, lg, pl, tk) l ea fa so tx ln) (ho : w[o]? = some (.inl (1, 1, .inr (.inl q0)))) (hox : o < x ∨ x + 88 < o) (hnp : np ≤ 4) : SpH (d + 3) yL_score cL_score 4 (some .int) hh_score [.ref x, .int p, .ref o] w 1 6 (fun v w' => (isP p np = true ∧ v = some (.int 0) ∧ Lo w w' x o ((f, g, sl, op, lo), hd, rs, np, tp, av, lg, pl, tk) l ea fa so tx ln ((hSumIf (hOwnP f g p) f 25).toInt64)) ∨ (isP p np = false ∧ v = some (.int 1) ∧ Lx w w' x o ((f, g, sl, op, lo), hd, rs, np, tp, av, lg, pl, tk) l ea fa so tx ln)) := by
  refine SpH.of (by decide +kernel) (Nat.le_of_ble_eq_true rfl) (fun X hC hnl hE hR hT => ?_)
  have hC : Cx X RL cL_score (d + 3) 1 6 := hC
  obtain ⟨ol, hs, yb, ys, hx, q, qn, cn, ps, cs, hob, -⟩ := id H
  show Wp X 0 0 w [(0, .ref x), (1, .int p), (2, .ref o)] [] 0
  refine r_aload_n hC dL_score_0 rfl (j := 2) rfl ?_
  refine r_iconst hC dL_score_1 (v := 0) (by decide) ?_
  refine r_aload_n hC dL_score_2 rfl (j := 0) rfl ?_
  refine r_iload_n hC dL_score_3 rfl (j := 1) rfl ?_
  
  refine r_callV hC (vs := [.int p]) vL_score_4 (sh_score (d := d) (p := p) H hnp) hob rfl rfl (by omega) (by omega) (by omega) (Nat.le_of_ble_eq_true rfl) (fun v_1 w_1 hP_1 hlen_1 => ?_) (fun E_1 w9_1 hX_1 hl9_1 => ?_)
  · obtain ⟨hc_1, hv_1, hw_1⟩ := hP_1
    rw [hv_1, hw_1]
    show Wp X (0 + 1) (0 + 6) w [(0, .ref x), (1, .int p), (2, .ref o)] [.int (hSumIf (hOwnP f g p) f 25), .int 0, .ref o] 7
    refine r_i2l hC dL_score_7 rfl ?_
    refine r_last' hC dL_score_8 (j := 0) ho ⟨by decide, by decide, by decide⟩ (fun w_2 ew_2 => ?_)
    have hf2_o : w_2[o]? = some (.inl (1, 1, .inr (.inl (vp_updL q0 0 (((hSumIf (hOwnP f g p) f 25)).toInt64))))) := by rw [ew_2]; exact List.getElem?_set_self (lt_of_get ho)
    refine r_goto hC dL_score_9 (tgt := 15) (by decide) ?_
    refine r_iconst hC dL_score_15 (v := 0) (by decide) ?_
    refine r_iret hC hE hR dL_score_16 (by omega) (by omega) (by simp only [ew_2, List.length_set]) ?_
    exact Or.inl (⟨hc_1, rfl, Lo.mk (CtTo.rfl H) hox ho ew_2 rfl⟩)
  · obtain ⟨eE, hw, hcx⟩ := hX_1
    subst eE
    rw [hw]
    refine r_catch hC hT [] ⟨0, 9, 12, 21⟩ [] rfl (fun z hz => by cases hz) rfl (by decide) kcL_21 ca_IndexOutOfBoundsException dL_score_12 rfl (by rw [hnl]; decide) ?_
    show Wp X (0 + 1) (0 + 6) w [] [] 13
    refine r_iconst hC dL_score_13 (v := 1) (by decide) ?_
    refine r_iret hC hE hR dL_score_14 (by omega) (by omega) rfl ?_
    exact Or.inr (⟨hcx, rfl, Lx.mk (CtTo.rfl H) hox ho⟩)
set_option maxRecDepth 100000 in
set_option maxHeartbeats 4000000 in
theorem lw_height {d o : Nat} {q0 : Nat → Int64} {c : Int32} {w : mW} {x : Nat} {f g : Nat → Int32} {sl op lo : Int32} {hd rs : Nat → Int32} {np : Nat} {tp av lg pl tk : Int32} {l : List sv} {ea fa : Int32} {so : Option sv} {tx ln : List Nat} (H : CtAt w x ((f, g, sl, op, lo), hd, rs, np, tp, av, lg, pl, tk) l ea fa so tx ln) (ho : w[o]? = some (.inl (1, 1, .inr (.inl q0)))) (hox : o < x ∨ x + 88 < o)  : SpH (d + 3) yL_height cL_height 4 (some .int) hh_height [.ref x, .int c, .ref o] w 1 6 (fun v w' => (isC c = true ∧ v = some (.int 0) ∧ Lo w w' x o ((f, g, sl, op, lo), hd, rs, np, tp, av, lg, pl, tk) l ea fa so tx ln ((f c.toNatClampNeg).toInt64)) ∨ (isC c = false ∧ v = some (.int 1) ∧ Lx w w' x o ((f, g, sl, op, lo), hd, rs, np, tp, av, lg, pl, tk) l ea fa so tx ln)) := by
  refine SpH.of (by decide +kernel) (Nat.le_of_ble_eq_true rfl) (fun X hC hnl hE hR hT => ?_)
  have hC : Cx X RL cL_height (d + 3) 1 6 := hC
  obtain ⟨ol, hs, yb, ys, hx, q, qn, cn, ps, cs, hob, -⟩ := id H
  show Wp X 0 0 w [(0, .ref x), (1, .int c), (2, .ref o)] [] 0
  refine r_aload_n hC dL_height_0 rfl (j := 2) rfl ?_
  refine r_iconst hC dL_height_1 (v := 0) (by decide) ?_
  refine r_aload_n hC dL_height_2 rfl (j := 0) rfl ?_
  refine r_iload_n hC dL_height_3 rfl (j := 1) rfl ?_
  
  refine r_callV hC (vs := [.int c]) vL_height_4 (sh_height (d := d) (c := c) H) hob rfl rfl (by omega) (by omega) (by omega) (Nat.le_of_ble_eq_true rfl) (fun v_1 w_1 hP_1 hlen_1 => ?_) (fun E_1 w9_1 hX_1 hl9_1 => ?_)
  · obtain ⟨hc_1, hv_1, hw_1⟩ := hP_1
    rw [hv_1, hw_1]
    show Wp X (0 + 1) (0 + 6) w [(0, .ref x), (1, .int c), (2, .ref o)] [.int (f c.toNatClampNeg), .int 0, .ref o] 7
    refine r_i2l hC dL_height_7 rfl ?_
    refine r_last' hC dL_height_8 (j := 0) ho ⟨by decide, by decide, by decide⟩ (fun w_2 ew_2 => ?_)
    have hf2_o : w_2[o]? = some (.inl (1, 1, .inr (.inl (vp_updL q0 0 (((f c.toNatClampNeg)).toInt64))))) := by rw [ew_2]; exact List.getElem?_set_self (lt_of_get ho)
    refine r_goto hC dL_height_9 (tgt := 15) (by decide) ?_
    refine r_iconst hC dL_height_15 (v := 0) (by decide) ?_
    refine r_iret hC hE hR dL_height_16 (by omega) (by omega) (by simp only [ew_2, List.length_set]) ?_
    exact Or.inl (⟨hc_1, rfl, Lo.mk (CtTo.rfl H) hox ho ew_2 rfl⟩)
  · obtain ⟨eE, hw, hcx⟩ := hX_1
    subst eE
    rw [hw]
    refine r_catch hC hT [] ⟨0, 9, 12, 21⟩ [] rfl (fun z hz => by cases hz) rfl (by decide) kcL_21 ca_IndexOutOfBoundsException dL_height_12 rfl (by rw [hnl]; decide) ?_
    show Wp X (0 + 1) (0 + 6) w [] [] 13
    refine r_iconst hC dL_height_13 (v := 1) (by decide) ?_
    refine r_iret hC hE hR dL_height_14 (by omega) (by omega) rfl ?_
    exact Or.inr (⟨hcx, rfl, Lx.mk (CtTo.rfl H) hox ho⟩)
set_option maxRecDepth 100000 in
set_option maxHeartbeats 4000000 in
theorem lw_steepness {d o : Nat} {q0 : Nat → Int64} {c : Int32} {w : mW} {x : Nat} {f g : Nat → Int32} {sl op lo : Int32} {hd rs : Nat → Int32} {np : Nat} {tp av lg pl tk : Int32} {l : List sv} {ea fa : Int32} {so : Option sv} {tx ln : List Nat} (H : CtAt w x ((f, g, sl, op, lo), hd, rs, np, tp, av, lg, pl, tk) l ea fa so tx ln) (ho : w[o]? = some (.inl (1, 1, .inr (.inl q0)))) (hox : o < x ∨ x + 88 < o)  : SpH (d + 3) yL_steepness cL_steepness 4 (some .int) hh_steepness [.ref x, .int c, .ref o] w 1 6 (fun v w' => (isC c = true ∧ v = some (.int 0) ∧ Lo w w' x o ((f, g, sl, op, lo), hd, rs, np, tp, av, lg, pl, tk) l ea fa so tx ln ((hSteep f op c.toNatClampNeg).toInt64)) ∨ (isC c = false ∧ v = some (.int 1) ∧ Lx w w' x o ((f, g, sl, op, lo), hd, rs, np, tp, av, lg, pl, tk) l ea fa so tx ln)) := by
  refine SpH.of (by decide +kernel) (Nat.le_of_ble_eq_true rfl) (fun X hC hnl hE hR hT => ?_)
  have hC : Cx X RL cL_steepness (d + 3) 1 6 := hC
  obtain ⟨ol, hs, yb, ys, hx, q, qn, cn, ps, cs, hob, -⟩ := id H
  show Wp X 0 0 w [(0, .ref x), (1, .int c), (2, .ref o)] [] 0
  refine r_aload_n hC dL_steepness_0 rfl (j := 2) rfl ?_
  refine r_iconst hC dL_steepness_1 (v := 0) (by decide) ?_
  refine r_aload_n hC dL_steepness_2 rfl (j := 0) rfl ?_
  refine r_iload_n hC dL_steepness_3 rfl (j := 1) rfl ?_
  
  refine r_callV hC (vs := [.int c]) vL_steepness_4 (sh_steepness (d := d) (c := c) H) hob rfl rfl (by omega) (by omega) (by omega) (Nat.le_of_ble_eq_true rfl) (fun v_1 w_1 hP_1 hlen_1 => ?_) (fun E_1 w9_1 hX_1 hl9_1 => ?_)
  · obtain ⟨hc_1, hv_1, hw_1⟩ := hP_1
    rw [hv_1, hw_1]
    show Wp X (0 + 1) (0 + 6) w [(0, .ref x), (1, .int c), (2, .ref o)] [.int (hSteep f op c.toNatClampNeg), .int 0, .ref o] 7
    refine r_i2l hC dL_steepness_7 rfl ?_
    refine r_last' hC dL_steepness_8 (j := 0) ho ⟨by decide, by decide, by decide⟩ (fun w_2 ew_2 => ?_)
    have hf2_o : w_2[o]? = some (.inl (1, 1, .inr (.inl (vp_updL q0 0 (((hSteep f op c.toNatClampNeg)).toInt64))))) := by rw [ew_2]; exact List.getElem?_set_self (lt_of_get ho)
    refine r_goto hC dL_steepness_9 (tgt := 15) (by decide) ?_
    refine r_iconst hC dL_steepness_15 (v := 0) (by decide) ?_
    refine r_iret hC hE hR dL_steepness_16 (by omega) (by omega) (by simp only [ew_2, List.length_set]) ?_
    exact Or.inl (⟨hc_1, rfl, Lo.mk (CtTo.rfl H) hox ho ew_2 rfl⟩)
  · obtain ⟨eE, hw, hcx⟩ := hX_1
    subst eE
    rw [hw]
    refine r_catch hC hT [] ⟨0, 9, 12, 21⟩ [] rfl (fun z hz => by cases hz) rfl (by decide) kcL_21 ca_IndexOutOfBoundsException dL_steepness_12 rfl (by rw [hnl]; decide) ?_
    show Wp X (0 + 1) (0 + 6) w [] [] 13
    refine r_iconst hC dL_steepness_13 (v := 1) (by decide) ?_
    refine r_iret hC hE hR dL_steepness_14 (by omega) (by omega) rfl ?_
    exact Or.inr (⟨hcx, rfl, Lx.mk (CtTo.rfl H) hox ho⟩)
set_option maxRecDepth 100000 in
set_option maxHeartbeats 4000000 in
theorem lw_lowestNeighbour {d o : Nat} {q0 : Nat → Int64} {c : Int32} {w : mW} {x : Nat} {f g : Nat → Int32} {sl op lo : Int32} {hd rs : Nat → Int32} {np : Nat} {tp av lg pl tk : Int32} {l : List sv} {ea fa : Int32} {so : Option sv} {tx ln : List Nat} (H : CtAt w x ((f, g, sl, op, lo), hd, rs, np, tp, av, lg, pl, tk) l ea fa so tx ln) (ho : w[o]? = some (.inl (1, 1, .inr (.inl q0)))) (hox : o < x ∨ x + 88 < o)  : SpH (d + 3) yL_lowestNeighbour cL_lowestNeighbour 4 (some .int) hh_lowestNeighbour [.ref x, .int c, .ref o] w 1 6 (fun v w' => (isC c = true ∧ v = some (.int 0) ∧ Lo w w' x o ((f, g, sl, op, lo), hd, rs, np, tp, av, lg, pl, tk) l ea fa so tx ln ((nI (hLow f op c.toNatClampNeg)).toInt64)) ∨ (isC c = false ∧ v = some (.int 1) ∧ Lx w w' x o ((f, g, sl, op, lo), hd, rs, np, tp, av, lg, pl, tk) l ea fa so tx ln)) := by
  refine SpH.of (by decide +kernel) (Nat.le_of_ble_eq_true rfl) (fun X hC hnl hE hR hT => ?_)
  have hC : Cx X RL cL_lowestNeighbour (d + 3) 1 6 := hC
  obtain ⟨ol, hs, yb, ys, hx, q, qn, cn, ps, cs, hob, -⟩ := id H
  show Wp X 0 0 w [(0, .ref x), (1, .int c), (2, .ref o)] [] 0
  refine r_aload_n hC dL_lowestNeighbour_0 rfl (j := 2) rfl ?_
  refine r_iconst hC dL_lowestNeighbour_1 (v := 0) (by decide) ?_
  refine r_aload_n hC dL_lowestNeighbour_2 rfl (j := 0) rfl ?_
  refine r_iload_n hC dL_lowestNeighbour_3 rfl (j := 1) rfl ?_
  
  refine r_callV hC (vs := [.int c]) vL_lowestNeighbour_4 (sh_lowestNeighbour (d := d) (c := c) H) hob rfl rfl (by omega) (by omega) (by omega) (Nat.le_of_ble_eq_true rfl) (fun v_1 w_1 hP_1 hlen_1 => ?_) (fun E_1 w9_1 hX_1 hl9_1 => ?_)
  · obtain ⟨hc_1, hv_1, hw_1⟩ := hP_1
    rw [hv_1, hw_1]
    show Wp X (0 + 1) (0 + 6) w [(0, .ref x), (1, .int c), (2, .ref o)] [.int (nI (hLow f op c.toNatClampNeg)), .int 0, .ref o] 7
    refine r_i2l hC dL_lowestNeighbour_7 rfl ?_
    refine r_last' hC dL_lowestNeighbour_8 (j := 0) ho ⟨by decide, by decide, by decide⟩ (fun w_2 ew_2 => ?_)
    have hf2_o : w_2[o]? = some (.inl (1, 1, .inr (.inl (vp_updL q0 0 (((nI (hLow f op c.toNatClampNeg))).toInt64))))) := by rw [ew_2]; exact List.getElem?_set_self (lt_of_get ho)
    refine r_goto hC dL_lowestNeighbour_9 (tgt := 15) (by decide) ?_
    refine r_iconst hC dL_lowestNeighbour_15 (v := 0) (by decide) ?_
    refine r_iret hC hE hR dL_lowestNeighbour_16 (by omega) (by omega) (by simp only [ew_2, List.length_set]) ?_
    exact Or.inl (⟨hc_1, rfl, Lo.mk (CtTo.rfl H) hox ho ew_2 rfl⟩)
  · obtain ⟨eE, hw, hcx⟩ := hX_1
    subst eE
    rw [hw]
    refine r_catch hC hT [] ⟨0, 9, 12, 21⟩ [] rfl (fun z hz => by cases hz) rfl (by decide) kcL_21 ca_IndexOutOfBoundsException dL_lowestNeighbour_12 rfl (by rw [hnl]; decide) ?_
    show Wp X (0 + 1) (0 + 6) w [] [] 13
    refine r_iconst hC dL_lowestNeighbour_13 (v := 1) (by decide) ?_
    refine r_iret hC hE hR dL_lowestNeighbour_14 (by omega) (by omega) rfl ?_
    exact Or.inr (⟨hcx, rfl, Lx.mk (CtTo.rfl H) hox ho⟩)
end LW
