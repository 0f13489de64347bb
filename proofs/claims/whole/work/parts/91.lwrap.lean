section LW
/-- behind a wrapper: what was answered lies in out; nothing was answered -/
def Lo (w w' : mW) (x o : Nat) (y : sv) (l : List sv) (ea fa : Int32) (so : Option sv) (tx ln : List Nat) (r : Int64) : Prop := CtAt w' x y l ea fa so tx ln ∧ (∃ q1 : Nat → Int64, w'[o]? = some (.inl (1, 1, .inr (.inl q1))) ∧ q1 0 = r) ∧ ∀ k, (k < x ∨ x + 88 < k) → k ≠ o → w'[k]? = w[k]?
def Lx (w w' : mW) (x o : Nat) (y : sv) (l : List sv) (ea fa : Int32) (so : Option sv) (tx ln : List Nat) : Prop := CtAt w' x y l ea fa so tx ln ∧ (∃ q1 : Nat → Int64, w'[o]? = some (.inl (1, 1, .inr (.inl q1)))) ∧ ∀ k, (k < x ∨ x + 88 < k) → k ≠ o → w'[k]? = w[k]?
def LoD (w w' : mW) (x o : Nat) (y : sv) (l : List sv) (ea fa : Int32) (so : Option sv) (tx ln : List Nat) (r : UInt64) : Prop := CtAt w' x y l ea fa so tx ln ∧ (∃ q1 : Nat → UInt64, w'[o]? = some (.inl (2, 1, .inr (.inr (.inr (.inl q1))))) ∧ q1 0 = r) ∧ ∀ k, (k < x ∨ x + 88 < k) → k ≠ o → w'[k]? = w[k]?
def LxD (w w' : mW) (x o : Nat) (y : sv) (l : List sv) (ea fa : Int32) (so : Option sv) (tx ln : List Nat) : Prop := CtAt w' x y l ea fa so tx ln ∧ (∃ q1 : Nat → UInt64, w'[o]? = some (.inl (2, 1, .inr (.inr (.inr (.inl q1)))))) ∧ ∀ k, (k < x ∨ x + 88 < k) → k ≠ o → w'[k]? = w[k]?
section
variable {w w1 w2 : mW} {x o : Nat} {y : sv} {l : List sv} {ea fa : Int32} {so : Option sv} {tx ln : List Nat}
theorem Lo.mk {q0 : Nat → Int64} {v r : Int64} (T : CtTo w w1 x y l ea fa so tx ln) (hox : o < x ∨ x + 88 < o) (ho : w1[o]? = some (.inl (1, 1, .inr (.inl q0)))) (e : w2 = w1.set o (.inl (1, 1, .inr (.inl (vp_updL q0 0 v))))) (hr : v = r) : Lo w w2 x o y l ea fa so tx ln r := by
  subst hr
  exact ⟨T.1.frame (fun k _ _ => by rw [e, List.getElem?_set_ne (by omega)]), ⟨_, by rw [e]; exact List.getElem?_set_self (lt_of_get ho), if_pos rfl⟩, fun k hk h2 => by rw [e, List.getElem?_set_ne (Ne.symm h2)]; exact T.2 k hk⟩
theorem Lx.mk {q0 : Nat → Int64} (T : CtTo w w1 x y l ea fa so tx ln) (hox : o < x ∨ x + 88 < o) (ho : w[o]? = some (.inl (1, 1, .inr (.inl q0)))) : Lx w w1 x o y l ea fa so tx ln := ⟨T.1, ⟨q0, (T.2 o hox).trans ho⟩, fun k hk _ => T.2 k hk⟩
theorem LoD.mk {q0 : Nat → UInt64} {v r : UInt64} (T : CtTo w w1 x y l ea fa so tx ln) (hox : o < x ∨ x + 88 < o) (ho : w1[o]? = some (.inl (2, 1, .inr (.inr (.inr (.inl q0)))))) (e : w2 = w1.set o (.inl (2, 1, .inr (.inr (.inr (.inl (vf_upd q0 0 v))))))) (hr : v = r) : LoD w w2 x o y l ea fa so tx ln r := by
  subst hr
  exact ⟨T.1.frame (fun k _ _ => by rw [e, List.getElem?_set_ne (by omega)]), ⟨_, by rw [e]; exact List.getElem?_set_self (lt_of_get ho), if_pos rfl⟩, fun k hk h2 => by rw [e, List.getElem?_set_ne (Ne.symm h2)]; exact T.2 k hk⟩
theorem LxD.mk {q0 : Nat → UInt64} (T : CtTo w w1 x y l ea fa so tx ln) (hox : o < x ∨ x + 88 < o) (ho : w[o]? = some (.inl (2, 1, .inr (.inr (.inr (.inl q0)))))) : LxD w w1 x o y l ea fa so tx ln := ⟨T.1, ⟨q0, (T.2 o hox).trans ho⟩, fun k hk _ => T.2 k hk⟩
end
theorem fc_entry {np : Nat} {z : Int32} : fltEntry np z = 1000010 ∨ fltEntry np z = 1000012 ∨ fltEntry np z = 1000013 := by
  unfold fltEntry; split
  · decide
  · split <;> decide
theorem fc_slope {z : Int32} : fltSlope z = 1000010 ∨ fltSlope z = 1000012 := by
  unfold fltSlope; split <;> decide
theorem fc_pile {f : Nat → Int32} {c z : Int32} : fltPile f c z = 1000010 ∨ fltPile f c z = 1000011 ∨ fltPile f c z = 1000012 ∨ fltPile f c z = 1000013 := by
  unfold fltPile; split
  · decide
  · split
    · decide
    · split <;> decide
theorem fc_take {f g : Nat → Int32} {np : Nat} {q c : Int32} : fltTake f g np q c = 1000010 ∨ fltTake f g np q c = 1000011 ∨ fltTake f g np q c = 1000014 ∨ fltTake f g np q c = 1000015 := by
  unfold fltTake; split
  · decide
  · split
    · decide
    · split <;> decide
theorem fc_drop {f hd rs : Nat → Int32} {np : Nat} {q c z : Int32} : fltDrop f hd rs np q c z = 1000010 ∨ fltDrop f hd rs np q c z = 1000011 ∨ fltDrop f hd rs np q c z = 1000012 ∨ fltDrop f hd rs np q c z = 1000013 ∨ fltDrop f hd rs np q c z = 1000015 := by
  unfold fltDrop; split
  · decide
  · split
    · rcases fc_pile (f := f) (c := c) (z := z) with h | h | h | h <;> rw [h] <;> decide
    · split
      · decide
      · split <;> decide
set_option maxRecDepth 100000 in
set_option maxHeartbeats 4000000 in
theorem lw_hand {d o : Nat} {q0 : Nat → Int64} {p : Int32} {w : mW} {x : Nat} {f g : Nat → Int32} {sl op lo : Int32} {hd rs : Nat → Int32} {np : Nat} {tp av lg pl tk : Int32} {l : List sv} {ea fa : Int32} {so : Option sv} {tx ln : List Nat} (H : CtAt w x ((f, g, sl, op, lo), hd, rs, np, tp, av, lg, pl, tk) l ea fa so tx ln) (ho : w[o]? = some (.inl (1, 1, .inr (.inl q0)))) (hox : o < x ∨ x + 88 < o) (hnp : np ≤ 4) : SpH (d + 3) yL_hand cL_hand 4 (some .int) hh_hand [.ref x, .int p, .ref o] w 1 6 (fun v w' => (isP p np = true ∧ v = some (.int 0) ∧ Lo w w' x o ((f, g, sl, op, lo), hd, rs, np, tp, av, lg, pl, tk) l ea fa so tx ln ((hd p.toNatClampNeg).toInt64)) ∨ (isP p np = false ∧ v = some (.int 1) ∧ Lx w w' x o ((f, g, sl, op, lo), hd, rs, np, tp, av, lg, pl, tk) l ea fa so tx ln)) := by
  refine SpH.of (by decide +kernel) (Nat.le_of_ble_eq_true rfl) (fun X hC hnl hE hR hT => ?_)
  have hC : Cx X RL cL_hand (d + 3) 1 6 := hC
  obtain ⟨ol, hs, yb, ys, hx, q, qn, cn, ps, cs, hob, -⟩ := id H
  show Wp X 0 0 w [(0, .ref x), (1, .int p), (2, .ref o)] [] 0
  refine r_aload_n hC dL_hand_0 rfl (j := 2) rfl ?_
  refine r_iconst hC dL_hand_1 (v := 0) (by decide) ?_
  refine r_aload_n hC dL_hand_2 rfl (j := 0) rfl ?_
  refine r_iload_n hC dL_hand_3 rfl (j := 1) rfl ?_
  
  refine r_callV hC (vs := [.int p]) vL_hand_4 (sh_hand (d := d) (p := p) H hnp) hob rfl rfl (by omega) (by omega) (by omega) (Nat.le_of_ble_eq_true rfl) (fun v_1 w_1 hP_1 hlen_1 => ?_) (fun E_1 w9_1 hX_1 hl9_1 => ?_)
  · obtain ⟨hc_1, hv_1, hw_1⟩ := hP_1
    rw [hv_1, hw_1]
    show Wp X (0 + 1) (0 + 6) w [(0, .ref x), (1, .int p), (2, .ref o)] [.int (hd p.toNatClampNeg), .int 0, .ref o] 7
    refine r_i2l hC dL_hand_7 rfl ?_
    refine r_last' hC dL_hand_8 (j := 0) ho ⟨by decide, by decide, by decide⟩ (fun w_2 ew_2 => ?_)
    have hf2_o : w_2[o]? = some (.inl (1, 1, .inr (.inl (vp_updL q0 0 (((hd p.toNatClampNeg)).toInt64))))) := by rw [ew_2]; exact List.getElem?_set_self (lt_of_get ho)
    refine r_goto hC dL_hand_9 (tgt := 15) (by decide) ?_
    refine r_iconst hC dL_hand_15 (v := 0) (by decide) ?_
    refine r_iret hC hE hR dL_hand_16 (by omega) (by omega) (by simp only [ew_2, List.length_set]) ?_
    exact Or.inl (⟨hc_1, rfl, Lo.mk (CtTo.rfl H) hox ho ew_2 rfl⟩)
  · obtain ⟨eE, hw, hcx⟩ := hX_1
    subst eE
    rw [hw]
    refine r_catch hC hT [] ⟨0, 9, 12, 21⟩ [] rfl (fun z hz => by cases hz) rfl (by decide) kcL_21 ca_IndexOutOfBoundsException dL_hand_12 rfl (by rw [hnl]; decide) ?_
    show Wp X (0 + 1) (0 + 6) w [] [] 13
    refine r_iconst hC dL_hand_13 (v := 1) (by decide) ?_
    refine r_iret hC hE hR dL_hand_14 (by omega) (by omega) rfl ?_
    exact Or.inr (⟨hcx, rfl, Lx.mk (CtTo.rfl H) hox ho⟩)
set_option maxRecDepth 100000 in
set_option maxHeartbeats 4000000 in
theorem lw_rest {d o : Nat} {q0 : Nat → Int64} {p : Int32} {w : mW} {x : Nat} {f g : Nat → Int32} {sl op lo : Int32} {hd rs : Nat → Int32} {np : Nat} {tp av lg pl tk : Int32} {l : List sv} {ea fa : Int32} {so : Option sv} {tx ln : List Nat} (H : CtAt w x ((f, g, sl, op, lo), hd, rs, np, tp, av, lg, pl, tk) l ea fa so tx ln) (ho : w[o]? = some (.inl (1, 1, .inr (.inl q0)))) (hox : o < x ∨ x + 88 < o) (hnp : np ≤ 4) : SpH (d + 3) yL_rest cL_rest 4 (some .int) hh_rest [.ref x, .int p, .ref o] w 1 6 (fun v w' => (isP p np = true ∧ v = some (.int 0) ∧ Lo w w' x o ((f, g, sl, op, lo), hd, rs, np, tp, av, lg, pl, tk) l ea fa so tx ln ((rs p.toNatClampNeg).toInt64)) ∨ (isP p np = false ∧ v = some (.int 1) ∧ Lx w w' x o ((f, g, sl, op, lo), hd, rs, np, tp, av, lg, pl, tk) l ea fa so tx ln)) := by
  refine SpH.of (by decide +kernel) (Nat.le_of_ble_eq_true rfl) (fun X hC hnl hE hR hT => ?_)
  have hC : Cx X RL cL_rest (d + 3) 1 6 := hC
  obtain ⟨ol, hs, yb, ys, hx, q, qn, cn, ps, cs, hob, -⟩ := id H
  show Wp X 0 0 w [(0, .ref x), (1, .int p), (2, .ref o)] [] 0
  refine r_aload_n hC dL_rest_0 rfl (j := 2) rfl ?_
  refine r_iconst hC dL_rest_1 (v := 0) (by decide) ?_
  refine r_aload_n hC dL_rest_2 rfl (j := 0) rfl ?_
  refine r_iload_n hC dL_rest_3 rfl (j := 1) rfl ?_
  
  refine r_callV hC (vs := [.int p]) vL_rest_4 (sh_rest (d := d) (p := p) H hnp) hob rfl rfl (by omega) (by omega) (by omega) (Nat.le_of_ble_eq_true rfl) (fun v_1 w_1 hP_1 hlen_1 => ?_) (fun E_1 w9_1 hX_1 hl9_1 => ?_)
  · obtain ⟨hc_1, hv_1, hw_1⟩ := hP_1
    rw [hv_1, hw_1]
    show Wp X (0 + 1) (0 + 6) w [(0, .ref x), (1, .int p), (2, .ref o)] [.int (rs p.toNatClampNeg), .int 0, .ref o] 7
    refine r_i2l hC dL_rest_7 rfl ?_
    refine r_last' hC dL_rest_8 (j := 0) ho ⟨by decide, by decide, by decide⟩ (fun w_2 ew_2 => ?_)
    have hf2_o : w_2[o]? = some (.inl (1, 1, .inr (.inl (vp_updL q0 0 (((rs p.toNatClampNeg)).toInt64))))) := by rw [ew_2]; exact List.getElem?_set_self (lt_of_get ho)
    refine r_goto hC dL_rest_9 (tgt := 15) (by decide) ?_
    refine r_iconst hC dL_rest_15 (v := 0) (by decide) ?_
    refine r_iret hC hE hR dL_rest_16 (by omega) (by omega) (by simp only [ew_2, List.length_set]) ?_
    exact Or.inl (⟨hc_1, rfl, Lo.mk (CtTo.rfl H) hox ho ew_2 rfl⟩)
  · obtain ⟨eE, hw, hcx⟩ := hX_1
    subst eE
    rw [hw]
    refine r_catch hC hT [] ⟨0, 9, 12, 21⟩ [] rfl (fun z hz => by cases hz) rfl (by decide) kcL_21 ca_IndexOutOfBoundsException dL_rest_12 rfl (by rw [hnl]; decide) ?_
    show Wp X (0 + 1) (0 + 6) w [] [] 13
    refine r_iconst hC dL_rest_13 (v := 1) (by decide) ?_
    refine r_iret hC hE hR dL_rest_14 (by omega) (by omega) rfl ?_
    exact Or.inr (⟨hcx, rfl, Lx.mk (CtTo.rfl H) hox ho⟩)
set_option maxRecDepth 100000 in
set_option maxHeartbeats 4000000 in
theorem lw_crowns {d o : Nat} {q0 : Nat → Int64} {p : Int32} {w : mW} {x : Nat} {f g : Nat → Int32} {sl op lo : Int32} {hd rs : Nat → Int32} {np : Nat} {tp av lg pl tk : Int32} {l : List sv} {ea fa : Int32} {so : Option sv} {tx ln : List Nat} (H : CtAt w x ((f, g, sl, op, lo), hd, rs, np, tp, av, lg, pl, tk) l ea fa so tx ln) (ho : w[o]? = some (.inl (1, 1, .inr (.inl q0)))) (hox : o < x ∨ x + 88 < o) (hnp : np ≤ 4) : SpH (d + 3) yL_crowns cL_crowns 4 (some .int) hh_crowns [.ref x, .int p, .ref o] w 1 6 (fun v w' => (isP p np = true ∧ v = some (.int 0) ∧ Lo w w' x o ((f, g, sl, op, lo), hd, rs, np, tp, av, lg, pl, tk) l ea fa so tx ln ((hCnt (hOwnP f g p) 25).toInt64)) ∨ (isP p np = false ∧ v = some (.int 1) ∧ Lx w w' x o ((f, g, sl, op, lo), hd, rs, np, tp, av, lg, pl, tk) l ea fa so tx ln)) := by
  refine SpH.of (by decide +kernel) (Nat.le_of_ble_eq_true rfl) (fun X hC hnl hE hR hT => ?_)
  have hC : Cx X RL cL_crowns (d + 3) 1 6 := hC
  obtain ⟨ol, hs, yb, ys, hx, q, qn, cn, ps, cs, hob, -⟩ := id H
  show Wp X 0 0 w [(0, .ref x), (1, .int p), (2, .ref o)] [] 0
  refine r_aload_n hC dL_crowns_0 rfl (j := 2) rfl ?_
  refine r_iconst hC dL_crowns_1 (v := 0) (by decide) ?_
  refine r_aload_n hC dL_crowns_2 rfl (j := 0) rfl ?_
  refine r_iload_n hC dL_crowns_3 rfl (j := 1) rfl ?_
  
  refine r_callV hC (vs := [.int p]) vL_crowns_4 (sh_crowns (d := d) (p := p) H hnp) hob rfl rfl (by omega) (by omega) (by omega) (Nat.le_of_ble_eq_true rfl) (fun v_1 w_1 hP_1 hlen_1 => ?_) (fun E_1 w9_1 hX_1 hl9_1 => ?_)
  · obtain ⟨hc_1, hv_1, hw_1⟩ := hP_1
    rw [hv_1, hw_1]
    show Wp X (0 + 1) (0 + 6) w [(0, .ref x), (1, .int p), (2, .ref o)] [.int (hCnt (hOwnP f g p) 25), .int 0, .ref o] 7
    refine r_i2l hC dL_crowns_7 rfl ?_
    refine r_last' hC dL_crowns_8 (j := 0) ho ⟨by decide, by decide, by decide⟩ (fun w_2 ew_2 => ?_)
    have hf2_o : w_2[o]? = some (.inl (1, 1, .inr (.inl (vp_updL q0 0 (((hCnt (hOwnP f g p) 25)).toInt64))))) := by rw [ew_2]; exact List.getElem?_set_self (lt_of_get ho)
    refine r_goto hC dL_crowns_9 (tgt := 15) (by decide) ?_
    refine r_iconst hC dL_crowns_15 (v := 0) (by decide) ?_
    refine r_iret hC hE hR dL_crowns_16 (by omega) (by omega) (by simp only [ew_2, List.length_set]) ?_
    exact Or.inl (⟨hc_1, rfl, Lo.mk (CtTo.rfl H) hox ho ew_2 rfl⟩)
  · obtain ⟨eE, hw, hcx⟩ := hX_1
    subst eE
    rw [hw]
    refine r_catch hC hT [] ⟨0, 9, 12, 21⟩ [] rfl (fun z hz => by cases hz) rfl (by decide) kcL_21 ca_IndexOutOfBoundsException dL_crowns_12 rfl (by rw [hnl]; decide) ?_
    show Wp X (0 + 1) (0 + 6) w [] [] 13
    refine r_iconst hC dL_crowns_13 (v := 1) (by decide) ?_
    refine r_iret hC hE hR dL_crowns_14 (by omega) (by omega) rfl ?_
    exact Or.inr (⟨hcx, rfl, Lx.mk (CtTo.rfl H) hox ho⟩)
set_option maxRecDepth 100000 in
set_option maxHeartbeats 4000000 in
theorem lw_score {d o : Nat} {q0 : Nat → Int64} {p : Int32} {w : mW} {x : Nat} {f g : Nat → Int32} {sl op lo : Int32} {hd rs : Nat → Int32} {np : Nat} {tp av lg pl tk : Int32} {l : List sv} {ea fa : Int32} {so : Option sv} {tx ln : List Nat} (H : CtAt w x ((f, g, sl, op, lo), hd, rs, np, tp, av, lg, pl, tk) l ea fa so tx ln) (ho : w[o]? = some (.inl (1, 1, .inr (.inl q0)))) (hox : o < x ∨ x + 88 < o) (hnp : np ≤ 4) : SpH (d + 3) yL_score cL_score 4 (some .int) hh_score [.ref x, .int p, .ref o] w 1 6 (fun v w' => (isP p np = true ∧ v = some (.int 0) ∧ Lo w w' x o ((f, g, sl, op, lo), hd, rs, np, tp, av, lg, pl, tk) l ea fa so tx ln ((hSumIf (hOwnP f g p) f 25).toInt64)) ∨ (isP p np = false ∧ v = some (.int 1) ∧ Lx w w' x o ((f, g, sl, op, lo), hd, rs, np, tp, av, lg, pl, tk) l ea fa so tx ln)) := by
  refine SpH.of (by decide +kernel) (Nat.le_of_ble_eq_true rfl) (fun X hC hnl hE hR hT => ?_)
  have hC : Cx X RL cL_score (d + 3) 1 6 := hC
  obtain ⟨ol, hs, yb, ys, hx, q, qn, cn, ps, cs, hob, -⟩ := id H
  show Wp X 0 0 w [(0, .ref x), (1, .int p), (2, .ref o)] [] 0
  refine r_aload_n hC dL_score_0 rfl (j := 2) rfl ?_
  refine r_iconst hC dL_score_1 (v := 0) (by decide) ?_
  refine r_aload_n hC dL_score_2 rfl (j := 0) rfl ?_
  refine r_iload_n hC dL_score_3 rfl (j := 1) rfl ?_
  
  refine r_callV hC (vs := [.int p]) vL_score_4 (sh_score (d := d) (p := p) H hnp) hob rfl rfl (by omega) (by omega) (by omega) (Nat.le_of_ble_eq_true rfl) (fun v_1 w_1 hP_1 hlen_1 => ?_) (fun E_1 w9_1 hX_1 hl9_1 => ?_)
  · obtain ⟨hc_1, hv_1, hw_1⟩ := hP_1
    rw [hv_1, hw_1]
    show Wp X (0 + 1) (0 + 6) w [(0, .ref x), (1, .int p), (2, .ref o)] [.int (hSumIf (hOwnP f g p) f 25), .int 0, .ref o] 7
    refine r_i2l hC dL_score_7 rfl ?_
    refine r_last' hC dL_score_8 (j := 0) ho ⟨by decide, by decide, by decide⟩ (fun w_2 ew_2 => ?_)
    have hf2_o : w_2[o]? = some (.inl (1, 1, .inr (.inl (vp_updL q0 0 (((hSumIf (hOwnP f g p) f 25)).toInt64))))) := by rw [ew_2]; exact List.getElem?_set_self (lt_of_get ho)
    refine r_goto hC dL_score_9 (tgt := 15) (by decide) ?_
    refine r_iconst hC dL_score_15 (v := 0) (by decide) ?_
    refine r_iret hC hE hR dL_score_16 (by omega) (by omega) (by simp only [ew_2, List.length_set]) ?_
    exact Or.inl (⟨hc_1, rfl, Lo.mk (CtTo.rfl H) hox ho ew_2 rfl⟩)
  · obtain ⟨eE, hw, hcx⟩ := hX_1
    subst eE
    rw [hw]
    refine r_catch hC hT [] ⟨0, 9, 12, 21⟩ [] rfl (fun z hz => by cases hz) rfl (by decide) kcL_21 ca_IndexOutOfBoundsException dL_score_12 rfl (by rw [hnl]; decide) ?_
    show Wp X (0 + 1) (0 + 6) w [] [] 13
    refine r_iconst hC dL_score_13 (v := 1) (by decide) ?_
    refine r_iret hC hE hR dL_score_14 (by omega) (by omega) rfl ?_
    exact Or.inr (⟨hcx, rfl, Lx.mk (CtTo.rfl H) hox ho⟩)
set_option maxRecDepth 100000 in
set_option maxHeartbeats 4000000 in
theorem lw_height {d o : Nat} {q0 : Nat → Int64} {c : Int32} {w : mW} {x : Nat} {f g : Nat → Int32} {sl op lo : Int32} {hd rs : Nat → Int32} {np : Nat} {tp av lg pl tk : Int32} {l : List sv} {ea fa : Int32} {so : Option sv} {tx ln : List Nat} (H : CtAt w x ((f, g, sl, op, lo), hd, rs, np, tp, av, lg, pl, tk) l ea fa so tx ln) (ho : w[o]? = some (.inl (1, 1, .inr (.inl q0)))) (hox : o < x ∨ x + 88 < o)  : SpH (d + 3) yL_height cL_height 4 (some .int) hh_height [.ref x, .int c, .ref o] w 1 6 (fun v w' => (isC c = true ∧ v = some (.int 0) ∧ Lo w w' x o ((f, g, sl, op, lo), hd, rs, np, tp, av, lg, pl, tk) l ea fa so tx ln ((f c.toNatClampNeg).toInt64)) ∨ (isC c = false ∧ v = some (.int 1) ∧ Lx w w' x o ((f, g, sl, op, lo), hd, rs, np, tp, av, lg, pl, tk) l ea fa so tx ln)) := by
  refine SpH.of (by decide +kernel) (Nat.le_of_ble_eq_true rfl) (fun X hC hnl hE hR hT => ?_)
  have hC : Cx X RL cL_height (d + 3) 1 6 := hC
  obtain ⟨ol, hs, yb, ys, hx, q, qn, cn, ps, cs, hob, -⟩ := id H
  show Wp X 0 0 w [(0, .ref x), (1, .int c), (2, .ref o)] [] 0
  refine r_aload_n hC dL_height_0 rfl (j := 2) rfl ?_
  refine r_iconst hC dL_height_1 (v := 0) (by decide) ?_
  refine r_aload_n hC dL_height_2 rfl (j := 0) rfl ?_
  refine r_iload_n hC dL_height_3 rfl (j := 1) rfl ?_
  
  refine r_callV hC (vs := [.int c]) vL_height_4 (sh_height (d := d) (c := c) H) hob rfl rfl (by omega) (by omega) (by omega) (Nat.le_of_ble_eq_true rfl) (fun v_1 w_1 hP_1 hlen_1 => ?_) (fun E_1 w9_1 hX_1 hl9_1 => ?_)
  · obtain ⟨hc_1, hv_1, hw_1⟩ := hP_1
    rw [hv_1, hw_1]
    show Wp X (0 + 1) (0 + 6) w [(0, .ref x), (1, .int c), (2, .ref o)] [.int (f c.toNatClampNeg), .int 0, .ref o] 7
    refine r_i2l hC dL_height_7 rfl ?_
    refine r_last' hC dL_height_8 (j := 0) ho ⟨by decide, by decide, by decide⟩ (fun w_2 ew_2 => ?_)
    have hf2_o : w_2[o]? = some (.inl (1, 1, .inr (.inl (vp_updL q0 0 (((f c.toNatClampNeg)).toInt64))))) := by rw [ew_2]; exact List.getElem?_set_self (lt_of_get ho)
    refine r_goto hC dL_height_9 (tgt := 15) (by decide) ?_
    refine r_iconst hC dL_height_15 (v := 0) (by decide) ?_
    refine r_iret hC hE hR dL_height_16 (by omega) (by omega) (by simp only [ew_2, List.length_set]) ?_
    exact Or.inl (⟨hc_1, rfl, Lo.mk (CtTo.rfl H) hox ho ew_2 rfl⟩)
  · obtain ⟨eE, hw, hcx⟩ := hX_1
    subst eE
    rw [hw]
    refine r_catch hC hT [] ⟨0, 9, 12, 21⟩ [] rfl (fun z hz => by cases hz) rfl (by decide) kcL_21 ca_IndexOutOfBoundsException dL_height_12 rfl (by rw [hnl]; decide) ?_
    show Wp X (0 + 1) (0 + 6) w [] [] 13
    refine r_iconst hC dL_height_13 (v := 1) (by decide) ?_
    refine r_iret hC hE hR dL_height_14 (by omega) (by omega) rfl ?_
    exact Or.inr (⟨hcx, rfl, Lx.mk (CtTo.rfl H) hox ho⟩)
set_option maxRecDepth 100000 in
set_option maxHeartbeats 4000000 in
theorem lw_steepness {d o : Nat} {q0 : Nat → Int64} {c : Int32} {w : mW} {x : Nat} {f g : Nat → Int32} {sl op lo : Int32} {hd rs : Nat → Int32} {np : Nat} {tp av lg pl tk : Int32} {l : List sv} {ea fa : Int32} {so : Option sv} {tx ln : List Nat} (H : CtAt w x ((f, g, sl, op, lo), hd, rs, np, tp, av, lg, pl, tk) l ea fa so tx ln) (ho : w[o]? = some (.inl (1, 1, .inr (.inl q0)))) (hox : o < x ∨ x + 88 < o)  : SpH (d + 3) yL_steepness cL_steepness 4 (some .int) hh_steepness [.ref x, .int c, .ref o] w 1 6 (fun v w' => (isC c = true ∧ v = some (.int 0) ∧ Lo w w' x o ((f, g, sl, op, lo), hd, rs, np, tp, av, lg, pl, tk) l ea fa so tx ln ((hSteep f op c.toNatClampNeg).toInt64)) ∨ (isC c = false ∧ v = some (.int 1) ∧ Lx w w' x o ((f, g, sl, op, lo), hd, rs, np, tp, av, lg, pl, tk) l ea fa so tx ln)) := by
  refine SpH.of (by decide +kernel) (Nat.le_of_ble_eq_true rfl) (fun X hC hnl hE hR hT => ?_)
  have hC : Cx X RL cL_steepness (d + 3) 1 6 := hC
  obtain ⟨ol, hs, yb, ys, hx, q, qn, cn, ps, cs, hob, -⟩ := id H
  show Wp X 0 0 w [(0, .ref x), (1, .int c), (2, .ref o)] [] 0
  refine r_aload_n hC dL_steepness_0 rfl (j := 2) rfl ?_
  refine r_iconst hC dL_steepness_1 (v := 0) (by decide) ?_
  refine r_aload_n hC dL_steepness_2 rfl (j := 0) rfl ?_
  refine r_iload_n hC dL_steepness_3 rfl (j := 1) rfl ?_
  
  refine r_callV hC (vs := [.int c]) vL_steepness_4 (sh_steepness (d := d) (c := c) H) hob rfl rfl (by omega) (by omega) (by omega) (Nat.le_of_ble_eq_true rfl) (fun v_1 w_1 hP_1 hlen_1 => ?_) (fun E_1 w9_1 hX_1 hl9_1 => ?_)
  · obtain ⟨hc_1, hv_1, hw_1⟩ := hP_1
    rw [hv_1, hw_1]
    show Wp X (0 + 1) (0 + 6) w [(0, .ref x), (1, .int c), (2, .ref o)] [.int (hSteep f op c.toNatClampNeg), .int 0, .ref o] 7
    refine r_i2l hC dL_steepness_7 rfl ?_
    refine r_last' hC dL_steepness_8 (j := 0) ho ⟨by decide, by decide, by decide⟩ (fun w_2 ew_2 => ?_)
    have hf2_o : w_2[o]? = some (.inl (1, 1, .inr (.inl (vp_updL q0 0 (((hSteep f op c.toNatClampNeg)).toInt64))))) := by rw [ew_2]; exact List.getElem?_set_self (lt_of_get ho)
    refine r_goto hC dL_steepness_9 (tgt := 15) (by decide) ?_
    refine r_iconst hC dL_steepness_15 (v := 0) (by decide) ?_
    refine r_iret hC hE hR dL_steepness_16 (by omega) (by omega) (by simp only [ew_2, List.length_set]) ?_
    exact Or.inl (⟨hc_1, rfl, Lo.mk (CtTo.rfl H) hox ho ew_2 rfl⟩)
  · obtain ⟨eE, hw, hcx⟩ := hX_1
    subst eE
    rw [hw]
    refine r_catch hC hT [] ⟨0, 9, 12, 21⟩ [] rfl (fun z hz => by cases hz) rfl (by decide) kcL_21 ca_IndexOutOfBoundsException dL_steepness_12 rfl (by rw [hnl]; decide) ?_
    show Wp X (0 + 1) (0 + 6) w [] [] 13
    refine r_iconst hC dL_steepness_13 (v := 1) (by decide) ?_
    refine r_iret hC hE hR dL_steepness_14 (by omega) (by omega) rfl ?_
    exact Or.inr (⟨hcx, rfl, Lx.mk (CtTo.rfl H) hox ho⟩)
set_option maxRecDepth 100000 in
set_option maxHeartbeats 4000000 in
theorem lw_lowestNeighbour {d o : Nat} {q0 : Nat → Int64} {c : Int32} {w : mW} {x : Nat} {f g : Nat → Int32} {sl op lo : Int32} {hd rs : Nat → Int32} {np : Nat} {tp av lg pl tk : Int32} {l : List sv} {ea fa : Int32} {so : Option sv} {tx ln : List Nat} (H : CtAt w x ((f, g, sl, op, lo), hd, rs, np, tp, av, lg, pl, tk) l ea fa so tx ln) (ho : w[o]? = some (.inl (1, 1, .inr (.inl q0)))) (hox : o < x ∨ x + 88 < o)  : SpH (d + 3) yL_lowestNeighbour cL_lowestNeighbour 4 (some .int) hh_lowestNeighbour [.ref x, .int c, .ref o] w 1 6 (fun v w' => (isC c = true ∧ v = some (.int 0) ∧ Lo w w' x o ((f, g, sl, op, lo), hd, rs, np, tp, av, lg, pl, tk) l ea fa so tx ln ((nI (hLow f op c.toNatClampNeg)).toInt64)) ∨ (isC c = false ∧ v = some (.int 1) ∧ Lx w w' x o ((f, g, sl, op, lo), hd, rs, np, tp, av, lg, pl, tk) l ea fa so tx ln)) := by
  refine SpH.of (by decide +kernel) (Nat.le_of_ble_eq_true rfl) (fun X hC hnl hE hR hT => ?_)
  have hC : Cx X RL cL_lowestNeighbour (d + 3) 1 6 := hC
  obtain ⟨ol, hs, yb, ys, hx, q, qn, cn, ps, cs, hob, -⟩ := id H
  show Wp X 0 0 w [(0, .ref x), (1, .int c), (2, .ref o)] [] 0
  refine r_aload_n hC dL_lowestNeighbour_0 rfl (j := 2) rfl ?_
  refine r_iconst hC dL_lowestNeighbour_1 (v := 0) (by decide) ?_
  refine r_aload_n hC dL_lowestNeighbour_2 rfl (j := 0) rfl ?_
  refine r_iload_n hC dL_lowestNeighbour_3 rfl (j := 1) rfl ?_
  
  refine r_callV hC (vs := [.int c]) vL_lowestNeighbour_4 (sh_lowestNeighbour (d := d) (c := c) H) hob rfl rfl (by omega) (by omega) (by omega) (Nat.le_of_ble_eq_true rfl) (fun v_1 w_1 hP_1 hlen_1 => ?_) (fun E_1 w9_1 hX_1 hl9_1 => ?_)
  · obtain ⟨hc_1, hv_1, hw_1⟩ := hP_1
    rw [hv_1, hw_1]
    show Wp X (0 + 1) (0 + 6) w [(0, .ref x), (1, .int c), (2, .ref o)] [.int (nI (hLow f op c.toNatClampNeg)), .int 0, .ref o] 7
    refine r_i2l hC dL_lowestNeighbour_7 rfl ?_
    refine r_last' hC dL_lowestNeighbour_8 (j := 0) ho ⟨by decide, by decide, by decide⟩ (fun w_2 ew_2 => ?_)
    have hf2_o : w_2[o]? = some (.inl (1, 1, .inr (.inl (vp_updL q0 0 (((nI (hLow f op c.toNatClampNeg))).toInt64))))) := by rw [ew_2]; exact List.getElem?_set_self (lt_of_get ho)
    refine r_goto hC dL_lowestNeighbour_9 (tgt := 15) (by decide) ?_
    refine r_iconst hC dL_lowestNeighbour_15 (v := 0) (by decide) ?_
    refine r_iret hC hE hR dL_lowestNeighbour_16 (by omega) (by omega) (by simp only [ew_2, List.length_set]) ?_
    exact Or.inl (⟨hc_1, rfl, Lo.mk (CtTo.rfl H) hox ho ew_2 rfl⟩)
  · obtain ⟨eE, hw, hcx⟩ := hX_1
    subst eE
    rw [hw]
    refine r_catch hC hT [] ⟨0, 9, 12, 21⟩ [] rfl (fun z hz => by cases hz) rfl (by decide) kcL_21 ca_IndexOutOfBoundsException dL_lowestNeighbour_12 rfl (by rw [hnl]; decide) ?_
    show Wp X (0 + 1) (0 + 6) w [] [] 13
    refine r_iconst hC dL_lowestNeighbour_13 (v := 1) (by decide) ?_
    refine r_iret hC hE hR dL_lowestNeighbour_14 (by omega) (by omega) rfl ?_
    exact Or.inr (⟨hcx, rfl, Lx.mk (CtTo.rfl H) hox ho⟩)
set_option maxRecDepth 100000 in
set_option maxHeartbeats 4000000 in
theorem lw_owner {d o : Nat} {q0 : Nat → Int64} {c : Int32} {w : mW} {x : Nat} {f g : Nat → Int32} {sl op lo : Int32} {hd rs : Nat → Int32} {np : Nat} {tp av lg pl tk : Int32} {l : List sv} {ea fa : Int32} {so : Option sv} {tx ln : List Nat} (H : CtAt w x ((f, g, sl, op, lo), hd, rs, np, tp, av, lg, pl, tk) l ea fa so tx ln) (ho : w[o]? = some (.inl (1, 1, .inr (.inl q0)))) (hox : o < x ∨ x + 88 < o)  : SpH (d + 3) yL_owner cL_owner 4 (some .int) hh_owner [.ref x, .int c, .ref o] w 2 12 (fun v w' => ((isC c = true ∧ ¬ g c.toNatClampNeg = -1) ∧ v = some (.int 0) ∧ Lo w w' x o ((f, g, sl, op, lo), hd, rs, np, tp, av, lg, pl, tk) l ea fa so tx ln ((g c.toNatClampNeg).toInt64)) ∨ (isC c = false ∧ v = some (.int 1) ∧ Lx w w' x o ((f, g, sl, op, lo), hd, rs, np, tp, av, lg, pl, tk) l ea fa so tx ln) ∨ ((isC c = true ∧ g c.toNatClampNeg = -1) ∧ v = some (.int 2) ∧ Lx w w' x o ((f, g, sl, op, lo), hd, rs, np, tp, av, lg, pl, tk) l ea fa so tx ln)) := by
  refine SpH.of (by decide +kernel) (Nat.le_of_ble_eq_true rfl) (fun X hC hnl hE hR hT => ?_)
  have hC : Cx X RL cL_owner (d + 3) 2 12 := hC
  obtain ⟨ol, hs, yb, ys, hx, q, qn, cn, ps, cs, hob, -⟩ := id H
  show Wp X 0 0 w [(0, .ref x), (1, .int c), (2, .ref o)] [] 0
  refine r_aload_n hC dL_owner_0 rfl (j := 2) rfl ?_
  refine r_iconst hC dL_owner_1 (v := 0) (by decide) ?_
  refine r_aload_n hC dL_owner_2 rfl (j := 0) rfl ?_
  refine r_iload_n hC dL_owner_3 rfl (j := 1) rfl ?_
  
  refine r_callV hC (vs := [.int c]) vL_owner_4 (sh_owner (d := d) (c := c) H) hob rfl rfl (by omega) (by omega) (by omega) (Nat.le_of_ble_eq_true rfl) (fun v_1 w_1 hP_1 hlen_1 => ?_) (fun E_1 w9_1 hX_1 hl9_1 => ?_)
  · obtain ⟨hc_1, hv_1, hw_1⟩ := hP_1
    rw [hv_1, hw_1]
    show Wp X (0 + 2) (0 + 12) w [(0, .ref x), (1, .int c), (2, .ref o)] [.int (g c.toNatClampNeg), .int 0, .ref o] 7
    refine r_i2l hC dL_owner_7 rfl ?_
    refine r_last' hC dL_owner_8 (j := 0) ho ⟨by decide, by decide, by decide⟩ (fun w_2 ew_2 => ?_)
    have hf2_o : w_2[o]? = some (.inl (1, 1, .inr (.inl (vp_updL q0 0 (((g c.toNatClampNeg)).toInt64))))) := by rw [ew_2]; exact List.getElem?_set_self (lt_of_get ho)
    refine r_goto hC dL_owner_9 (tgt := 18) (by decide) ?_
    refine r_iconst hC dL_owner_18 (v := 0) (by decide) ?_
    refine r_iret hC hE hR dL_owner_19 (by omega) (by omega) (by simp only [ew_2, List.length_set]) ?_
    exact Or.inl (⟨hc_1, rfl, Lo.mk (CtTo.rfl H) hox ho ew_2 rfl⟩)
  · rcases hX_1 with ⟨eE, hw, hcx⟩ | ⟨eE, hw, hcx⟩
    · subst eE
      rw [hw]
      refine r_catch hC hT [] ⟨0, 9, 12, 21⟩ [⟨0, 9, 15, 32⟩] rfl (fun z hz => by cases hz) rfl (by decide) kcL_21 ca_IndexOutOfBoundsException dL_owner_12 rfl (by rw [hnl]; decide) ?_
      show Wp X (0 + 2) (0 + 12) w [] [] 13
      refine r_iconst hC dL_owner_13 (v := 1) (by decide) ?_
      refine r_iret hC hE hR dL_owner_14 (by omega) (by omega) rfl ?_
      exact Or.inr (Or.inl (⟨hcx, rfl, Lx.mk (CtTo.rfl H) hox ho⟩))
    · subst eE
      rw [hw]
      refine r_catch hC hT [⟨0, 9, 12, 21⟩] ⟨0, 9, 15, 32⟩ [] rfl (fun z hz => by
          simp only [List.mem_cons, List.not_mem_nil, or_false] at hz
          rcases hz with rfl
          · exact Or.inr ⟨by decide, "java/lang/IndexOutOfBoundsException", kcL_21, by decide +kernel⟩) rfl (by decide) kcL_32 ca_NoSuchElementException dL_owner_15 rfl (by rw [hnl]; decide) ?_
      show Wp X (0 + 2) (0 + 12) w [] [] 16
      refine r_iconst hC dL_owner_16 (v := 2) (by decide) ?_
      refine r_iret hC hE hR dL_owner_17 (by omega) (by omega) rfl ?_
      exact Or.inr (Or.inr (⟨hcx, rfl, Lx.mk (CtTo.rfl H) hox ho⟩))
set_option maxRecDepth 100000 in
set_option maxHeartbeats 4000000 in
theorem lw_topplesIf {d o : Nat} {q0 : Nat → Int64} {c n : Int32} {w : mW} {x : Nat} {f g : Nat → Int32} {sl op lo : Int32} {hd rs : Nat → Int32} {np : Nat} {tp av lg pl tk : Int32} {l : List sv} {ea fa : Int32} {so : Option sv} {tx ln : List Nat} (H : CtAt w x ((f, g, sl, op, lo), hd, rs, np, tp, av, lg, pl, tk) l ea fa so tx ln) (ho : w[o]? = some (.inl (1, 1, .inr (.inl q0)))) (hox : o < x ∨ x + 88 < o) (hI : SInv ((f, g, sl, op, lo), hd, rs, np, tp, av, lg, pl, tk)) : SpH (d + 6) yL_topplesIf cL_topplesIf 5 (some .int) hh_topplesIf [.ref x, .int c, .int n, .ref o] w 2 12 (fun v w' => ((isC c = true ∧ isS n = true) ∧ v = some (.int 0) ∧ Lo w w' x o ((f, g, sl, op, lo), hd, rs, np, tp, av, lg, pl, tk) l ea fa so tx ln ((nI (hRestF (hPlace (f, g, sl, op, lo) c.toNatClampNeg n (-1))).1).toInt64)) ∨ (isC c = false ∧ v = some (.int 1) ∧ Lx w w' x o ((f, g, sl, op, lo), hd, rs, np, tp, av, lg, pl, tk) l ea fa so tx ln) ∨ ((isC c = true ∧ isS n = false) ∧ v = some (.int 2) ∧ Lx w w' x o ((f, g, sl, op, lo), hd, rs, np, tp, av, lg, pl, tk) l ea fa so tx ln)) := by
  refine SpH.of (by decide +kernel) (Nat.le_of_ble_eq_true rfl) (fun X hC hnl hE hR hT => ?_)
  have hC : Cx X RL cL_topplesIf (d + 6) 2 12 := hC
  obtain ⟨ol, hs, yb, ys, hx, q, qn, cn, ps, cs, hob, -⟩ := id H
  show Wp X 0 0 w [(0, .ref x), (1, .int c), (2, .int n), (3, .ref o)] [] 0
  refine r_aload_n hC dL_topplesIf_0 rfl (j := 3) rfl ?_
  refine r_iconst hC dL_topplesIf_1 (v := 0) (by decide) ?_
  refine r_aload_n hC dL_topplesIf_2 rfl (j := 0) rfl ?_
  refine r_iload_n hC dL_topplesIf_3 rfl (j := 1) rfl ?_
  refine r_iload_n hC dL_topplesIf_4 rfl (j := 2) rfl ?_
  
  refine r_callV hC (vs := [.int c, .int n]) vL_topplesIf_5 (sh_topplesIf (d := d) (c := c) (n := n) H hI) hob rfl rfl (by omega) (by omega) (by omega) (Nat.le_of_ble_eq_true rfl) (fun v_1 w_1 hP_1 hlen_1 => ?_) (fun E_1 w9_1 hX_1 hl9_1 => ?_)
  · obtain ⟨hc_1, hv_1, T_1⟩ := hP_1
    rw [hv_1]
    have ho_1 : w_1[o]? = some (.inl (1, 1, .inr (.inl q0))) := (T_1.2 o hox).trans ho
    show Wp X (0 + 2) (0 + 12) w_1 [(0, .ref x), (1, .int c), (2, .int n), (3, .ref o)] [.int (nI (hRestF (hPlace (f, g, sl, op, lo) c.toNatClampNeg n (-1))).1), .int 0, .ref o] 8
    refine r_i2l hC dL_topplesIf_8 rfl ?_
    refine r_last' hC dL_topplesIf_9 (j := 0) ho_1 ⟨by decide, by decide, by decide⟩ (fun w_2 ew_2 => ?_)
    have hf2_o : w_2[o]? = some (.inl (1, 1, .inr (.inl (vp_updL q0 0 (((nI (hRestF (hPlace (f, g, sl, op, lo) c.toNatClampNeg n (-1))).1)).toInt64))))) := by rw [ew_2]; exact List.getElem?_set_self (lt_of_get ho_1)
    refine r_goto hC dL_topplesIf_10 (tgt := 21) (by decide) ?_
    refine r_iconst hC dL_topplesIf_21 (v := 0) (by decide) ?_
    refine r_iret hC hE hR dL_topplesIf_22 (by omega) (by omega) (by simp only [ew_2, List.length_set]; exact hlen_1) ?_
    exact Or.inl (⟨hc_1, rfl, Lo.mk T_1 hox ho_1 ew_2 rfl⟩)
  · rcases hX_1 with ⟨eE, hw, hcx⟩ | ⟨eE, hw, hcx⟩
    · subst eE
      rw [hw]
      refine r_catchA hC hT [] ⟨0, 10, 13, 21⟩ [⟨0, 10, 17, 13⟩] rfl (fun z hz => by cases hz) rfl (by decide) kcL_21 ca_IndexOutOfBoundsException dL_topplesIf_13 (by rw [hnl]; decide) ?_
      show Wp X (0 + 2) (0 + 12) w [] [] 15
      refine r_iconst hC dL_topplesIf_15 (v := 1) (by decide) ?_
      refine r_iret hC hE hR dL_topplesIf_16 (by omega) (by omega) rfl ?_
      exact Or.inr (Or.inl (⟨hcx, rfl, Lx.mk (CtTo.rfl H) hox ho⟩))
    · subst eE
      rw [hw]
      refine r_catchA hC hT [⟨0, 10, 13, 21⟩] ⟨0, 10, 17, 13⟩ [] rfl (fun z hz => by
          simp only [List.mem_cons, List.not_mem_nil, or_false] at hz
          rcases hz with rfl
          · exact Or.inr ⟨by decide, "java/lang/IndexOutOfBoundsException", kcL_21, by decide +kernel⟩) rfl (by decide) kcL_13 ca_IllegalArgumentException dL_topplesIf_17 (by rw [hnl]; decide) ?_
      show Wp X (0 + 2) (0 + 12) w [] [] 19
      refine r_iconst hC dL_topplesIf_19 (v := 2) (by decide) ?_
      refine r_iret hC hE hR dL_topplesIf_20 (by omega) (by omega) rfl ?_
      exact Or.inr (Or.inr (⟨hcx, rfl, Lx.mk (CtTo.rfl H) hox ho⟩))
set_option maxRecDepth 100000 in
set_option maxHeartbeats 4000000 in
theorem lw_topplesIfByScan {d o : Nat} {q0 : Nat → Int64} {c n : Int32} {w : mW} {x : Nat} {f g : Nat → Int32} {sl op lo : Int32} {hd rs : Nat → Int32} {np : Nat} {tp av lg pl tk : Int32} {l : List sv} {ea fa : Int32} {so : Option sv} {tx ln : List Nat} (H : CtAt w x ((f, g, sl, op, lo), hd, rs, np, tp, av, lg, pl, tk) l ea fa so tx ln) (ho : w[o]? = some (.inl (1, 1, .inr (.inl q0)))) (hox : o < x ∨ x + 88 < o) (hI : SInv ((f, g, sl, op, lo), hd, rs, np, tp, av, lg, pl, tk)) : SpH (d + 6) yL_topplesIfByScan cL_topplesIfByScan 5 (some .int) hh_topplesIfByScan [.ref x, .int c, .int n, .ref o] w 2 12 (fun v w' => ((isC c = true ∧ isS n = true) ∧ v = some (.int 0) ∧ Lo w w' x o ((f, g, sl, op, lo), hd, rs, np, tp, av, lg, pl, tk) l ea fa so tx ln ((nI (hRestF (hPlace (f, g, sl, op, lo) c.toNatClampNeg n (-1))).1).toInt64)) ∨ (isC c = false ∧ v = some (.int 1) ∧ Lx w w' x o ((f, g, sl, op, lo), hd, rs, np, tp, av, lg, pl, tk) l ea fa so tx ln) ∨ ((isC c = true ∧ isS n = false) ∧ v = some (.int 2) ∧ Lx w w' x o ((f, g, sl, op, lo), hd, rs, np, tp, av, lg, pl, tk) l ea fa so tx ln)) := by
  refine SpH.of (by decide +kernel) (Nat.le_of_ble_eq_true rfl) (fun X hC hnl hE hR hT => ?_)
  have hC : Cx X RL cL_topplesIfByScan (d + 6) 2 12 := hC
  obtain ⟨ol, hs, yb, ys, hx, q, qn, cn, ps, cs, hob, -⟩ := id H
  show Wp X 0 0 w [(0, .ref x), (1, .int c), (2, .int n), (3, .ref o)] [] 0
  refine r_aload_n hC dL_topplesIfByScan_0 rfl (j := 3) rfl ?_
  refine r_iconst hC dL_topplesIfByScan_1 (v := 0) (by decide) ?_
  refine r_aload_n hC dL_topplesIfByScan_2 rfl (j := 0) rfl ?_
  refine r_iload_n hC dL_topplesIfByScan_3 rfl (j := 1) rfl ?_
  refine r_iload_n hC dL_topplesIfByScan_4 rfl (j := 2) rfl ?_
  
  refine r_callV hC (vs := [.int c, .int n]) vL_topplesIfByScan_5 (sh_topplesIfByScan (d := d) (c := c) (n := n) H hI) hob rfl rfl (by omega) (by omega) (by omega) (Nat.le_of_ble_eq_true rfl) (fun v_1 w_1 hP_1 hlen_1 => ?_) (fun E_1 w9_1 hX_1 hl9_1 => ?_)
  · obtain ⟨hc_1, hv_1, T_1⟩ := hP_1
    rw [hv_1]
    have ho_1 : w_1[o]? = some (.inl (1, 1, .inr (.inl q0))) := (T_1.2 o hox).trans ho
    show Wp X (0 + 2) (0 + 12) w_1 [(0, .ref x), (1, .int c), (2, .int n), (3, .ref o)] [.int (nI (hRestF (hPlace (f, g, sl, op, lo) c.toNatClampNeg n (-1))).1), .int 0, .ref o] 8
    refine r_i2l hC dL_topplesIfByScan_8 rfl ?_
    refine r_last' hC dL_topplesIfByScan_9 (j := 0) ho_1 ⟨by decide, by decide, by decide⟩ (fun w_2 ew_2 => ?_)
    have hf2_o : w_2[o]? = some (.inl (1, 1, .inr (.inl (vp_updL q0 0 (((nI (hRestF (hPlace (f, g, sl, op, lo) c.toNatClampNeg n (-1))).1)).toInt64))))) := by rw [ew_2]; exact List.getElem?_set_self (lt_of_get ho_1)
    refine r_goto hC dL_topplesIfByScan_10 (tgt := 21) (by decide) ?_
    refine r_iconst hC dL_topplesIfByScan_21 (v := 0) (by decide) ?_
    refine r_iret hC hE hR dL_topplesIfByScan_22 (by omega) (by omega) (by simp only [ew_2, List.length_set]; exact hlen_1) ?_
    exact Or.inl (⟨hc_1, rfl, Lo.mk T_1 hox ho_1 ew_2 rfl⟩)
  · rcases hX_1 with ⟨eE, hw, hcx⟩ | ⟨eE, hw, hcx⟩
    · subst eE
      rw [hw]
      refine r_catchA hC hT [] ⟨0, 10, 13, 21⟩ [⟨0, 10, 17, 13⟩] rfl (fun z hz => by cases hz) rfl (by decide) kcL_21 ca_IndexOutOfBoundsException dL_topplesIfByScan_13 (by rw [hnl]; decide) ?_
      show Wp X (0 + 2) (0 + 12) w [] [] 15
      refine r_iconst hC dL_topplesIfByScan_15 (v := 1) (by decide) ?_
      refine r_iret hC hE hR dL_topplesIfByScan_16 (by omega) (by omega) rfl ?_
      exact Or.inr (Or.inl (⟨hcx, rfl, Lx.mk (CtTo.rfl H) hox ho⟩))
    · subst eE
      rw [hw]
      refine r_catchA hC hT [⟨0, 10, 13, 21⟩] ⟨0, 10, 17, 13⟩ [] rfl (fun z hz => by
          simp only [List.mem_cons, List.not_mem_nil, or_false] at hz
          rcases hz with rfl
          · exact Or.inr ⟨by decide, "java/lang/IndexOutOfBoundsException", kcL_21, by decide +kernel⟩) rfl (by decide) kcL_13 ca_IllegalArgumentException dL_topplesIfByScan_17 (by rw [hnl]; decide) ?_
      show Wp X (0 + 2) (0 + 12) w [] [] 19
      refine r_iconst hC dL_topplesIfByScan_19 (v := 2) (by decide) ?_
      refine r_iret hC hE hR dL_topplesIfByScan_20 (by omega) (by omega) rfl ?_
      exact Or.inr (Or.inr (⟨hcx, rfl, Lx.mk (CtTo.rfl H) hox ho⟩))
set_option maxRecDepth 100000 in
set_option maxHeartbeats 4000000 in
theorem lw_isPeak {d o : Nat} {q0 : Nat → Int64} {c : Int32} {w : mW} {x : Nat} {f g : Nat → Int32} {sl op lo : Int32} {hd rs : Nat → Int32} {np : Nat} {tp av lg pl tk : Int32} {l : List sv} {ea fa : Int32} {so : Option sv} {tx ln : List Nat} (H : CtAt w x ((f, g, sl, op, lo), hd, rs, np, tp, av, lg, pl, tk) l ea fa so tx ln) (ho : w[o]? = some (.inl (1, 1, .inr (.inl q0)))) (hox : o < x ∨ x + 88 < o)  : SpH (d + 3) yL_isPeak cL_isPeak 4 (some .int) hh_isPeak [.ref x, .int c, .ref o] w 1 6 (fun v w' => (isC c = true ∧ v = some (.int 0) ∧ Lo w w' x o ((f, g, sl, op, lo), hd, rs, np, tp, av, lg, pl, tk) l ea fa so tx ln ((bI (hPeak f c.toNatClampNeg)).toInt64)) ∨ (isC c = false ∧ v = some (.int 1) ∧ Lx w w' x o ((f, g, sl, op, lo), hd, rs, np, tp, av, lg, pl, tk) l ea fa so tx ln)) := by
  refine SpH.of (by decide +kernel) (Nat.le_of_ble_eq_true rfl) (fun X hC hnl hE hR hT => ?_)
  have hC : Cx X RL cL_isPeak (d + 3) 1 6 := hC
  obtain ⟨ol, hs, yb, ys, hx, q, qn, cn, ps, cs, hob, -⟩ := id H
  show Wp X 0 0 w [(0, .ref x), (1, .int c), (2, .ref o)] [] 0
  refine r_aload_n hC dL_isPeak_0 rfl (j := 2) rfl ?_
  refine r_iconst hC dL_isPeak_1 (v := 0) (by decide) ?_
  refine r_aload_n hC dL_isPeak_2 rfl (j := 0) rfl ?_
  refine r_iload_n hC dL_isPeak_3 rfl (j := 1) rfl ?_
  
  refine r_callV hC (vs := [.int c]) vL_isPeak_4 (sh_isPeak (d := d) (c := c) H) hob rfl rfl (by omega) (by omega) (by omega) (Nat.le_of_ble_eq_true rfl) (fun v_1 w_1 hP_1 hlen_1 => ?_) (fun E_1 w9_1 hX_1 hl9_1 => ?_)
  · obtain ⟨hc_1, hv_1, hw_1⟩ := hP_1
    rw [hv_1, hw_1]
    show Wp X (0 + 1) (0 + 6) w [(0, .ref x), (1, .int c), (2, .ref o)] [.int (bI (hPeak f c.toNatClampNeg)), .int 0, .ref o] 7
    refine r_if_eq hC dL_isPeak_7 (tgt := 14) (by decide) (fun c7 => ?_) (fun c7 => ?_)
    · refine r_lconst hC dL_isPeak_14 (v := 0) (by decide) ?_
      refine r_last' hC dL_isPeak_15 (j := 0) ho ⟨by decide, by decide, by decide⟩ (fun w_2 ew_2 => ?_)
      have hf2_o : w_2[o]? = some (.inl (1, 1, .inr (.inl (vp_updL q0 0 0)))) := by rw [ew_2]; exact List.getElem?_set_self (lt_of_get ho)
      refine r_goto hC dL_isPeak_16 (tgt := 22) (by decide) ?_
      refine r_iconst hC dL_isPeak_22 (v := 0) (by decide) ?_
      refine r_iret hC hE hR dL_isPeak_23 (by omega) (by omega) (by simp only [ew_2, List.length_set]) ?_
      exact Or.inl (⟨hc_1, rfl, Lo.mk (CtTo.rfl H) hox ho ew_2 (by rw [c7]; rfl)⟩)
    · refine r_lconst hC dL_isPeak_10 (v := 1) (by decide) ?_
      refine r_goto hC dL_isPeak_11 (tgt := 15) (by decide) ?_
      refine r_last' hC dL_isPeak_15 (j := 0) ho ⟨by decide, by decide, by decide⟩ (fun w_3 ew_3 => ?_)
      have hf3_o : w_3[o]? = some (.inl (1, 1, .inr (.inl (vp_updL q0 0 1)))) := by rw [ew_3]; exact List.getElem?_set_self (lt_of_get ho)
      refine r_goto hC dL_isPeak_16 (tgt := 22) (by decide) ?_
      refine r_iconst hC dL_isPeak_22 (v := 0) (by decide) ?_
      refine r_iret hC hE hR dL_isPeak_23 (by omega) (by omega) (by simp only [ew_3, List.length_set]) ?_
      exact Or.inl (⟨hc_1, rfl, Lo.mk (CtTo.rfl H) hox ho ew_3 (by rw [bI_ne.mp c7]; rfl)⟩)
  · obtain ⟨eE, hw, hcx⟩ := hX_1
    subst eE
    rw [hw]
    refine r_catch hC hT [] ⟨0, 16, 19, 21⟩ [] rfl (fun z hz => by cases hz) rfl (by decide) kcL_21 ca_IndexOutOfBoundsException dL_isPeak_19 rfl (by rw [hnl]; decide) ?_
    show Wp X (0 + 1) (0 + 6) w [] [] 20
    refine r_iconst hC dL_isPeak_20 (v := 1) (by decide) ?_
    refine r_iret hC hE hR dL_isPeak_21 (by omega) (by omega) rfl ?_
    exact Or.inr (⟨hcx, rfl, Lx.mk (CtTo.rfl H) hox ho⟩)
set_option maxRecDepth 100000 in
set_option maxHeartbeats 4000000 in
theorem lw_peakAt {d o : Nat} {q0 : Nat → Int64} {r : Int32} {w : mW} {x : Nat} {f g : Nat → Int32} {sl op lo : Int32} {hd rs : Nat → Int32} {np : Nat} {tp av lg pl tk : Int32} {l : List sv} {ea fa : Int32} {so : Option sv} {tx ln : List Nat} (H : CtAt w x ((f, g, sl, op, lo), hd, rs, np, tp, av, lg, pl, tk) l ea fa so tx ln) (ho : w[o]? = some (.inl (1, 1, .inr (.inl q0)))) (hox : o < x ∨ x + 88 < o)  : SpH (d + 3) yL_peakAt cL_peakAt 4 (some .int) hh_peakAt [.ref x, .int r, .ref o] w 1 6 (fun v w' => (∃ k, k < 25 ∧ hRankP f r k = true ∧ (∀ j, j < k → hRankP f r j = false) ∧ v = some (.int 0) ∧ Lo w w' x o ((f, g, sl, op, lo), hd, rs, np, tp, av, lg, pl, tk) l ea fa so tx ln ((nI k).toInt64)) ∨ ((∀ j, j < 25 → hRankP f r j = false) ∧ v = some (.int 1) ∧ Lx w w' x o ((f, g, sl, op, lo), hd, rs, np, tp, av, lg, pl, tk) l ea fa so tx ln)) := by
  refine SpH.of (by decide +kernel) (Nat.le_of_ble_eq_true rfl) (fun X hC hnl hE hR hT => ?_)
  have hC : Cx X RL cL_peakAt (d + 3) 1 6 := hC
  obtain ⟨ol, hs, yb, ys, hx, q, qn, cn, ps, cs, hob, -⟩ := id H
  show Wp X 0 0 w [(0, .ref x), (1, .int r), (2, .ref o)] [] 0
  refine r_aload_n hC dL_peakAt_0 rfl (j := 2) rfl ?_
  refine r_iconst hC dL_peakAt_1 (v := 0) (by decide) ?_
  refine r_aload_n hC dL_peakAt_2 rfl (j := 0) rfl ?_
  refine r_iload_n hC dL_peakAt_3 rfl (j := 1) rfl ?_
  
  refine r_callV hC (vs := [.int r]) vL_peakAt_4 (sh_peakAt (d := d) (r := r) H) hob rfl rfl (by omega) (by omega) (by omega) (Nat.le_of_ble_eq_true rfl) (fun v_1 w_1 hP_1 hlen_1 => ?_) (fun E_1 w9_1 hX_1 hl9_1 => ?_)
  · obtain ⟨k, hk1, hk2, hk3, hv_1, hw_1⟩ := hP_1
    rw [hv_1, hw_1]
    show Wp X (0 + 1) (0 + 6) w [(0, .ref x), (1, .int r), (2, .ref o)] [.int (nI k), .int 0, .ref o] 7
    refine r_i2l hC dL_peakAt_7 rfl ?_
    refine r_last' hC dL_peakAt_8 (j := 0) ho ⟨by decide, by decide, by decide⟩ (fun w_2 ew_2 => ?_)
    have hf2_o : w_2[o]? = some (.inl (1, 1, .inr (.inl (vp_updL q0 0 (((nI k)).toInt64))))) := by rw [ew_2]; exact List.getElem?_set_self (lt_of_get ho)
    refine r_goto hC dL_peakAt_9 (tgt := 15) (by decide) ?_
    refine r_iconst hC dL_peakAt_15 (v := 0) (by decide) ?_
    refine r_iret hC hE hR dL_peakAt_16 (by omega) (by omega) (by simp only [ew_2, List.length_set]) ?_
    exact Or.inl (⟨k, hk1, hk2, hk3, rfl, Lo.mk (CtTo.rfl H) hox ho ew_2 rfl⟩)
  · obtain ⟨eE, hw, hcx⟩ := hX_1
    subst eE
    rw [hw]
    refine r_catch hC hT [] ⟨0, 9, 12, 32⟩ [] rfl (fun z hz => by cases hz) rfl (by decide) kcL_32 ca_NoSuchElementException dL_peakAt_12 rfl (by rw [hnl]; decide) ?_
    show Wp X (0 + 1) (0 + 6) w [] [] 13
    refine r_iconst hC dL_peakAt_13 (v := 1) (by decide) ?_
    refine r_iret hC hE hR dL_peakAt_14 (by omega) (by omega) rfl ?_
    exact Or.inr (⟨hcx, rfl, Lx.mk (CtTo.rfl H) hox ho⟩)
set_option maxRecDepth 100000 in
set_option maxHeartbeats 4000000 in
theorem lw_playerAtRank {d o : Nat} {q0 : Nat → Int64} {r : Int32} {w : mW} {x : Nat} {f g : Nat → Int32} {sl op lo : Int32} {hd rs : Nat → Int32} {np : Nat} {tp av lg pl tk : Int32} {l : List sv} {ea fa : Int32} {so : Option sv} {tx ln : List Nat} (H : CtAt w x ((f, g, sl, op, lo), hd, rs, np, tp, av, lg, pl, tk) l ea fa so tx ln) (ho : w[o]? = some (.inl (1, 1, .inr (.inl q0)))) (hox : o < x ∨ x + 88 < o) (hnp : np ≤ 4) : SpH (d + 5) yL_playerAtRank cL_playerAtRank 4 (some .int) hh_playerAtRank [.ref x, .int r, .ref o] w 1 6 (fun v w' => (∃ k, k < np ∧ plRankP f g hd np r k = true ∧ (∀ j, j < k → plRankP f g hd np r j = false) ∧ v = some (.int 0) ∧ Lo w w' x o ((f, g, sl, op, lo), hd, rs, np, tp, av, lg, pl, tk) l ea fa so tx ln ((nI k).toInt64)) ∨ ((∀ j, j < np → plRankP f g hd np r j = false) ∧ v = some (.int 1) ∧ Lx w w' x o ((f, g, sl, op, lo), hd, rs, np, tp, av, lg, pl, tk) l ea fa so tx ln)) := by
  refine SpH.of (by decide +kernel) (Nat.le_of_ble_eq_true rfl) (fun X hC hnl hE hR hT => ?_)
  have hC : Cx X RL cL_playerAtRank (d + 5) 1 6 := hC
  obtain ⟨ol, hs, yb, ys, hx, q, qn, cn, ps, cs, hob, -⟩ := id H
  show Wp X 0 0 w [(0, .ref x), (1, .int r), (2, .ref o)] [] 0
  refine r_aload_n hC dL_playerAtRank_0 rfl (j := 2) rfl ?_
  refine r_iconst hC dL_playerAtRank_1 (v := 0) (by decide) ?_
  refine r_aload_n hC dL_playerAtRank_2 rfl (j := 0) rfl ?_
  refine r_iload_n hC dL_playerAtRank_3 rfl (j := 1) rfl ?_
  
  refine r_callV hC (vs := [.int r]) vL_playerAtRank_4 (sh_playerAtRank (d := d) (r := r) H hnp) hob rfl rfl (by omega) (by omega) (by omega) (Nat.le_of_ble_eq_true rfl) (fun v_1 w_1 hP_1 hlen_1 => ?_) (fun E_1 w9_1 hX_1 hl9_1 => ?_)
  · obtain ⟨k, hk1, hk2, hk3, hv_1, hw_1⟩ := hP_1
    rw [hv_1, hw_1]
    show Wp X (0 + 1) (0 + 6) w [(0, .ref x), (1, .int r), (2, .ref o)] [.int (nI k), .int 0, .ref o] 7
    refine r_i2l hC dL_playerAtRank_7 rfl ?_
    refine r_last' hC dL_playerAtRank_8 (j := 0) ho ⟨by decide, by decide, by decide⟩ (fun w_2 ew_2 => ?_)
    have hf2_o : w_2[o]? = some (.inl (1, 1, .inr (.inl (vp_updL q0 0 (((nI k)).toInt64))))) := by rw [ew_2]; exact List.getElem?_set_self (lt_of_get ho)
    refine r_goto hC dL_playerAtRank_9 (tgt := 15) (by decide) ?_
    refine r_iconst hC dL_playerAtRank_15 (v := 0) (by decide) ?_
    refine r_iret hC hE hR dL_playerAtRank_16 (by omega) (by omega) (by simp only [ew_2, List.length_set]) ?_
    exact Or.inl (⟨k, hk1, hk2, hk3, rfl, Lo.mk (CtTo.rfl H) hox ho ew_2 rfl⟩)
  · obtain ⟨eE, hw, hcx⟩ := hX_1
    subst eE
    rw [hw]
    refine r_catch hC hT [] ⟨0, 9, 12, 32⟩ [] rfl (fun z hz => by cases hz) rfl (by decide) kcL_32 ca_NoSuchElementException dL_playerAtRank_12 rfl (by rw [hnl]; decide) ?_
    show Wp X (0 + 1) (0 + 6) w [] [] 13
    refine r_iconst hC dL_playerAtRank_13 (v := 1) (by decide) ?_
    refine r_iret hC hE hR dL_playerAtRank_14 (by omega) (by omega) rfl ?_
    exact Or.inr (⟨hcx, rfl, Lx.mk (CtTo.rfl H) hox ho⟩)
set_option maxRecDepth 100000 in
set_option maxHeartbeats 4000000 in
theorem lw_append {d o : Nat} {q0 : Nat → Int64} {c : Nat} {w : mW} {x : Nat} {f g : Nat → Int32} {sl op lo : Int32} {hd rs : Nat → Int32} {np : Nat} {tp av lg pl tk : Int32} {l : List sv} {ea fa : Int32} {so : Option sv} {tx ln : List Nat} (H : CtAt w x ((f, g, sl, op, lo), hd, rs, np, tp, av, lg, pl, tk) l ea fa so tx ln) (ho : w[o]? = some (.inl (1, 1, .inr (.inl q0)))) (hox : o < x ∨ x + 88 < o) (htl : tx.length ≤ 60) (hc : c < 65536) : SpH (d + 7) yL_append cL_append 4 (some .int) hh_append [.ref x, .int (nI c), .ref o] w 2 150 (fun v w' => ((isI (nI c) 32 126 = true ∧ tx.length < 60) ∧ v = some (.int 0) ∧ Lo w w' x o ((f, g, sl, op, lo), hd, rs, np, tp, av, lg, pl, tk) l ea fa so (tx ++ [c]) ln ((nI (tx.length + 1)).toInt64)) ∨ (isI (nI c) 32 126 = false ∧ v = some (.int 1) ∧ Lx w w' x o ((f, g, sl, op, lo), hd, rs, np, tp, av, lg, pl, tk) l ea fa so tx ln) ∨ ((isI (nI c) 32 126 = true ∧ tx.length = 60) ∧ v = some (.int 2) ∧ Lx w w' x o ((f, g, sl, op, lo), hd, rs, np, tp, av, lg, pl, tk) l ea fa so tx ln)) := by
  refine SpH.of (by decide +kernel) (Nat.le_of_ble_eq_true rfl) (fun X hC hnl hE hR hT => ?_)
  have hC : Cx X RL cL_append (d + 7) 2 150 := hC
  obtain ⟨ol, hs, yb, ys, hx, q, qn, cn, ps, cs, hob, -⟩ := id H
  show Wp X 0 0 w [(0, .ref x), (1, .int (nI c)), (2, .ref o)] [] 0
  refine r_aload_n hC dL_append_0 rfl (j := 2) rfl ?_
  refine r_iconst hC dL_append_1 (v := 0) (by decide) ?_
  refine r_aload_n hC dL_append_2 rfl (j := 0) rfl ?_
  refine r_iload_n hC dL_append_3 rfl (j := 1) rfl ?_
  
  refine r_callV hC (vs := [.int (nI c)]) vL_append_4 (sh_append (d := d) (c := c) H htl hc) hob rfl rfl (by omega) (by omega) (by omega) (Nat.le_of_ble_eq_true rfl) (fun v_1 w_1 hP_1 hlen_1 => ?_) (fun E_1 w9_1 hX_1 hl9_1 => ?_)
  · obtain ⟨hc_1, hv_1, T_1⟩ := hP_1
    rw [hv_1]
    have ho_1 : w_1[o]? = some (.inl (1, 1, .inr (.inl q0))) := (T_1.2 o hox).trans ho
    show Wp X (0 + 2) (0 + 150) w_1 [(0, .ref x), (1, .int (nI c)), (2, .ref o)] [.int (nI (tx.length + 1)), .int 0, .ref o] 7
    refine r_i2l hC dL_append_7 rfl ?_
    refine r_last' hC dL_append_8 (j := 0) ho_1 ⟨by decide, by decide, by decide⟩ (fun w_2 ew_2 => ?_)
    have hf2_o : w_2[o]? = some (.inl (1, 1, .inr (.inl (vp_updL q0 0 (((nI (tx.length + 1))).toInt64))))) := by rw [ew_2]; exact List.getElem?_set_self (lt_of_get ho_1)
    refine r_goto hC dL_append_9 (tgt := 18) (by decide) ?_
    refine r_iconst hC dL_append_18 (v := 0) (by decide) ?_
    refine r_iret hC hE hR dL_append_19 (by omega) (by omega) (by simp only [ew_2, List.length_set]; exact hlen_1) ?_
    exact Or.inl (⟨hc_1, rfl, Lo.mk T_1 hox ho_1 ew_2 rfl⟩)
  · rcases hX_1 with ⟨eE, hw, hcx⟩ | ⟨eE, hw, hcx⟩
    · subst eE
      rw [hw]
      refine r_catch hC hT [] ⟨0, 9, 12, 13⟩ [⟨0, 9, 15, 15⟩] rfl (fun z hz => by cases hz) rfl (by decide) kcL_13 ca_IllegalArgumentException dL_append_12 rfl (by rw [hnl]; decide) ?_
      show Wp X (0 + 2) (0 + 150) w [] [] 13
      refine r_iconst hC dL_append_13 (v := 1) (by decide) ?_
      refine r_iret hC hE hR dL_append_14 (by omega) (by omega) rfl ?_
      exact Or.inr (Or.inl (⟨hcx, rfl, Lx.mk (CtTo.rfl H) hox ho⟩))
    · subst eE
      rw [hw]
      refine r_catch hC hT [⟨0, 9, 12, 13⟩] ⟨0, 9, 15, 15⟩ [] rfl (fun z hz => by
          simp only [List.mem_cons, List.not_mem_nil, or_false] at hz
          rcases hz with rfl
          · exact Or.inr ⟨by decide, "java/lang/IllegalArgumentException", kcL_13, by decide +kernel⟩) rfl (by decide) kcL_15 ca_IllegalStateException dL_append_15 rfl (by rw [hnl]; decide) ?_
      show Wp X (0 + 2) (0 + 150) w [] [] 16
      refine r_iconst hC dL_append_16 (v := 2) (by decide) ?_
      refine r_iret hC hE hR dL_append_17 (by omega) (by omega) rfl ?_
      exact Or.inr (Or.inr (⟨hcx, rfl, Lx.mk (CtTo.rfl H) hox ho⟩))
set_option maxRecDepth 100000 in
set_option maxHeartbeats 4000000 in
theorem lw_run {d o : Nat} {q0 : Nat → Int64}  {w : mW} {x : Nat} {f g : Nat → Int32} {sl op lo : Int32} {hd rs : Nat → Int32} {np : Nat} {tp av lg pl tk : Int32} {l : List sv} {ea fa : Int32} {so : Option sv} {tx ln : List Nat} (H : CtAt w x ((f, g, sl, op, lo), hd, rs, np, tp, av, lg, pl, tk) l ea fa so tx ln) (ho : w[o]? = some (.inl (1, 1, .inr (.inl q0)))) (hox : o < x ∨ x + 88 < o) (hI : SInv ((f, g, sl, op, lo), hd, rs, np, tp, av, lg, pl, tk)) (htl : tx.length ≤ 60) : SpH (d + 10) yL_run cL_run 3 (some .int) hh_run [.ref x, .ref o] w 1 6 (fun v w' => (∃ cs0 l2 k3 y3, cAllR (tT tx) tx.length cs0 12 0 0 = (some l2, k3) ∧ exL l2 ((f, g, sl, op, lo), hd, rs, np, tp, av, lg, pl, tk) = (none, y3) ∧ v = some (.int 0) ∧ Lo w w' x o y3 (push8 l ((f, g, sl, op, lo), hd, rs, np, tp, av, lg, pl, tk)) ea fa so ([]) ln ((nI l2.length).toInt64)) ∨ (∃ cs0 k3, cAllR (tT tx) tx.length cs0 12 0 0 = (none, k3) ∧ v = some (.int 1) ∧ Lx w w' x o ((f, g, sl, op, lo), hd, rs, np, tp, av, lg, pl, tk) l (nI k3) fa so ([]) ln) ∨ (∃ cs0 l2 k3 j y3, cAllR (tT tx) tx.length cs0 12 0 0 = (some l2, k3) ∧ exL l2 ((f, g, sl, op, lo), hd, rs, np, tp, av, lg, pl, tk) = (some j, y3) ∧ v = some (.int 2) ∧ Lx w w' x o ((f, g, sl, op, lo), hd, rs, np, tp, av, lg, pl, tk) l ea (nI j) so ([]) ln)) := by
  refine SpH.of (by decide +kernel) (Nat.le_of_ble_eq_true rfl) (fun X hC hnl hE hR hT => ?_)
  have hC : Cx X RL cL_run (d + 10) 1 6 := hC
  obtain ⟨ol, hs, yb, ys, hx, q, qn, cn, ps, cs, hob, -⟩ := id H
  show Wp X 0 0 w [(0, .ref x), (1, .ref o)] [] 0
  refine r_aload_n hC dL_run_0 rfl (j := 1) rfl ?_
  refine r_iconst hC dL_run_1 (v := 0) (by decide) ?_
  refine r_aload_n hC dL_run_2 rfl (j := 0) rfl ?_
  
  refine r_callV hC (vs := []) vL_run_3 (sh_run (d := d) H hI htl) hob rfl rfl (by omega) (by omega) (by omega) (Nat.le_of_ble_eq_true rfl) (fun v_1 w_1 hP_1 hlen_1 => ?_) (fun E_1 w9_1 hX_1 hl9_1 => ?_)
  · obtain ⟨cs0, l2, k3, y3, hr1, hr2, hv_1, T_1⟩ := hP_1
    rw [hv_1]
    have ho_1 : w_1[o]? = some (.inl (1, 1, .inr (.inl q0))) := (T_1.2 o hox).trans ho
    show Wp X (0 + 1) (0 + 6) w_1 [(0, .ref x), (1, .ref o)] [.int (nI l2.length), .int 0, .ref o] 6
    refine r_i2l hC dL_run_6 rfl ?_
    refine r_last' hC dL_run_7 (j := 0) ho_1 ⟨by decide, by decide, by decide⟩ (fun w_2 ew_2 => ?_)
    have hf2_o : w_2[o]? = some (.inl (1, 1, .inr (.inl (vp_updL q0 0 (((nI l2.length)).toInt64))))) := by rw [ew_2]; exact List.getElem?_set_self (lt_of_get ho_1)
    refine r_goto hC dL_run_8 (tgt := 17) (by decide) ?_
    refine r_iconst hC dL_run_17 (v := 0) (by decide) ?_
    refine r_iret hC hE hR dL_run_18 (by omega) (by omega) (by simp only [ew_2, List.length_set]; exact hlen_1) ?_
    exact Or.inl (⟨cs0, l2, k3, y3, hr1, hr2, rfl, Lo.mk T_1 hox ho_1 ew_2 rfl⟩)
  · rcases hX_1 with ⟨eE, cs0, k3, hr1, T_1⟩ | ⟨eE, cs0, l2, k3, j, y3, hr1, hr2, T_1⟩
    · subst eE
      refine r_catch hC hT [] ⟨0, 8, 11, 13⟩ [⟨0, 8, 14, 15⟩] rfl (fun z hz => by cases hz) rfl (by decide) kcL_13 ca_IllegalArgumentException dL_run_11 rfl (by rw [hnl]; decide) ?_
      show Wp X (0 + 1) (0 + 6) w9_1 [] [] 12
      refine r_iconst hC dL_run_12 (v := 1) (by decide) ?_
      refine r_iret hC hE hR dL_run_13 (by omega) (by omega) hl9_1 ?_
      exact Or.inr (Or.inl (⟨cs0, k3, hr1, rfl, Lx.mk T_1 hox ho⟩))
    · subst eE
      refine r_catch hC hT [⟨0, 8, 11, 13⟩] ⟨0, 8, 14, 15⟩ [] rfl (fun z hz => by
          simp only [List.mem_cons, List.not_mem_nil, or_false] at hz
          rcases hz with rfl
          · exact Or.inr ⟨by decide, "java/lang/IllegalArgumentException", kcL_13, by decide +kernel⟩) rfl (by decide) kcL_15 ca_IllegalStateException dL_run_14 rfl (by rw [hnl]; decide) ?_
      show Wp X (0 + 1) (0 + 6) w9_1 [] [] 15
      refine r_iconst hC dL_run_15 (v := 2) (by decide) ?_
      refine r_iret hC hE hR dL_run_16 (by omega) (by omega) hl9_1 ?_
      exact Or.inr (Or.inr (⟨cs0, l2, k3, j, y3, hr1, hr2, rfl, Lx.mk T_1 hox ho⟩))
set_option maxRecDepth 100000 in
set_option maxHeartbeats 4000000 in
theorem lw_errorPosition {d o : Nat} {q0 : Nat → Int64}  {w : mW} {x : Nat} {f g : Nat → Int32} {sl op lo : Int32} {hd rs : Nat → Int32} {np : Nat} {tp av lg pl tk : Int32} {l : List sv} {ea fa : Int32} {so : Option sv} {tx ln : List Nat} (H : CtAt w x ((f, g, sl, op, lo), hd, rs, np, tp, av, lg, pl, tk) l ea fa so tx ln) (ho : w[o]? = some (.inl (1, 1, .inr (.inl q0)))) (hox : o < x ∨ x + 88 < o)  : SpH (d + 1) yL_errorPosition cL_errorPosition 3 (some .int) hh_errorPosition [.ref x, .ref o] w 1 6 (fun v w' => (¬ ea = -1 ∧ v = some (.int 0) ∧ Lo w w' x o ((f, g, sl, op, lo), hd, rs, np, tp, av, lg, pl, tk) l ea fa so tx ln ea.toInt64) ∨ (ea = -1 ∧ v = some (.int 1) ∧ Lx w w' x o ((f, g, sl, op, lo), hd, rs, np, tp, av, lg, pl, tk) l ea fa so tx ln)) := by
  refine SpH.of (by decide +kernel) (Nat.le_of_ble_eq_true rfl) (fun X hC hnl hE hR hT => ?_)
  have hC : Cx X RL cL_errorPosition (d + 1) 1 6 := hC
  obtain ⟨ol, hs, yb, ys, hx, q, qn, cn, ps, cs, hob, -⟩ := id H
  show Wp X 0 0 w [(0, .ref x), (1, .ref o)] [] 0
  refine r_aload_n hC dL_errorPosition_0 rfl (j := 1) rfl ?_
  refine r_iconst hC dL_errorPosition_1 (v := 0) (by decide) ?_
  refine r_aload_n hC dL_errorPosition_2 rfl (j := 0) rfl ?_
  
  refine r_callV hC (vs := []) vL_errorPosition_3 (sh_errorPosition (d := d) H) hob rfl rfl (by omega) (by omega) (by omega) (Nat.le_of_ble_eq_true rfl) (fun v_1 w_1 hP_1 hlen_1 => ?_) (fun E_1 w9_1 hX_1 hl9_1 => ?_)
  · obtain ⟨hc_1, hv_1, hw_1⟩ := hP_1
    rw [hv_1, hw_1]
    show Wp X (0 + 1) (0 + 6) w [(0, .ref x), (1, .ref o)] [.int ea, .int 0, .ref o] 6
    refine r_i2l hC dL_errorPosition_6 rfl ?_
    refine r_last' hC dL_errorPosition_7 (j := 0) ho ⟨by decide, by decide, by decide⟩ (fun w_2 ew_2 => ?_)
    have hf2_o : w_2[o]? = some (.inl (1, 1, .inr (.inl (vp_updL q0 0 ((ea).toInt64))))) := by rw [ew_2]; exact List.getElem?_set_self (lt_of_get ho)
    refine r_goto hC dL_errorPosition_8 (tgt := 14) (by decide) ?_
    refine r_iconst hC dL_errorPosition_14 (v := 0) (by decide) ?_
    refine r_iret hC hE hR dL_errorPosition_15 (by omega) (by omega) (by simp only [ew_2, List.length_set]) ?_
    exact Or.inl (⟨hc_1, rfl, Lo.mk (CtTo.rfl H) hox ho ew_2 rfl⟩)
  · obtain ⟨eE, hw, hcx⟩ := hX_1
    subst eE
    rw [hw]
    refine r_catch hC hT [] ⟨0, 8, 11, 32⟩ [] rfl (fun z hz => by cases hz) rfl (by decide) kcL_32 ca_NoSuchElementException dL_errorPosition_11 rfl (by rw [hnl]; decide) ?_
    show Wp X (0 + 1) (0 + 6) w [] [] 12
    refine r_iconst hC dL_errorPosition_12 (v := 1) (by decide) ?_
    refine r_iret hC hE hR dL_errorPosition_13 (by omega) (by omega) rfl ?_
    exact Or.inr (⟨hcx, rfl, Lx.mk (CtTo.rfl H) hox ho⟩)
set_option maxRecDepth 100000 in
set_option maxHeartbeats 4000000 in
theorem lw_failedCommand {d o : Nat} {q0 : Nat → Int64}  {w : mW} {x : Nat} {f g : Nat → Int32} {sl op lo : Int32} {hd rs : Nat → Int32} {np : Nat} {tp av lg pl tk : Int32} {l : List sv} {ea fa : Int32} {so : Option sv} {tx ln : List Nat} (H : CtAt w x ((f, g, sl, op, lo), hd, rs, np, tp, av, lg, pl, tk) l ea fa so tx ln) (ho : w[o]? = some (.inl (1, 1, .inr (.inl q0)))) (hox : o < x ∨ x + 88 < o)  : SpH (d + 1) yL_failedCommand cL_failedCommand 3 (some .int) hh_failedCommand [.ref x, .ref o] w 1 6 (fun v w' => (¬ fa = -1 ∧ v = some (.int 0) ∧ Lo w w' x o ((f, g, sl, op, lo), hd, rs, np, tp, av, lg, pl, tk) l ea fa so tx ln fa.toInt64) ∨ (fa = -1 ∧ v = some (.int 1) ∧ Lx w w' x o ((f, g, sl, op, lo), hd, rs, np, tp, av, lg, pl, tk) l ea fa so tx ln)) := by
  refine SpH.of (by decide +kernel) (Nat.le_of_ble_eq_true rfl) (fun X hC hnl hE hR hT => ?_)
  have hC : Cx X RL cL_failedCommand (d + 1) 1 6 := hC
  obtain ⟨ol, hs, yb, ys, hx, q, qn, cn, ps, cs, hob, -⟩ := id H
  show Wp X 0 0 w [(0, .ref x), (1, .ref o)] [] 0
  refine r_aload_n hC dL_failedCommand_0 rfl (j := 1) rfl ?_
  refine r_iconst hC dL_failedCommand_1 (v := 0) (by decide) ?_
  refine r_aload_n hC dL_failedCommand_2 rfl (j := 0) rfl ?_
  
  refine r_callV hC (vs := []) vL_failedCommand_3 (sh_failedCommand (d := d) H) hob rfl rfl (by omega) (by omega) (by omega) (Nat.le_of_ble_eq_true rfl) (fun v_1 w_1 hP_1 hlen_1 => ?_) (fun E_1 w9_1 hX_1 hl9_1 => ?_)
  · obtain ⟨hc_1, hv_1, hw_1⟩ := hP_1
    rw [hv_1, hw_1]
    show Wp X (0 + 1) (0 + 6) w [(0, .ref x), (1, .ref o)] [.int fa, .int 0, .ref o] 6
    refine r_i2l hC dL_failedCommand_6 rfl ?_
    refine r_last' hC dL_failedCommand_7 (j := 0) ho ⟨by decide, by decide, by decide⟩ (fun w_2 ew_2 => ?_)
    have hf2_o : w_2[o]? = some (.inl (1, 1, .inr (.inl (vp_updL q0 0 ((fa).toInt64))))) := by rw [ew_2]; exact List.getElem?_set_self (lt_of_get ho)
    refine r_goto hC dL_failedCommand_8 (tgt := 14) (by decide) ?_
    refine r_iconst hC dL_failedCommand_14 (v := 0) (by decide) ?_
    refine r_iret hC hE hR dL_failedCommand_15 (by omega) (by omega) (by simp only [ew_2, List.length_set]) ?_
    exact Or.inl (⟨hc_1, rfl, Lo.mk (CtTo.rfl H) hox ho ew_2 rfl⟩)
  · obtain ⟨eE, hw, hcx⟩ := hX_1
    subst eE
    rw [hw]
    refine r_catch hC hT [] ⟨0, 8, 11, 32⟩ [] rfl (fun z hz => by cases hz) rfl (by decide) kcL_32 ca_NoSuchElementException dL_failedCommand_11 rfl (by rw [hnl]; decide) ?_
    show Wp X (0 + 1) (0 + 6) w [] [] 12
    refine r_iconst hC dL_failedCommand_12 (v := 1) (by decide) ?_
    refine r_iret hC hE hR dL_failedCommand_13 (by omega) (by omega) rfl ?_
    exact Or.inr (⟨hcx, rfl, Lx.mk (CtTo.rfl H) hox ho⟩)
set_option maxRecDepth 100000 in
set_option maxHeartbeats 4000000 in
theorem lw_describeRow {d o : Nat} {q0 : Nat → Int64} {i0 : Int32} {w : mW} {x : Nat} {f g : Nat → Int32} {sl op lo : Int32} {hd rs : Nat → Int32} {np : Nat} {tp av lg pl tk : Int32} {l : List sv} {ea fa : Int32} {so : Option sv} {tx ln : List Nat} (H : CtAt w x ((f, g, sl, op, lo), hd, rs, np, tp, av, lg, pl, tk) l ea fa so tx ln) (ho : w[o]? = some (.inl (1, 1, .inr (.inl q0)))) (hox : o < x ∨ x + 88 < o) (hG : LnOK f g) : SpH (d + 8) yL_describeRow cL_describeRow 4 (some .int) hh_describeRow [.ref x, .int i0, .ref o] w 21 3024 (fun v w' => (isI i0 0 4 = true ∧ v = some (.int 0) ∧ Lo w w' x o ((f, g, sl, op, lo), hd, rs, np, tp, av, lg, pl, tk) l ea fa so tx (rowN f g i0.toNatClampNeg 5) ((nI (rowN f g i0.toNatClampNeg 5).length).toInt64)) ∨ (isI i0 0 4 = false ∧ v = some (.int 1) ∧ Lx w w' x o ((f, g, sl, op, lo), hd, rs, np, tp, av, lg, pl, tk) l ea fa so tx ln)) := by
  refine SpH.of (by decide +kernel) (Nat.le_of_ble_eq_true rfl) (fun X hC hnl hE hR hT => ?_)
  have hC : Cx X RL cL_describeRow (d + 8) 21 3024 := hC
  obtain ⟨ol, hs, yb, ys, hx, q, qn, cn, ps, cs, hob, -⟩ := id H
  show Wp X 0 0 w [(0, .ref x), (1, .int i0), (2, .ref o)] [] 0
  refine r_aload_n hC dL_describeRow_0 rfl (j := 2) rfl ?_
  refine r_iconst hC dL_describeRow_1 (v := 0) (by decide) ?_
  refine r_aload_n hC dL_describeRow_2 rfl (j := 0) rfl ?_
  refine r_iload_n hC dL_describeRow_3 rfl (j := 1) rfl ?_
  
  refine r_callV hC (vs := [.int i0]) vL_describeRow_4 (sh_describeRow (d := d) (i0 := i0) H hG) hob rfl rfl (by omega) (by omega) (by omega) (Nat.le_of_ble_eq_true rfl) (fun v_1 w_1 hP_1 hlen_1 => ?_) (fun E_1 w9_1 hX_1 hl9_1 => ?_)
  · obtain ⟨hc_1, hv_1, T_1⟩ := hP_1
    rw [hv_1]
    have ho_1 : w_1[o]? = some (.inl (1, 1, .inr (.inl q0))) := (T_1.2 o hox).trans ho
    show Wp X (0 + 21) (0 + 3024) w_1 [(0, .ref x), (1, .int i0), (2, .ref o)] [.int (nI (rowN f g i0.toNatClampNeg 5).length), .int 0, .ref o] 7
    refine r_i2l hC dL_describeRow_7 rfl ?_
    refine r_last' hC dL_describeRow_8 (j := 0) ho_1 ⟨by decide, by decide, by decide⟩ (fun w_2 ew_2 => ?_)
    have hf2_o : w_2[o]? = some (.inl (1, 1, .inr (.inl (vp_updL q0 0 (((nI (rowN f g i0.toNatClampNeg 5).length)).toInt64))))) := by rw [ew_2]; exact List.getElem?_set_self (lt_of_get ho_1)
    refine r_goto hC dL_describeRow_9 (tgt := 15) (by decide) ?_
    refine r_iconst hC dL_describeRow_15 (v := 0) (by decide) ?_
    refine r_iret hC hE hR dL_describeRow_16 (by omega) (by omega) (by simp only [ew_2, List.length_set]; exact hlen_1) ?_
    exact Or.inl (⟨hc_1, rfl, Lo.mk T_1 hox ho_1 ew_2 rfl⟩)
  · obtain ⟨eE, hw, hcx⟩ := hX_1
    subst eE
    rw [hw]
    refine r_catch hC hT [] ⟨0, 9, 12, 21⟩ [] rfl (fun z hz => by cases hz) rfl (by decide) kcL_21 ca_IndexOutOfBoundsException dL_describeRow_12 rfl (by rw [hnl]; decide) ?_
    show Wp X (0 + 21) (0 + 3024) w [] [] 13
    refine r_iconst hC dL_describeRow_13 (v := 1) (by decide) ?_
    refine r_iret hC hE hR dL_describeRow_14 (by omega) (by omega) rfl ?_
    exact Or.inr (⟨hcx, rfl, Lx.mk (CtTo.rfl H) hox ho⟩)
set_option maxRecDepth 100000 in
set_option maxHeartbeats 4000000 in
theorem lw_lineAt {d o : Nat} {q0 : Nat → Int64} {i : Int32} {w : mW} {x : Nat} {f g : Nat → Int32} {sl op lo : Int32} {hd rs : Nat → Int32} {np : Nat} {tp av lg pl tk : Int32} {l : List sv} {ea fa : Int32} {so : Option sv} {tx ln : List Nat} (H : CtAt w x ((f, g, sl, op, lo), hd, rs, np, tp, av, lg, pl, tk) l ea fa so tx ln) (ho : w[o]? = some (.inl (1, 1, .inr (.inl q0)))) (hox : o < x ∨ x + 88 < o) (hln : ln.length ≤ 40) (hch : ∀ j, j < ln.length → ln.getD j 0 < 128) : SpH (d + 5) yL_lineAt cL_lineAt 4 (some .int) hh_lineAt [.ref x, .int i, .ref o] w 1 6 (fun v w' => (isI i 0 (nI ln.length - 1) = true ∧ v = some (.int 0) ∧ Lo w w' x o ((f, g, sl, op, lo), hd, rs, np, tp, av, lg, pl, tk) l ea fa so tx ln ((nI (ln.getD i.toNatClampNeg 0)).toInt64)) ∨ (isI i 0 (nI ln.length - 1) = false ∧ v = some (.int 1) ∧ Lx w w' x o ((f, g, sl, op, lo), hd, rs, np, tp, av, lg, pl, tk) l ea fa so tx ln)) := by
  refine SpH.of (by decide +kernel) (Nat.le_of_ble_eq_true rfl) (fun X hC hnl hE hR hT => ?_)
  have hC : Cx X RL cL_lineAt (d + 5) 1 6 := hC
  obtain ⟨ol, hs, yb, ys, hx, q, qn, cn, ps, cs, hob, -⟩ := id H
  show Wp X 0 0 w [(0, .ref x), (1, .int i), (2, .ref o)] [] 0
  refine r_aload_n hC dL_lineAt_0 rfl (j := 2) rfl ?_
  refine r_iconst hC dL_lineAt_1 (v := 0) (by decide) ?_
  refine r_aload_n hC dL_lineAt_2 rfl (j := 0) rfl ?_
  refine r_iload_n hC dL_lineAt_3 rfl (j := 1) rfl ?_
  
  refine r_callV hC (vs := [.int i]) vL_lineAt_4 (sh_lineAt (d := d) (i := i) H hln hch) hob rfl rfl (by omega) (by omega) (by omega) (Nat.le_of_ble_eq_true rfl) (fun v_1 w_1 hP_1 hlen_1 => ?_) (fun E_1 w9_1 hX_1 hl9_1 => ?_)
  · obtain ⟨hc_1, hv_1, hw_1⟩ := hP_1
    rw [hv_1, hw_1]
    show Wp X (0 + 1) (0 + 6) w [(0, .ref x), (1, .int i), (2, .ref o)] [.int (nI (ln.getD i.toNatClampNeg 0)), .int 0, .ref o] 7
    refine r_i2l hC dL_lineAt_7 rfl ?_
    refine r_last' hC dL_lineAt_8 (j := 0) ho ⟨by decide, by decide, by decide⟩ (fun w_2 ew_2 => ?_)
    have hf2_o : w_2[o]? = some (.inl (1, 1, .inr (.inl (vp_updL q0 0 (((nI (ln.getD i.toNatClampNeg 0))).toInt64))))) := by rw [ew_2]; exact List.getElem?_set_self (lt_of_get ho)
    refine r_goto hC dL_lineAt_9 (tgt := 15) (by decide) ?_
    refine r_iconst hC dL_lineAt_15 (v := 0) (by decide) ?_
    refine r_iret hC hE hR dL_lineAt_16 (by omega) (by omega) (by simp only [ew_2, List.length_set]) ?_
    exact Or.inl (⟨hc_1, rfl, Lo.mk (CtTo.rfl H) hox ho ew_2 rfl⟩)
  · obtain ⟨eE, hw, hcx⟩ := hX_1
    subst eE
    rw [hw]
    refine r_catch hC hT [] ⟨0, 9, 12, 21⟩ [] rfl (fun z hz => by cases hz) rfl (by decide) kcL_21 ca_IndexOutOfBoundsException dL_lineAt_12 rfl (by rw [hnl]; decide) ?_
    show Wp X (0 + 1) (0 + 6) w [] [] 13
    refine r_iconst hC dL_lineAt_13 (v := 1) (by decide) ?_
    refine r_iret hC hE hR dL_lineAt_14 (by omega) (by omega) rfl ?_
    exact Or.inr (⟨hcx, rfl, Lx.mk (CtTo.rfl H) hox ho⟩)
set_option maxRecDepth 100000 in
set_option maxHeartbeats 4000000 in
theorem lw_undo0 {d o : Nat} {q0 : Nat → Int64}  {w : mW} {x : Nat} {f g : Nat → Int32} {sl op lo : Int32} {hd rs : Nat → Int32} {np : Nat} {tp av lg pl tk : Int32} {l : List sv} {ea fa : Int32} {so : Option sv} {tx ln : List Nat} (H : CtAt w x ((f, g, sl, op, lo), hd, rs, np, tp, av, lg, pl, tk) l ea fa so tx ln) (ho : w[o]? = some (.inl (1, 1, .inr (.inl q0)))) (hox : o < x ∨ x + 88 < o) (hl9 : l = []) : SpH (d + 3) yL_undo cL_undo 3 (some .int) hh_undo [.ref x, .ref o] w 1 6 (fun v w' => (v = some (.int 1) ∧ Lx w w' x o ((f, g, sl, op, lo), hd, rs, np, tp, av, lg, pl, tk) l ea fa so tx ln)) := by
  refine SpH.of (by decide +kernel) (Nat.le_of_ble_eq_true rfl) (fun X hC hnl hE hR hT => ?_)
  have hC : Cx X RL cL_undo (d + 3) 1 6 := hC
  obtain ⟨ol, hs, yb, ys, hx, q, qn, cn, ps, cs, hob, -⟩ := id H
  show Wp X 0 0 w [(0, .ref x), (1, .ref o)] [] 0
  refine r_aload_n hC dL_undo_0 rfl (j := 1) rfl ?_
  refine r_iconst hC dL_undo_1 (v := 0) (by decide) ?_
  refine r_aload_n hC dL_undo_2 rfl (j := 0) rfl ?_
  
  refine r_callV hC (vs := []) vL_undo_3 (sh_undo0 (d := d) H hl9) hob rfl rfl (by omega) (by omega) (by omega) (Nat.le_of_ble_eq_true rfl) (fun v_1 w_1 hP_1 hlen_1 => ?_) (fun E_1 w9_1 hX_1 hl9_1 => ?_)
  · exact hP_1.elim
  · obtain ⟨eE, hw⟩ := hX_1
    subst eE
    rw [hw]
    refine r_catch hC hT [] ⟨0, 8, 11, 15⟩ [] rfl (fun z hz => by cases hz) rfl (by decide) kcL_15 ca_IllegalStateException dL_undo_11 rfl (by rw [hnl]; decide) ?_
    show Wp X (0 + 1) (0 + 6) w [] [] 12
    refine r_iconst hC dL_undo_12 (v := 1) (by decide) ?_
    refine r_iret hC hE hR dL_undo_13 (by omega) (by omega) rfl ?_
    exact ⟨rfl, Lx.mk (CtTo.rfl H) hox ho⟩
set_option maxRecDepth 100000 in
set_option maxHeartbeats 4000000 in
theorem lw_restore0 {d o : Nat} {q0 : Nat → Int64}  {w : mW} {x : Nat} {f g : Nat → Int32} {sl op lo : Int32} {hd rs : Nat → Int32} {np : Nat} {tp av lg pl tk : Int32} {l : List sv} {ea fa : Int32} {so : Option sv} {tx ln : List Nat} (H : CtAt w x ((f, g, sl, op, lo), hd, rs, np, tp, av, lg, pl, tk) l ea fa so tx ln) (ho : w[o]? = some (.inl (1, 1, .inr (.inl q0)))) (hox : o < x ∨ x + 88 < o) (hs9 : so = none) : SpH (d + 3) yL_restore cL_restore 3 (some .int) hh_restore [.ref x, .ref o] w 1 6 (fun v w' => (v = some (.int 1) ∧ Lx w w' x o ((f, g, sl, op, lo), hd, rs, np, tp, av, lg, pl, tk) l ea fa so tx ln)) := by
  refine SpH.of (by decide +kernel) (Nat.le_of_ble_eq_true rfl) (fun X hC hnl hE hR hT => ?_)
  have hC : Cx X RL cL_restore (d + 3) 1 6 := hC
  obtain ⟨ol, hs, yb, ys, hx, q, qn, cn, ps, cs, hob, -⟩ := id H
  show Wp X 0 0 w [(0, .ref x), (1, .ref o)] [] 0
  refine r_aload_n hC dL_restore_0 rfl (j := 1) rfl ?_
  refine r_iconst hC dL_restore_1 (v := 0) (by decide) ?_
  refine r_aload_n hC dL_restore_2 rfl (j := 0) rfl ?_
  
  refine r_callV hC (vs := []) vL_restore_3 (sh_restore0 (d := d) H hs9) hob rfl rfl (by omega) (by omega) (by omega) (Nat.le_of_ble_eq_true rfl) (fun v_1 w_1 hP_1 hlen_1 => ?_) (fun E_1 w9_1 hX_1 hl9_1 => ?_)
  · exact hP_1.elim
  · obtain ⟨eE, hw⟩ := hX_1
    subst eE
    rw [hw]
    refine r_catch hC hT [] ⟨0, 8, 11, 15⟩ [] rfl (fun z hz => by cases hz) rfl (by decide) kcL_15 ca_IllegalStateException dL_restore_11 rfl (by rw [hnl]; decide) ?_
    show Wp X (0 + 1) (0 + 6) w [] [] 12
    refine r_iconst hC dL_restore_12 (v := 1) (by decide) ?_
    refine r_iret hC hE hR dL_restore_13 (by omega) (by omega) rfl ?_
    exact ⟨rfl, Lx.mk (CtTo.rfl H) hox ho⟩
set_option maxRecDepth 100000 in
set_option maxHeartbeats 4000000 in
theorem lw_undo1 {d o : Nat} {q0 : Nat → Int64} {l2 : List sv} {f2 g2 : Nat → Int32} {sl2 op2 lo2 : Int32} {hd2 rs2 : Nat → Int32} {np2 : Nat} {tp2 av2 lg2 pl2 tk2 : Int32} {w : mW} {x : Nat} {f g : Nat → Int32} {sl op lo : Int32} {hd rs : Nat → Int32} {np : Nat} {tp av lg pl tk : Int32} {l : List sv} {ea fa : Int32} {so : Option sv} {tx ln : List Nat} (H : CtAt w x ((f, g, sl, op, lo), hd, rs, np, tp, av, lg, pl, tk) l ea fa so tx ln) (ho : w[o]? = some (.inl (1, 1, .inr (.inl q0)))) (hox : o < x ∨ x + 88 < o) (hl9 : l = l2 ++ [((f2, g2, sl2, op2, lo2), hd2, rs2, np2, tp2, av2, lg2, pl2, tk2)]) (ho2 : op2 = 0 ∨ op2 = 1) : SpH (d + 3) yL_undo cL_undo 3 (some .int) hh_undo [.ref x, .ref o] w 0 0 (fun v w' => (v = some (.int 0) ∧ Lo w w' x o ((f2, g2, sl2, op2, lo2), hd2, rs2, np2, tp2, av2, lg2, pl2, tk2) l2 ea fa so tx ln ((nI l2.length).toInt64))) := by
  refine SpH.of (by decide +kernel) (Nat.le_of_ble_eq_true rfl) (fun X hC hnl hE hR hT => ?_)
  have hC : Cx X RL cL_undo (d + 3) 0 0 := hC
  obtain ⟨ol, hs, yb, ys, hx, q, qn, cn, ps, cs, hob, -⟩ := id H
  show Wp X 0 0 w [(0, .ref x), (1, .ref o)] [] 0
  refine r_aload_n hC dL_undo_0 rfl (j := 1) rfl ?_
  refine r_iconst hC dL_undo_1 (v := 0) (by decide) ?_
  refine r_aload_n hC dL_undo_2 rfl (j := 0) rfl ?_
  
  refine r_callV hC (vs := []) vL_undo_3 (sh_undo1 (d := d) H hl9 ho2) hob rfl rfl (by omega) (by omega) (by omega) (Nat.le_of_ble_eq_true rfl) (fun v_1 w_1 hP_1 hlen_1 => ?_) (fun E_1 w9_1 hX_1 hl9_1 => ?_)
  · obtain ⟨hv_1, T_1⟩ := hP_1
    rw [hv_1]
    have ho_1 : w_1[o]? = some (.inl (1, 1, .inr (.inl q0))) := (T_1.2 o hox).trans ho
    show Wp X (0 + 0) (0 + 0) w_1 [(0, .ref x), (1, .ref o)] [.int (nI l2.length), .int 0, .ref o] 6
    refine r_i2l hC dL_undo_6 rfl ?_
    refine r_last' hC dL_undo_7 (j := 0) ho_1 ⟨by decide, by decide, by decide⟩ (fun w_2 ew_2 => ?_)
    have hf2_o : w_2[o]? = some (.inl (1, 1, .inr (.inl (vp_updL q0 0 (((nI l2.length)).toInt64))))) := by rw [ew_2]; exact List.getElem?_set_self (lt_of_get ho_1)
    refine r_goto hC dL_undo_8 (tgt := 14) (by decide) ?_
    refine r_iconst hC dL_undo_14 (v := 0) (by decide) ?_
    refine r_iret hC hE hR dL_undo_15 (by omega) (by omega) (by simp only [ew_2, List.length_set]; exact hlen_1) ?_
    exact ⟨rfl, Lo.mk T_1 hox ho_1 ew_2 rfl⟩
  · exact hX_1.elim
set_option maxRecDepth 100000 in
set_option maxHeartbeats 4000000 in
theorem lw_restore1 {d o : Nat} {q0 : Nat → Int64} {f2 g2 : Nat → Int32} {sl2 op2 lo2 : Int32} {hd2 rs2 : Nat → Int32} {np2 : Nat} {tp2 av2 lg2 pl2 tk2 : Int32} {w : mW} {x : Nat} {f g : Nat → Int32} {sl op lo : Int32} {hd rs : Nat → Int32} {np : Nat} {tp av lg pl tk : Int32} {l : List sv} {ea fa : Int32} {so : Option sv} {tx ln : List Nat} (H : CtAt w x ((f, g, sl, op, lo), hd, rs, np, tp, av, lg, pl, tk) l ea fa so tx ln) (ho : w[o]? = some (.inl (1, 1, .inr (.inl q0)))) (hox : o < x ∨ x + 88 < o) (hs9 : so = some ((f2, g2, sl2, op2, lo2), hd2, rs2, np2, tp2, av2, lg2, pl2, tk2)) (ho2 : op2 = 0 ∨ op2 = 1) : SpH (d + 3) yL_restore cL_restore 3 (some .int) hh_restore [.ref x, .ref o] w 0 0 (fun v w' => (v = some (.int 0) ∧ Lo w w' x o ((f2, g2, sl2, op2, lo2), hd2, rs2, np2, tp2, av2, lg2, pl2, tk2) ([]) ea fa so tx ln ((hSum f2 25).toInt64))) := by
  refine SpH.of (by decide +kernel) (Nat.le_of_ble_eq_true rfl) (fun X hC hnl hE hR hT => ?_)
  have hC : Cx X RL cL_restore (d + 3) 0 0 := hC
  obtain ⟨ol, hs, yb, ys, hx, q, qn, cn, ps, cs, hob, -⟩ := id H
  show Wp X 0 0 w [(0, .ref x), (1, .ref o)] [] 0
  refine r_aload_n hC dL_restore_0 rfl (j := 1) rfl ?_
  refine r_iconst hC dL_restore_1 (v := 0) (by decide) ?_
  refine r_aload_n hC dL_restore_2 rfl (j := 0) rfl ?_
  
  refine r_callV hC (vs := []) vL_restore_3 (sh_restore1 (d := d) H hs9 ho2) hob rfl rfl (by omega) (by omega) (by omega) (Nat.le_of_ble_eq_true rfl) (fun v_1 w_1 hP_1 hlen_1 => ?_) (fun E_1 w9_1 hX_1 hl9_1 => ?_)
  · obtain ⟨hv_1, T_1⟩ := hP_1
    rw [hv_1]
    have ho_1 : w_1[o]? = some (.inl (1, 1, .inr (.inl q0))) := (T_1.2 o hox).trans ho
    show Wp X (0 + 0) (0 + 0) w_1 [(0, .ref x), (1, .ref o)] [.int (hSum f2 25), .int 0, .ref o] 6
    refine r_i2l hC dL_restore_6 rfl ?_
    refine r_last' hC dL_restore_7 (j := 0) ho_1 ⟨by decide, by decide, by decide⟩ (fun w_2 ew_2 => ?_)
    have hf2_o : w_2[o]? = some (.inl (1, 1, .inr (.inl (vp_updL q0 0 (((hSum f2 25)).toInt64))))) := by rw [ew_2]; exact List.getElem?_set_self (lt_of_get ho_1)
    refine r_goto hC dL_restore_8 (tgt := 14) (by decide) ?_
    refine r_iconst hC dL_restore_14 (v := 0) (by decide) ?_
    refine r_iret hC hE hR dL_restore_15 (by omega) (by omega) (by simp only [ew_2, List.length_set]; exact hlen_1) ?_
    exact ⟨rfl, Lo.mk T_1 hox ho_1 ew_2 rfl⟩
  · exact hX_1.elim
set_option maxRecDepth 100000 in
set_option maxHeartbeats 4000000 in
theorem lw_addPlayer {d o : Nat} {q0 : Nat → Int64} {n : Int32} {w : mW} {x : Nat} {f g : Nat → Int32} {sl op lo : Int32} {hd rs : Nat → Int32} {np : Nat} {tp av lg pl tk : Int32} {l : List sv} {ea fa : Int32} {so : Option sv} {tx ln : List Nat} (H : CtAt w x ((f, g, sl, op, lo), hd, rs, np, tp, av, lg, pl, tk) l ea fa so tx ln) (ho : w[o]? = some (.inl (1, 1, .inr (.inl q0)))) (hox : o < x ∨ x + 88 < o) (hI : SInv ((f, g, sl, op, lo), hd, rs, np, tp, av, lg, pl, tk)) : SpH (d + 5) yL_addPlayer cL_addPlayer 4 (some .int) hh_addPlayer [.ref x, .int n, .ref o] w 1 6 (fun v w' => (fltEntry np n = 1000010 ∧ v = some (.int 0) ∧ Lo w w' x o ((f, g, sl, op, lo), upd hd np n, upd rs np 0, np + 1, tp, av, lg, pl, tk) (push8 l ((f, g, sl, op, lo), hd, rs, np, tp, av, lg, pl, tk)) ea fa so tx ln ((nI np).toInt64)) ∨ (¬ fltEntry np n = 1000010 ∧ v = some (.int (nE (fltEntry np n))) ∧ Lx w w' x o ((f, g, sl, op, lo), hd, rs, np, tp, av, lg, pl, tk) l ea fa so tx ln)) := by
  refine SpH.of (by decide +kernel) (Nat.le_of_ble_eq_true rfl) (fun X hC hnl hE hR hT => ?_)
  have hC : Cx X RL cL_addPlayer (d + 5) 1 6 := hC
  obtain ⟨ol, hs, yb, ys, hx, q, qn, cn, ps, cs, hob, -⟩ := id H
  show Wp X 0 0 w [(0, .ref x), (1, .int n), (2, .ref o)] [] 0
  refine r_aload_n hC dL_addPlayer_0 rfl (j := 2) rfl ?_
  refine r_iconst hC dL_addPlayer_1 (v := 0) (by decide) ?_
  refine r_aload_n hC dL_addPlayer_2 rfl (j := 0) rfl ?_
  refine r_iload_n hC dL_addPlayer_3 rfl (j := 1) rfl ?_
  
  refine r_callV hC (vs := [.int n]) vL_addPlayer_4 (sh_addPlayer (d := d) (n := n) H hI) hob rfl rfl (by omega) (by omega) (by omega) (Nat.le_of_ble_eq_true rfl) (fun v_1 w_1 hP_1 hlen_1 => ?_) (fun E_1 w9_1 hX_1 hl9_1 => ?_)
  · obtain ⟨hc_1, hv_1, T_1⟩ := hP_1
    rw [hv_1]
    have ho_1 : w_1[o]? = some (.inl (1, 1, .inr (.inl q0))) := (T_1.2 o hox).trans ho
    show Wp X (0 + 1) (0 + 6) w_1 [(0, .ref x), (1, .int n), (2, .ref o)] [.int (nI np), .int 0, .ref o] 7
    refine r_i2l hC dL_addPlayer_7 rfl ?_
    refine r_last' hC dL_addPlayer_8 (j := 0) ho_1 ⟨by decide, by decide, by decide⟩ (fun w_2 ew_2 => ?_)
    have hf2_o : w_2[o]? = some (.inl (1, 1, .inr (.inl (vp_updL q0 0 (((nI np)).toInt64))))) := by rw [ew_2]; exact List.getElem?_set_self (lt_of_get ho_1)
    refine r_goto hC dL_addPlayer_9 (tgt := 18) (by decide) ?_
    refine r_iconst hC dL_addPlayer_18 (v := 0) (by decide) ?_
    refine r_iret hC hE hR dL_addPlayer_19 (by omega) (by omega) (by simp only [ew_2, List.length_set]; exact hlen_1) ?_
    exact Or.inl (⟨hc_1, rfl, Lo.mk T_1 hox ho_1 ew_2 rfl⟩)
  · obtain ⟨eE, hw, hcx⟩ := hX_1
    rcases fc_entry (np := np) (z := n) with hfc | hfc | hfc
    · exact absurd hfc hcx
    · rw [hfc] at eE
      replace eE : E_1 = "java/lang/IllegalArgumentException" := eE
      subst eE
      rw [hw]
      refine r_catch hC hT [] ⟨0, 9, 12, 13⟩ [⟨0, 9, 15, 15⟩] rfl (fun z hz => by cases hz) rfl (by decide) kcL_13 ca_IllegalArgumentException dL_addPlayer_12 rfl (by rw [hnl]; decide) ?_
      show Wp X (0 + 1) (0 + 6) w [] [] 13
      refine r_iconst hC dL_addPlayer_13 (v := 1) (by decide) ?_
      refine r_iret hC hE hR dL_addPlayer_14 (by omega) (by omega) rfl ?_
      exact Or.inr (⟨hcx, by rw [hfc]; rfl, Lx.mk (CtTo.rfl H) hox ho⟩)
    · rw [hfc] at eE
      replace eE : E_1 = "java/lang/IllegalStateException" := eE
      subst eE
      rw [hw]
      refine r_catch hC hT [⟨0, 9, 12, 13⟩] ⟨0, 9, 15, 15⟩ [] rfl (fun z hz => by
        simp only [List.mem_cons, List.not_mem_nil, or_false] at hz
        rcases hz with rfl
        · exact Or.inr ⟨by decide, "java/lang/IllegalArgumentException", kcL_13, by decide +kernel⟩) rfl (by decide) kcL_15 ca_IllegalStateException dL_addPlayer_15 rfl (by rw [hnl]; decide) ?_
      show Wp X (0 + 1) (0 + 6) w [] [] 16
      refine r_iconst hC dL_addPlayer_16 (v := 2) (by decide) ?_
      refine r_iret hC hE hR dL_addPlayer_17 (by omega) (by omega) rfl ?_
      exact Or.inr (⟨hcx, by rw [hfc]; rfl, Lx.mk (CtTo.rfl H) hox ho⟩)
set_option maxRecDepth 100000 in
set_option maxHeartbeats 4000000 in
theorem lw_setSlope {d o : Nat} {q0 : Nat → Int64} {n : Int32} {w : mW} {x : Nat} {f g : Nat → Int32} {sl op lo : Int32} {hd rs : Nat → Int32} {np : Nat} {tp av lg pl tk : Int32} {l : List sv} {ea fa : Int32} {so : Option sv} {tx ln : List Nat} (H : CtAt w x ((f, g, sl, op, lo), hd, rs, np, tp, av, lg, pl, tk) l ea fa so tx ln) (ho : w[o]? = some (.inl (1, 1, .inr (.inl q0)))) (hox : o < x ∨ x + 88 < o) (hI : SInv ((f, g, sl, op, lo), hd, rs, np, tp, av, lg, pl, tk)) : SpH (d + 6) yL_setSlope cL_setSlope 4 (some .int) hh_setSlope [.ref x, .int n, .ref o] w 1 6 (fun v w' => (fltSlope n = 1000010 ∧ v = some (.int 0) ∧ Lo w w' x o (sSlope ((f, g, sl, op, lo), hd, rs, np, tp, av, lg, pl, tk) n) (push8 l ((f, g, sl, op, lo), hd, rs, np, tp, av, lg, pl, tk)) ea fa so tx ln ((nI (hRestF (f, g, n, op, lo)).1).toInt64)) ∨ (¬ fltSlope n = 1000010 ∧ v = some (.int (nE (fltSlope n))) ∧ Lx w w' x o ((f, g, sl, op, lo), hd, rs, np, tp, av, lg, pl, tk) l ea fa so tx ln)) := by
  refine SpH.of (by decide +kernel) (Nat.le_of_ble_eq_true rfl) (fun X hC hnl hE hR hT => ?_)
  have hC : Cx X RL cL_setSlope (d + 6) 1 6 := hC
  obtain ⟨ol, hs, yb, ys, hx, q, qn, cn, ps, cs, hob, -⟩ := id H
  show Wp X 0 0 w [(0, .ref x), (1, .int n), (2, .ref o)] [] 0
  refine r_aload_n hC dL_setSlope_0 rfl (j := 2) rfl ?_
  refine r_iconst hC dL_setSlope_1 (v := 0) (by decide) ?_
  refine r_aload_n hC dL_setSlope_2 rfl (j := 0) rfl ?_
  refine r_iload_n hC dL_setSlope_3 rfl (j := 1) rfl ?_
  
  refine r_callV hC (vs := [.int n]) vL_setSlope_4 (sh_setSlope (d := d) (n := n) H hI) hob rfl rfl (by omega) (by omega) (by omega) (Nat.le_of_ble_eq_true rfl) (fun v_1 w_1 hP_1 hlen_1 => ?_) (fun E_1 w9_1 hX_1 hl9_1 => ?_)
  · obtain ⟨hc_1, hv_1, T_1⟩ := hP_1
    rw [hv_1]
    have ho_1 : w_1[o]? = some (.inl (1, 1, .inr (.inl q0))) := (T_1.2 o hox).trans ho
    show Wp X (0 + 1) (0 + 6) w_1 [(0, .ref x), (1, .int n), (2, .ref o)] [.int (nI (hRestF (f, g, n, op, lo)).1), .int 0, .ref o] 7
    refine r_i2l hC dL_setSlope_7 rfl ?_
    refine r_last' hC dL_setSlope_8 (j := 0) ho_1 ⟨by decide, by decide, by decide⟩ (fun w_2 ew_2 => ?_)
    have hf2_o : w_2[o]? = some (.inl (1, 1, .inr (.inl (vp_updL q0 0 (((nI (hRestF (f, g, n, op, lo)).1)).toInt64))))) := by rw [ew_2]; exact List.getElem?_set_self (lt_of_get ho_1)
    refine r_goto hC dL_setSlope_9 (tgt := 15) (by decide) ?_
    refine r_iconst hC dL_setSlope_15 (v := 0) (by decide) ?_
    refine r_iret hC hE hR dL_setSlope_16 (by omega) (by omega) (by simp only [ew_2, List.length_set]; exact hlen_1) ?_
    exact Or.inl (⟨hc_1, rfl, Lo.mk T_1 hox ho_1 ew_2 rfl⟩)
  · obtain ⟨eE, hw, hcx⟩ := hX_1
    rcases fc_slope (z := n) with hfc | hfc
    · exact absurd hfc hcx
    · rw [hfc] at eE
      replace eE : E_1 = "java/lang/IllegalArgumentException" := eE
      subst eE
      rw [hw]
      refine r_catch hC hT [] ⟨0, 9, 12, 13⟩ [] rfl (fun z hz => by cases hz) rfl (by decide) kcL_13 ca_IllegalArgumentException dL_setSlope_12 rfl (by rw [hnl]; decide) ?_
      show Wp X (0 + 1) (0 + 6) w [] [] 13
      refine r_iconst hC dL_setSlope_13 (v := 1) (by decide) ?_
      refine r_iret hC hE hR dL_setSlope_14 (by omega) (by omega) rfl ?_
      exact Or.inr (⟨hcx, by rw [hfc]; rfl, Lx.mk (CtTo.rfl H) hox ho⟩)
set_option maxRecDepth 100000 in
set_option maxHeartbeats 4000000 in
theorem lw_drop {d o : Nat} {q0 : Nat → Int64} {p c n : Int32} {w : mW} {x : Nat} {f g : Nat → Int32} {sl op lo : Int32} {hd rs : Nat → Int32} {np : Nat} {tp av lg pl tk : Int32} {l : List sv} {ea fa : Int32} {so : Option sv} {tx ln : List Nat} (H : CtAt w x ((f, g, sl, op, lo), hd, rs, np, tp, av, lg, pl, tk) l ea fa so tx ln) (ho : w[o]? = some (.inl (1, 1, .inr (.inl q0)))) (hox : o < x ∨ x + 88 < o) (hI : SInv ((f, g, sl, op, lo), hd, rs, np, tp, av, lg, pl, tk)) : SpH (d + 6) yL_drop cL_drop 6 (some .int) hh_drop [.ref x, .int p, .int c, .int n, .ref o] w 1 6 (fun v w' => (fltDrop f hd rs np p c n = 1000010 ∧ v = some (.int 0) ∧ Lo w w' x o (sDrop ((f, g, sl, op, lo), hd, rs, np, tp, av, lg, pl, tk) p.toNatClampNeg c.toNatClampNeg n) (push8 l ((f, g, sl, op, lo), hd, rs, np, tp, av, lg, pl, tk)) ea fa so tx ln ((sDropN ((f, g, sl, op, lo), hd, rs, np, tp, av, lg, pl, tk) c.toNatClampNeg n (nI p.toNatClampNeg)).toInt64)) ∨ (¬ fltDrop f hd rs np p c n = 1000010 ∧ v = some (.int (nD (fltDrop f hd rs np p c n))) ∧ Lx w w' x o ((f, g, sl, op, lo), hd, rs, np, tp, av, lg, pl, tk) l ea fa so tx ln)) := by
  refine SpH.of (by decide +kernel) (Nat.le_of_ble_eq_true rfl) (fun X hC hnl hE hR hT => ?_)
  have hC : Cx X RL cL_drop (d + 6) 1 6 := hC
  obtain ⟨ol, hs, yb, ys, hx, q, qn, cn, ps, cs, hob, -⟩ := id H
  show Wp X 0 0 w [(0, .ref x), (1, .int p), (2, .int c), (3, .int n), (4, .ref o)] [] 0
  refine r_aload hC dL_drop_0 (j := 4) rfl ?_
  refine r_iconst hC dL_drop_2 (v := 0) (by decide) ?_
  refine r_aload_n hC dL_drop_3 rfl (j := 0) rfl ?_
  refine r_iload_n hC dL_drop_4 rfl (j := 1) rfl ?_
  refine r_iload_n hC dL_drop_5 rfl (j := 2) rfl ?_
  refine r_iload_n hC dL_drop_6 rfl (j := 3) rfl ?_
  
  refine r_callV hC (vs := [.int p, .int c, .int n]) vL_drop_7 (sh_drop (d := d) (p := p) (c := c) (n := n) H hI) hob rfl rfl (by omega) (by omega) (by omega) (Nat.le_of_ble_eq_true rfl) (fun v_1 w_1 hP_1 hlen_1 => ?_) (fun E_1 w9_1 hX_1 hl9_1 => ?_)
  · obtain ⟨hc_1, hv_1, T_1⟩ := hP_1
    rw [hv_1]
    have ho_1 : w_1[o]? = some (.inl (1, 1, .inr (.inl q0))) := (T_1.2 o hox).trans ho
    show Wp X (0 + 1) (0 + 6) w_1 [(0, .ref x), (1, .int p), (2, .int c), (3, .int n), (4, .ref o)] [.int (sDropN ((f, g, sl, op, lo), hd, rs, np, tp, av, lg, pl, tk) c.toNatClampNeg n (nI p.toNatClampNeg)), .int 0, .ref o] 10
    refine r_i2l hC dL_drop_10 rfl ?_
    refine r_last' hC dL_drop_11 (j := 0) ho_1 ⟨by decide, by decide, by decide⟩ (fun w_2 ew_2 => ?_)
    have hf2_o : w_2[o]? = some (.inl (1, 1, .inr (.inl (vp_updL q0 0 (((sDropN ((f, g, sl, op, lo), hd, rs, np, tp, av, lg, pl, tk) c.toNatClampNeg n (nI p.toNatClampNeg))).toInt64))))) := by rw [ew_2]; exact List.getElem?_set_self (lt_of_get ho_1)
    refine r_goto hC dL_drop_12 (tgt := 31) (by decide) ?_
    refine r_iconst hC dL_drop_31 (v := 0) (by decide) ?_
    refine r_iret hC hE hR dL_drop_32 (by omega) (by omega) (by simp only [ew_2, List.length_set]; exact hlen_1) ?_
    exact Or.inl (⟨hc_1, rfl, Lo.mk T_1 hox ho_1 ew_2 rfl⟩)
  · obtain ⟨eE, hw, hcx⟩ := hX_1
    rcases fc_drop (f := f) (hd := hd) (rs := rs) (np := np) (q := p) (c := c) (z := n) with hfc | hfc | hfc | hfc | hfc
    · exact absurd hfc hcx
    · rw [hfc] at eE
      replace eE : E_1 = "java/lang/IndexOutOfBoundsException" := eE
      subst eE
      rw [hw]
      refine r_catchA hC hT [] ⟨0, 12, 15, 21⟩ [⟨0, 12, 19, 13⟩, ⟨0, 12, 23, 15⟩, ⟨0, 12, 27, 23⟩] rfl (fun z hz => by cases hz) rfl (by decide) kcL_21 ca_IndexOutOfBoundsException dL_drop_15 (by rw [hnl]; decide) ?_
      show Wp X (0 + 1) (0 + 6) w [] [] 17
      refine r_iconst hC dL_drop_17 (v := 1) (by decide) ?_
      refine r_iret hC hE hR dL_drop_18 (by omega) (by omega) rfl ?_
      exact Or.inr (⟨hcx, by rw [hfc]; rfl, Lx.mk (CtTo.rfl H) hox ho⟩)
    · rw [hfc] at eE
      replace eE : E_1 = "java/lang/IllegalArgumentException" := eE
      subst eE
      rw [hw]
      refine r_catchA hC hT [⟨0, 12, 15, 21⟩] ⟨0, 12, 19, 13⟩ [⟨0, 12, 23, 15⟩, ⟨0, 12, 27, 23⟩] rfl (fun z hz => by
        simp only [List.mem_cons, List.not_mem_nil, or_false] at hz
        rcases hz with rfl
        · exact Or.inr ⟨by decide, "java/lang/IndexOutOfBoundsException", kcL_21, by decide +kernel⟩) rfl (by decide) kcL_13 ca_IllegalArgumentException dL_drop_19 (by rw [hnl]; decide) ?_
      show Wp X (0 + 1) (0 + 6) w [] [] 21
      refine r_iconst hC dL_drop_21 (v := 2) (by decide) ?_
      refine r_iret hC hE hR dL_drop_22 (by omega) (by omega) rfl ?_
      exact Or.inr (⟨hcx, by rw [hfc]; rfl, Lx.mk (CtTo.rfl H) hox ho⟩)
    · rw [hfc] at eE
      replace eE : E_1 = "java/lang/IllegalStateException" := eE
      subst eE
      rw [hw]
      refine r_catchA hC hT [⟨0, 12, 15, 21⟩, ⟨0, 12, 19, 13⟩] ⟨0, 12, 23, 15⟩ [⟨0, 12, 27, 23⟩] rfl (fun z hz => by
        simp only [List.mem_cons, List.not_mem_nil, or_false] at hz
        rcases hz with rfl | rfl
        · exact Or.inr ⟨by decide, "java/lang/IndexOutOfBoundsException", kcL_21, by decide +kernel⟩
        · exact Or.inr ⟨by decide, "java/lang/IllegalArgumentException", kcL_13, by decide +kernel⟩) rfl (by decide) kcL_15 ca_IllegalStateException dL_drop_23 (by rw [hnl]; decide) ?_
      show Wp X (0 + 1) (0 + 6) w [] [] 25
      refine r_iconst hC dL_drop_25 (v := 3) (by decide) ?_
      refine r_iret hC hE hR dL_drop_26 (by omega) (by omega) rfl ?_
      exact Or.inr (⟨hcx, by rw [hfc]; rfl, Lx.mk (CtTo.rfl H) hox ho⟩)
    · rw [hfc] at eE
      replace eE : E_1 = "java/lang/UnsupportedOperationException" := eE
      subst eE
      rw [hw]
      refine r_catchA hC hT [⟨0, 12, 15, 21⟩, ⟨0, 12, 19, 13⟩, ⟨0, 12, 23, 15⟩] ⟨0, 12, 27, 23⟩ [] rfl (fun z hz => by
        simp only [List.mem_cons, List.not_mem_nil, or_false] at hz
        rcases hz with rfl | rfl | rfl
        · exact Or.inr ⟨by decide, "java/lang/IndexOutOfBoundsException", kcL_21, by decide +kernel⟩
        · exact Or.inr ⟨by decide, "java/lang/IllegalArgumentException", kcL_13, by decide +kernel⟩
        · exact Or.inr ⟨by decide, "java/lang/IllegalStateException", kcL_15, by decide +kernel⟩) rfl (by decide) kcL_23 ca_UnsupportedOperationException dL_drop_27 (by rw [hnl]; decide) ?_
      show Wp X (0 + 1) (0 + 6) w [] [] 29
      refine r_iconst hC dL_drop_29 (v := 4) (by decide) ?_
      refine r_iret hC hE hR dL_drop_30 (by omega) (by omega) rfl ?_
      exact Or.inr (⟨hcx, by rw [hfc]; rfl, Lx.mk (CtTo.rfl H) hox ho⟩)
set_option maxRecDepth 100000 in
set_option maxHeartbeats 4000000 in
theorem lw_pile {d o : Nat} {q0 : Nat → Int64} {c n : Int32} {w : mW} {x : Nat} {f g : Nat → Int32} {sl op lo : Int32} {hd rs : Nat → Int32} {np : Nat} {tp av lg pl tk : Int32} {l : List sv} {ea fa : Int32} {so : Option sv} {tx ln : List Nat} (H : CtAt w x ((f, g, sl, op, lo), hd, rs, np, tp, av, lg, pl, tk) l ea fa so tx ln) (ho : w[o]? = some (.inl (1, 1, .inr (.inl q0)))) (hox : o < x ∨ x + 88 < o) (hI : SInv ((f, g, sl, op, lo), hd, rs, np, tp, av, lg, pl, tk)) : SpH (d + 6) yL_pile cL_pile 5 (some .int) hh_pile [.ref x, .int c, .int n, .ref o] w 1 6 (fun v w' => (fltPile f c n = 1000010 ∧ v = some (.int 0) ∧ Lo w w' x o (sPile ((f, g, sl, op, lo), hd, rs, np, tp, av, lg, pl, tk) c.toNatClampNeg n) (push8 l ((f, g, sl, op, lo), hd, rs, np, tp, av, lg, pl, tk)) ea fa so tx ln ((sDropN ((f, g, sl, op, lo), hd, rs, np, tp, av, lg, pl, tk) c.toNatClampNeg n (-1)).toInt64)) ∨ (¬ fltPile f c n = 1000010 ∧ v = some (.int (nD (fltPile f c n))) ∧ Lx w w' x o ((f, g, sl, op, lo), hd, rs, np, tp, av, lg, pl, tk) l ea fa so tx ln)) := by
  refine SpH.of (by decide +kernel) (Nat.le_of_ble_eq_true rfl) (fun X hC hnl hE hR hT => ?_)
  have hC : Cx X RL cL_pile (d + 6) 1 6 := hC
  obtain ⟨ol, hs, yb, ys, hx, q, qn, cn, ps, cs, hob, -⟩ := id H
  show Wp X 0 0 w [(0, .ref x), (1, .int c), (2, .int n), (3, .ref o)] [] 0
  refine r_aload_n hC dL_pile_0 rfl (j := 3) rfl ?_
  refine r_iconst hC dL_pile_1 (v := 0) (by decide) ?_
  refine r_aload_n hC dL_pile_2 rfl (j := 0) rfl ?_
  refine r_iload_n hC dL_pile_3 rfl (j := 1) rfl ?_
  refine r_iload_n hC dL_pile_4 rfl (j := 2) rfl ?_
  
  refine r_callV hC (vs := [.int c, .int n]) vL_pile_5 (sh_pile (d := d) (c := c) (n := n) H hI) hob rfl rfl (by omega) (by omega) (by omega) (Nat.le_of_ble_eq_true rfl) (fun v_1 w_1 hP_1 hlen_1 => ?_) (fun E_1 w9_1 hX_1 hl9_1 => ?_)
  · obtain ⟨hc_1, hv_1, T_1⟩ := hP_1
    rw [hv_1]
    have ho_1 : w_1[o]? = some (.inl (1, 1, .inr (.inl q0))) := (T_1.2 o hox).trans ho
    show Wp X (0 + 1) (0 + 6) w_1 [(0, .ref x), (1, .int c), (2, .int n), (3, .ref o)] [.int (sDropN ((f, g, sl, op, lo), hd, rs, np, tp, av, lg, pl, tk) c.toNatClampNeg n (-1)), .int 0, .ref o] 8
    refine r_i2l hC dL_pile_8 rfl ?_
    refine r_last' hC dL_pile_9 (j := 0) ho_1 ⟨by decide, by decide, by decide⟩ (fun w_2 ew_2 => ?_)
    have hf2_o : w_2[o]? = some (.inl (1, 1, .inr (.inl (vp_updL q0 0 (((sDropN ((f, g, sl, op, lo), hd, rs, np, tp, av, lg, pl, tk) c.toNatClampNeg n (-1))).toInt64))))) := by rw [ew_2]; exact List.getElem?_set_self (lt_of_get ho_1)
    refine r_goto hC dL_pile_10 (tgt := 25) (by decide) ?_
    refine r_iconst hC dL_pile_25 (v := 0) (by decide) ?_
    refine r_iret hC hE hR dL_pile_26 (by omega) (by omega) (by simp only [ew_2, List.length_set]; exact hlen_1) ?_
    exact Or.inl (⟨hc_1, rfl, Lo.mk T_1 hox ho_1 ew_2 rfl⟩)
  · obtain ⟨eE, hw, hcx⟩ := hX_1
    rcases fc_pile (f := f) (c := c) (z := n) with hfc | hfc | hfc | hfc
    · exact absurd hfc hcx
    · rw [hfc] at eE
      replace eE : E_1 = "java/lang/IndexOutOfBoundsException" := eE
      subst eE
      rw [hw]
      refine r_catchA hC hT [] ⟨0, 10, 13, 21⟩ [⟨0, 10, 17, 13⟩, ⟨0, 10, 21, 15⟩] rfl (fun z hz => by cases hz) rfl (by decide) kcL_21 ca_IndexOutOfBoundsException dL_pile_13 (by rw [hnl]; decide) ?_
      show Wp X (0 + 1) (0 + 6) w [] [] 15
      refine r_iconst hC dL_pile_15 (v := 1) (by decide) ?_
      refine r_iret hC hE hR dL_pile_16 (by omega) (by omega) rfl ?_
      exact Or.inr (⟨hcx, by rw [hfc]; rfl, Lx.mk (CtTo.rfl H) hox ho⟩)
    · rw [hfc] at eE
      replace eE : E_1 = "java/lang/IllegalArgumentException" := eE
      subst eE
      rw [hw]
      refine r_catchA hC hT [⟨0, 10, 13, 21⟩] ⟨0, 10, 17, 13⟩ [⟨0, 10, 21, 15⟩] rfl (fun z hz => by
        simp only [List.mem_cons, List.not_mem_nil, or_false] at hz
        rcases hz with rfl
        · exact Or.inr ⟨by decide, "java/lang/IndexOutOfBoundsException", kcL_21, by decide +kernel⟩) rfl (by decide) kcL_13 ca_IllegalArgumentException dL_pile_17 (by rw [hnl]; decide) ?_
      show Wp X (0 + 1) (0 + 6) w [] [] 19
      refine r_iconst hC dL_pile_19 (v := 2) (by decide) ?_
      refine r_iret hC hE hR dL_pile_20 (by omega) (by omega) rfl ?_
      exact Or.inr (⟨hcx, by rw [hfc]; rfl, Lx.mk (CtTo.rfl H) hox ho⟩)
    · rw [hfc] at eE
      replace eE : E_1 = "java/lang/IllegalStateException" := eE
      subst eE
      rw [hw]
      refine r_catchA hC hT [⟨0, 10, 13, 21⟩, ⟨0, 10, 17, 13⟩] ⟨0, 10, 21, 15⟩ [] rfl (fun z hz => by
        simp only [List.mem_cons, List.not_mem_nil, or_false] at hz
        rcases hz with rfl | rfl
        · exact Or.inr ⟨by decide, "java/lang/IndexOutOfBoundsException", kcL_21, by decide +kernel⟩
        · exact Or.inr ⟨by decide, "java/lang/IllegalArgumentException", kcL_13, by decide +kernel⟩) rfl (by decide) kcL_15 ca_IllegalStateException dL_pile_21 (by rw [hnl]; decide) ?_
      show Wp X (0 + 1) (0 + 6) w [] [] 23
      refine r_iconst hC dL_pile_23 (v := 3) (by decide) ?_
      refine r_iret hC hE hR dL_pile_24 (by omega) (by omega) rfl ?_
      exact Or.inr (⟨hcx, by rw [hfc]; rfl, Lx.mk (CtTo.rfl H) hox ho⟩)
set_option maxRecDepth 100000 in
set_option maxHeartbeats 4000000 in
theorem lw_take {d o : Nat} {q0 : Nat → Int64} {p c : Int32} {w : mW} {x : Nat} {f g : Nat → Int32} {sl op lo : Int32} {hd rs : Nat → Int32} {np : Nat} {tp av lg pl tk : Int32} {l : List sv} {ea fa : Int32} {so : Option sv} {tx ln : List Nat} (H : CtAt w x ((f, g, sl, op, lo), hd, rs, np, tp, av, lg, pl, tk) l ea fa so tx ln) (ho : w[o]? = some (.inl (1, 1, .inr (.inl q0)))) (hox : o < x ∨ x + 88 < o) (hI : SInv ((f, g, sl, op, lo), hd, rs, np, tp, av, lg, pl, tk)) : SpH (d + 6) yL_take cL_take 5 (some .int) hh_take [.ref x, .int p, .int c, .ref o] w 1 6 (fun v w' => (fltTake f g np p c = 1000010 ∧ v = some (.int 0) ∧ Lo w w' x o (sTake ((f, g, sl, op, lo), hd, rs, np, tp, av, lg, pl, tk) p.toNatClampNeg c.toNatClampNeg) (push8 l ((f, g, sl, op, lo), hd, rs, np, tp, av, lg, pl, tk)) ea fa so tx ln ((nI (hRestF (hRem (f, g, sl, op, lo) c.toNatClampNeg)).1).toInt64)) ∨ (¬ fltTake f g np p c = 1000010 ∧ v = some (.int (nT (fltTake f g np p c))) ∧ Lx w w' x o ((f, g, sl, op, lo), hd, rs, np, tp, av, lg, pl, tk) l ea fa so tx ln)) := by
  refine SpH.of (by decide +kernel) (Nat.le_of_ble_eq_true rfl) (fun X hC hnl hE hR hT => ?_)
  have hC : Cx X RL cL_take (d + 6) 1 6 := hC
  obtain ⟨ol, hs, yb, ys, hx, q, qn, cn, ps, cs, hob, -⟩ := id H
  show Wp X 0 0 w [(0, .ref x), (1, .int p), (2, .int c), (3, .ref o)] [] 0
  refine r_aload_n hC dL_take_0 rfl (j := 3) rfl ?_
  refine r_iconst hC dL_take_1 (v := 0) (by decide) ?_
  refine r_aload_n hC dL_take_2 rfl (j := 0) rfl ?_
  refine r_iload_n hC dL_take_3 rfl (j := 1) rfl ?_
  refine r_iload_n hC dL_take_4 rfl (j := 2) rfl ?_
  
  refine r_callV hC (vs := [.int p, .int c]) vL_take_5 (sh_take (d := d) (p := p) (c := c) H hI) hob rfl rfl (by omega) (by omega) (by omega) (Nat.le_of_ble_eq_true rfl) (fun v_1 w_1 hP_1 hlen_1 => ?_) (fun E_1 w9_1 hX_1 hl9_1 => ?_)
  · obtain ⟨hc_1, hv_1, T_1⟩ := hP_1
    rw [hv_1]
    have ho_1 : w_1[o]? = some (.inl (1, 1, .inr (.inl q0))) := (T_1.2 o hox).trans ho
    show Wp X (0 + 1) (0 + 6) w_1 [(0, .ref x), (1, .int p), (2, .int c), (3, .ref o)] [.int (nI (hRestF (hRem (f, g, sl, op, lo) c.toNatClampNeg)).1), .int 0, .ref o] 8
    refine r_i2l hC dL_take_8 rfl ?_
    refine r_last' hC dL_take_9 (j := 0) ho_1 ⟨by decide, by decide, by decide⟩ (fun w_2 ew_2 => ?_)
    have hf2_o : w_2[o]? = some (.inl (1, 1, .inr (.inl (vp_updL q0 0 (((nI (hRestF (hRem (f, g, sl, op, lo) c.toNatClampNeg)).1)).toInt64))))) := by rw [ew_2]; exact List.getElem?_set_self (lt_of_get ho_1)
    refine r_goto hC dL_take_10 (tgt := 25) (by decide) ?_
    refine r_iconst hC dL_take_25 (v := 0) (by decide) ?_
    refine r_iret hC hE hR dL_take_26 (by omega) (by omega) (by simp only [ew_2, List.length_set]; exact hlen_1) ?_
    exact Or.inl (⟨hc_1, rfl, Lo.mk T_1 hox ho_1 ew_2 rfl⟩)
  · obtain ⟨eE, hw, hcx⟩ := hX_1
    rcases fc_take (f := f) (g := g) (np := np) (q := p) (c := c) with hfc | hfc | hfc | hfc
    · exact absurd hfc hcx
    · rw [hfc] at eE
      replace eE : E_1 = "java/lang/IndexOutOfBoundsException" := eE
      subst eE
      rw [hw]
      refine r_catchA hC hT [] ⟨0, 10, 13, 21⟩ [⟨0, 10, 17, 32⟩, ⟨0, 10, 21, 23⟩] rfl (fun z hz => by cases hz) rfl (by decide) kcL_21 ca_IndexOutOfBoundsException dL_take_13 (by rw [hnl]; decide) ?_
      show Wp X (0 + 1) (0 + 6) w [] [] 15
      refine r_iconst hC dL_take_15 (v := 1) (by decide) ?_
      refine r_iret hC hE hR dL_take_16 (by omega) (by omega) rfl ?_
      exact Or.inr (⟨hcx, by rw [hfc]; rfl, Lx.mk (CtTo.rfl H) hox ho⟩)
    · rw [hfc] at eE
      replace eE : E_1 = "java/util/NoSuchElementException" := eE
      subst eE
      rw [hw]
      refine r_catchA hC hT [⟨0, 10, 13, 21⟩] ⟨0, 10, 17, 32⟩ [⟨0, 10, 21, 23⟩] rfl (fun z hz => by
        simp only [List.mem_cons, List.not_mem_nil, or_false] at hz
        rcases hz with rfl
        · exact Or.inr ⟨by decide, "java/lang/IndexOutOfBoundsException", kcL_21, by decide +kernel⟩) rfl (by decide) kcL_32 ca_NoSuchElementException dL_take_17 (by rw [hnl]; decide) ?_
      show Wp X (0 + 1) (0 + 6) w [] [] 19
      refine r_iconst hC dL_take_19 (v := 2) (by decide) ?_
      refine r_iret hC hE hR dL_take_20 (by omega) (by omega) rfl ?_
      exact Or.inr (⟨hcx, by rw [hfc]; rfl, Lx.mk (CtTo.rfl H) hox ho⟩)
    · rw [hfc] at eE
      replace eE : E_1 = "java/lang/UnsupportedOperationException" := eE
      subst eE
      rw [hw]
      refine r_catchA hC hT [⟨0, 10, 13, 21⟩, ⟨0, 10, 17, 32⟩] ⟨0, 10, 21, 23⟩ [] rfl (fun z hz => by
        simp only [List.mem_cons, List.not_mem_nil, or_false] at hz
        rcases hz with rfl | rfl
        · exact Or.inr ⟨by decide, "java/lang/IndexOutOfBoundsException", kcL_21, by decide +kernel⟩
        · exact Or.inr ⟨by decide, "java/util/NoSuchElementException", kcL_32, by decide +kernel⟩) rfl (by decide) kcL_23 ca_UnsupportedOperationException dL_take_21 (by rw [hnl]; decide) ?_
      show Wp X (0 + 1) (0 + 6) w [] [] 23
      refine r_iconst hC dL_take_23 (v := 3) (by decide) ?_
      refine r_iret hC hE hR dL_take_24 (by omega) (by omega) rfl ?_
      exact Or.inr (⟨hcx, by rw [hfc]; rfl, Lx.mk (CtTo.rfl H) hox ho⟩)
set_option maxRecDepth 100000 in
set_option maxHeartbeats 4000000 in
theorem lw_crownShare {d o : Nat} {q0 : Nat → UInt64} {p : Int32} {w : mW} {x : Nat} {f g : Nat → Int32} {sl op lo : Int32} {hd rs : Nat → Int32} {np : Nat} {tp av lg pl tk : Int32} {l : List sv} {ea fa : Int32} {so : Option sv} {tx ln : List Nat} (H : CtAt w x ((f, g, sl, op, lo), hd, rs, np, tp, av, lg, pl, tk) l ea fa so tx ln) (ho : w[o]? = some (.inl (2, 1, .inr (.inr (.inr (.inl q0)))))) (hox : o < x ∨ x + 88 < o) (hne : ¬ hCnt (hPeak f) 25 = 0 → vf_n32 (FP.fdiv (FP.i2f (hCnt (hOwnP f g p) 25)) (FP.i2f (hCnt (hPeak f) 25)))) (hne2 : ¬ hCnt (hPeak f) 25 = 0 → vf_n64 (FP.f2d (FP.fdiv (FP.i2f (hCnt (hOwnP f g p) 25)) (FP.i2f (hCnt (hPeak f) 25))))) : SpH (d + 3) yL_crownShare cL_crownShare 4 (some .int) hh_crownShare [.ref x, .int p, .ref o] w 2 12 (fun v w' => ((isP p np = true ∧ ¬ hCnt (hPeak f) 25 = 0) ∧ v = some (.int 0) ∧ LoD w w' x o ((f, g, sl, op, lo), hd, rs, np, tp, av, lg, pl, tk) l ea fa so tx ln (FP.f2d (FP.fdiv (FP.i2f (hCnt (hOwnP f g p) 25)) (FP.i2f (hCnt (hPeak f) 25))))) ∨ (isP p np = false ∧ v = some (.int 1) ∧ LxD w w' x o ((f, g, sl, op, lo), hd, rs, np, tp, av, lg, pl, tk) l ea fa so tx ln) ∨ ((isP p np = true ∧ hCnt (hPeak f) 25 = 0) ∧ v = some (.int 2) ∧ LxD w w' x o ((f, g, sl, op, lo), hd, rs, np, tp, av, lg, pl, tk) l ea fa so tx ln)) := by
  refine SpH.of (by decide +kernel) (Nat.le_of_ble_eq_true rfl) (fun X hC hnl hE hR hT => ?_)
  have hC : Cx X RL cL_crownShare (d + 3) 2 12 := hC
  obtain ⟨ol, hs, yb, ys, hx, q, qn, cn, ps, cs, hob, -⟩ := id H
  show Wp X 0 0 w [(0, .ref x), (1, .int p), (2, .ref o)] [] 0
  refine r_aload_n hC dL_crownShare_0 rfl (j := 2) rfl ?_
  refine r_iconst hC dL_crownShare_1 (v := 0) (by decide) ?_
  refine r_aload_n hC dL_crownShare_2 rfl (j := 0) rfl ?_
  refine r_iload_n hC dL_crownShare_3 rfl (j := 1) rfl ?_
  
  refine r_callV hC (vs := [.int p]) vL_crownShare_4 (sh_crownShare (d := d) (p := p) H hne) hob rfl rfl (by omega) (by omega) (by omega) (Nat.le_of_ble_eq_true rfl) (fun v_1 w_1 hP_1 hlen_1 => ?_) (fun E_1 w9_1 hX_1 hl9_1 => ?_)
  · obtain ⟨hc_1, hv_1, hw_1⟩ := hP_1
    rw [hv_1, hw_1]
    show Wp X (0 + 2) (0 + 12) w [(0, .ref x), (1, .int p), (2, .ref o)] [.float (FP.fdiv (FP.i2f (hCnt (hOwnP f g p) 25)) (FP.i2f (hCnt (hPeak f) 25))), .int 0, .ref o] 7
    refine r_f2d hC dL_crownShare_7 (hne2 hc_1.2) ?_
    refine r_dast' hC dL_crownShare_8 (j := 0) ho ⟨by decide, by decide, by decide⟩ (fun w_2 ew_2 => ?_)
    have hf2_o : w_2[o]? = some (.inl (2, 1, .inr (.inr (.inr (.inl (vf_upd q0 0 (FP.f2d (FP.fdiv (FP.i2f (hCnt (hOwnP f g p) 25)) (FP.i2f (hCnt (hPeak f) 25)))))))))) := by rw [ew_2]; exact List.getElem?_set_self (lt_of_get ho)
    refine r_goto hC dL_crownShare_9 (tgt := 18) (by decide) ?_
    refine r_iconst hC dL_crownShare_18 (v := 0) (by decide) ?_
    refine r_iret hC hE hR dL_crownShare_19 (by omega) (by omega) (by simp only [ew_2, List.length_set]) ?_
    exact Or.inl (⟨hc_1, rfl, LoD.mk (CtTo.rfl H) hox ho ew_2 rfl⟩)
  · rcases hX_1 with ⟨eE, hw, hcx⟩ | ⟨eE, hw, hcx⟩
    · subst eE
      rw [hw]
      refine r_catch hC hT [] ⟨0, 9, 12, 21⟩ [⟨0, 9, 15, 81⟩] rfl (fun z hz => by cases hz) rfl (by decide) kcL_21 ca_IndexOutOfBoundsException dL_crownShare_12 rfl (by rw [hnl]; decide) ?_
      show Wp X (0 + 2) (0 + 12) w [] [] 13
      refine r_iconst hC dL_crownShare_13 (v := 1) (by decide) ?_
      refine r_iret hC hE hR dL_crownShare_14 (by omega) (by omega) rfl ?_
      exact Or.inr (Or.inl (⟨hcx, rfl, LxD.mk (CtTo.rfl H) hox ho⟩))
    · subst eE
      rw [hw]
      refine r_catch hC hT [⟨0, 9, 12, 21⟩] ⟨0, 9, 15, 81⟩ [] rfl (fun z hz => by
          simp only [List.mem_cons, List.not_mem_nil, or_false] at hz
          rcases hz with rfl
          · exact Or.inr ⟨by decide, "java/lang/IndexOutOfBoundsException", kcL_21, by decide +kernel⟩) rfl (by decide) kcL_81 ca_ArithmeticException dL_crownShare_15 rfl (by rw [hnl]; decide) ?_
      show Wp X (0 + 2) (0 + 12) w [] [] 16
      refine r_iconst hC dL_crownShare_16 (v := 2) (by decide) ?_
      refine r_iret hC hE hR dL_crownShare_17 (by omega) (by omega) rfl ?_
      exact Or.inr (Or.inr (⟨hcx, rfl, LxD.mk (CtTo.rfl H) hox ho⟩))
set_option maxRecDepth 100000 in
set_option maxHeartbeats 4000000 in
theorem lw_meanAvalanche {d o : Nat} {q0 : Nat → UInt64}  {w : mW} {x : Nat} {f g : Nat → Int32} {sl op lo : Int32} {hd rs : Nat → Int32} {np : Nat} {tp av lg pl tk : Int32} {l : List sv} {ea fa : Int32} {so : Option sv} {tx ln : List Nat} (H : CtAt w x ((f, g, sl, op, lo), hd, rs, np, tp, av, lg, pl, tk) l ea fa so tx ln) (ho : w[o]? = some (.inl (2, 1, .inr (.inr (.inr (.inl q0)))))) (hox : o < x ∨ x + 88 < o) (hne : ¬ av = 0 → vf_n64 (FP.ddiv (FP.i2d tp) (FP.i2d av))) : SpH (d + 1) yL_meanAvalanche cL_meanAvalanche 3 (some .int) hh_meanAvalanche [.ref x, .ref o] w 1 6 (fun v w' => (¬ av = 0 ∧ v = some (.int 0) ∧ LoD w w' x o ((f, g, sl, op, lo), hd, rs, np, tp, av, lg, pl, tk) l ea fa so tx ln (FP.ddiv (FP.i2d tp) (FP.i2d av))) ∨ (av = 0 ∧ v = some (.int 1) ∧ LxD w w' x o ((f, g, sl, op, lo), hd, rs, np, tp, av, lg, pl, tk) l ea fa so tx ln)) := by
  refine SpH.of (by decide +kernel) (Nat.le_of_ble_eq_true rfl) (fun X hC hnl hE hR hT => ?_)
  have hC : Cx X RL cL_meanAvalanche (d + 1) 1 6 := hC
  obtain ⟨ol, hs, yb, ys, hx, q, qn, cn, ps, cs, hob, -⟩ := id H
  show Wp X 0 0 w [(0, .ref x), (1, .ref o)] [] 0
  refine r_aload_n hC dL_meanAvalanche_0 rfl (j := 1) rfl ?_
  refine r_iconst hC dL_meanAvalanche_1 (v := 0) (by decide) ?_
  refine r_aload_n hC dL_meanAvalanche_2 rfl (j := 0) rfl ?_
  
  refine r_callV hC (vs := []) vL_meanAvalanche_3 (sh_meanAvalanche (d := d) H hne) hob rfl rfl (by omega) (by omega) (by omega) (Nat.le_of_ble_eq_true rfl) (fun v_1 w_1 hP_1 hlen_1 => ?_) (fun E_1 w9_1 hX_1 hl9_1 => ?_)
  · obtain ⟨hc_1, hv_1, hw_1⟩ := hP_1
    rw [hv_1, hw_1]
    show Wp X (0 + 1) (0 + 6) w [(0, .ref x), (1, .ref o)] [.double (FP.ddiv (FP.i2d tp) (FP.i2d av)), .int 0, .ref o] 6
    refine r_dast' hC dL_meanAvalanche_6 (j := 0) ho ⟨by decide, by decide, by decide⟩ (fun w_2 ew_2 => ?_)
    have hf2_o : w_2[o]? = some (.inl (2, 1, .inr (.inr (.inr (.inl (vf_upd q0 0 (FP.ddiv (FP.i2d tp) (FP.i2d av)))))))) := by rw [ew_2]; exact List.getElem?_set_self (lt_of_get ho)
    refine r_goto hC dL_meanAvalanche_7 (tgt := 13) (by decide) ?_
    refine r_iconst hC dL_meanAvalanche_13 (v := 0) (by decide) ?_
    refine r_iret hC hE hR dL_meanAvalanche_14 (by omega) (by omega) (by simp only [ew_2, List.length_set]) ?_
    exact Or.inl (⟨hc_1, rfl, LoD.mk (CtTo.rfl H) hox ho ew_2 rfl⟩)
  · obtain ⟨eE, hw, hcx⟩ := hX_1
    subst eE
    rw [hw]
    refine r_catch hC hT [] ⟨0, 7, 10, 81⟩ [] rfl (fun z hz => by cases hz) rfl (by decide) kcL_81 ca_ArithmeticException dL_meanAvalanche_10 rfl (by rw [hnl]; decide) ?_
    show Wp X (0 + 1) (0 + 6) w [] [] 11
    refine r_iconst hC dL_meanAvalanche_11 (v := 1) (by decide) ?_
    refine r_iret hC hE hR dL_meanAvalanche_12 (by omega) (by omega) rfl ?_
    exact Or.inr (⟨hcx, rfl, LxD.mk (CtTo.rfl H) hox ho⟩)
end LW
