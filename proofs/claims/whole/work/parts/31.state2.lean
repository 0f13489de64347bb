section ST2
def avZ (z : zv) (x : Int32) : zv := if x ≤ 0 then z else (z.1 + x, z.2.1 + 1, (if z.2.2.1 < x then x else z.2.2.1), z.2.2.2.1, z.2.2.2.2)
set_option maxRecDepth 100000 in
set_option maxHeartbeats 4000000 in
theorem sp_countAv {d : Nat} {x : Int32} {w : mW} {s : Nat} {f g : Nat → Int32} {sl op lo : Int32} {hd rs : Nat → Int32} {np : Nat} {tp av lg pl tk : Int32} (H0 : StAt w s ((f, g, sl, op, lo), hd, rs, np, tp, av, lg, pl, tk)) : Sp (d + 1) yX6_countAvalanche cX6_countAvalanche 2 (some .int) [.ref s, .int x] w 0 0 (fun v w' => v = some (.int x) ∧ StTo w s ((f, g, sl, op, lo), hd, rs, np, avZ (tp, av, lg, pl, tk) x) w') noX := by
  refine Sp.of (by decide +kernel) (Nat.le_of_ble_eq_true rfl) (fun X hC hnl hE hR hN => ?_)
  have hC : Cx X RX6 cX6_countAvalanche (d + 1) 0 0 := hC
  show Wp X 0 0 w [(0, .ref s), (1, .int x)] [] 0
  have hs : w[s]? = some (mO 7 [.ref (s + 1), .ref (s + 4), .ref (s + 5), .int (nI np), .int tp, .int av, .int lg, .int pl, .int tk]) := H0.1
  have H : HillAt w (s + 1) (s + 2) (s + 3) (f, g, sl, op, lo) := H0.2.1
  have hh : w[s + 1]? = some (mO 6 [.ref (s + 2), .ref (s + 3), .int sl, .int op, .int lo]) := H.1
  have ha : w[s + 2]? = some (mI 0 26 f) := H.2.1
  have hb : w[s + 3]? = some (mI 0 25 g) := H.2.2
  have hhd : w[s + 4]? = some (mI 0 4 hd) := H0.2.2.1
  have hrs : w[s + 5]? = some (mI 0 4 rs) := H0.2.2.2
  refine r_iload_n hC dX6_countAvalanche_0 rfl (j := 1) rfl ?_
  refine r_if_le hC dX6_countAvalanche_1 (tgt := 36) (by decide) (fun c1 => ?_) (fun c1 => ?_)
  · refine r_iload_n hC dX6_countAvalanche_36 rfl (j := 1) rfl ?_
    refine r_iret hC hE hR dX6_countAvalanche_37 (by omega) (by omega) (rfl) ?_
    have e9 : avZ (tp, av, lg, pl, tk) x = (tp, av, lg, pl, tk) := if_pos c1
    rw [e9]
    exact ⟨rfl, StTo.rfl H0⟩
  · refine r_aload_n hC dX6_countAvalanche_4 rfl (j := 0) rfl ?_
    refine r_dup hC dX6_countAvalanche_5 rfl ?_
    refine r_get hC gX6_countAvalanche_6 hs (v := .int tp) rfl ?_
    refine r_iload_n hC dX6_countAvalanche_9 rfl (j := 1) rfl ?_
    refine r_iadd hC dX6_countAvalanche_10 ?_
    refine r_put' hC pX6_countAvalanche_11 hs (Nat.le_of_ble_eq_true rfl) (fun _ => rfl) (fun _ => rfl) (fun w_1 ew_1 => ?_)
    have hf1_s : w_1[s]? = some (mO 7 [.ref (s + 1), .ref (s + 4), .ref (s + 5), .int (nI np), .int (tp + x), .int av, .int lg, .int pl, .int tk]) := by rw [ew_1]; exact List.getElem?_set_self (lt_of_get hs)
    have hf1__s___1_ : w_1[(s + 1)]? = some (mO 6 [.ref (s + 2), .ref (s + 3), .int sl, .int op, .int lo]) := by rw [ew_1, List.getElem?_set_ne (by omega)]; exact hh
    have hf1__s___2_ : w_1[(s + 2)]? = some (mI 0 26 f) := by rw [ew_1, List.getElem?_set_ne (by omega)]; exact ha
    have hf1__s___3_ : w_1[(s + 3)]? = some (mI 0 25 g) := by rw [ew_1, List.getElem?_set_ne (by omega)]; exact hb
    have hf1__s___4_ : w_1[(s + 4)]? = some (mI 0 4 hd) := by rw [ew_1, List.getElem?_set_ne (by omega)]; exact hhd
    have hf1__s___5_ : w_1[(s + 5)]? = some (mI 0 4 rs) := by rw [ew_1, List.getElem?_set_ne (by omega)]; exact hrs
    refine r_aload_n hC dX6_countAvalanche_14 rfl (j := 0) rfl ?_
    refine r_dup hC dX6_countAvalanche_15 rfl ?_
    refine r_get hC gX6_countAvalanche_16 hf1_s (v := .int av) rfl ?_
    refine r_iconst hC dX6_countAvalanche_19 (v := 1) (by decide) ?_
    refine r_iadd hC dX6_countAvalanche_20 ?_
    refine r_put' hC pX6_countAvalanche_21 hf1_s (Nat.le_of_ble_eq_true rfl) (fun _ => rfl) (fun _ => rfl) (fun w_2 ew_2 => ?_)
    have hf2_s : w_2[s]? = some (mO 7 [.ref (s + 1), .ref (s + 4), .ref (s + 5), .int (nI np), .int (tp + x), .int (av + 1), .int lg, .int pl, .int tk]) := by rw [ew_2]; exact List.getElem?_set_self (lt_of_get hf1_s)
    have hf2__s___1_ : w_2[(s + 1)]? = some (mO 6 [.ref (s + 2), .ref (s + 3), .int sl, .int op, .int lo]) := by rw [ew_2, List.getElem?_set_ne (by omega)]; exact hf1__s___1_
    have hf2__s___2_ : w_2[(s + 2)]? = some (mI 0 26 f) := by rw [ew_2, List.getElem?_set_ne (by omega)]; exact hf1__s___2_
    have hf2__s___3_ : w_2[(s + 3)]? = some (mI 0 25 g) := by rw [ew_2, List.getElem?_set_ne (by omega)]; exact hf1__s___3_
    have hf2__s___4_ : w_2[(s + 4)]? = some (mI 0 4 hd) := by rw [ew_2, List.getElem?_set_ne (by omega)]; exact hf1__s___4_
    have hf2__s___5_ : w_2[(s + 5)]? = some (mI 0 4 rs) := by rw [ew_2, List.getElem?_set_ne (by omega)]; exact hf1__s___5_
    refine r_aload_n hC dX6_countAvalanche_24 rfl (j := 0) rfl ?_
    refine r_aload_n hC dX6_countAvalanche_25 rfl (j := 0) rfl ?_
    refine r_get hC gX6_countAvalanche_26 hf2_s (v := .int lg) rfl ?_
    refine r_iload_n hC dX6_countAvalanche_29 rfl (j := 1) rfl ?_
    refine r_max hC vX6_countAvalanche_30 (Nat.le_of_ble_eq_true rfl) (by omega) (by omega) (by omega) ?_
    refine r_put' hC pX6_countAvalanche_33 hf2_s (Nat.le_of_ble_eq_true rfl) (fun _ => rfl) (fun _ => rfl) (fun w_4 ew_4 => ?_)
    have hf4_s : w_4[s]? = some (mO 7 [.ref (s + 1), .ref (s + 4), .ref (s + 5), .int (nI np), .int (tp + x), .int (av + 1), .int (if lg < x then x else lg), .int pl, .int tk]) := by rw [ew_4]; exact List.getElem?_set_self (lt_of_get hf2_s)
    have hf4__s___1_ : w_4[(s + 1)]? = some (mO 6 [.ref (s + 2), .ref (s + 3), .int sl, .int op, .int lo]) := by rw [ew_4, List.getElem?_set_ne (by omega)]; exact hf2__s___1_
    have hf4__s___2_ : w_4[(s + 2)]? = some (mI 0 26 f) := by rw [ew_4, List.getElem?_set_ne (by omega)]; exact hf2__s___2_
    have hf4__s___3_ : w_4[(s + 3)]? = some (mI 0 25 g) := by rw [ew_4, List.getElem?_set_ne (by omega)]; exact hf2__s___3_
    have hf4__s___4_ : w_4[(s + 4)]? = some (mI 0 4 hd) := by rw [ew_4, List.getElem?_set_ne (by omega)]; exact hf2__s___4_
    have hf4__s___5_ : w_4[(s + 5)]? = some (mI 0 4 rs) := by rw [ew_4, List.getElem?_set_ne (by omega)]; exact hf2__s___5_
    refine r_iload_n hC dX6_countAvalanche_36 rfl (j := 1) rfl ?_
    refine r_iret hC hE hR dX6_countAvalanche_37 (by omega) (by omega) (by rw [ew_4, List.length_set, ew_2, List.length_set, ew_1, List.length_set]) ?_
    have e9 : avZ (tp, av, lg, pl, tk) x = (tp + x, av + 1, (if lg < x then x else lg), pl, tk) := if_neg c1
    rw [e9]
    exact ⟨rfl, ⟨⟨hf4_s, ⟨hf4__s___1_, hf4__s___2_, hf4__s___3_⟩, hf4__s___4_, hf4__s___5_⟩, fun k hk => by rw [ew_4, List.getElem?_set_ne (by omega), ew_2, List.getElem?_set_ne (by omega), ew_1, List.getElem?_set_ne (by omega)]⟩⟩
set_option maxRecDepth 100000 in
set_option maxHeartbeats 4000000 in
theorem sp_enter {d : Nat} {x : Int32} {w : mW} {s : Nat} {f g : Nat → Int32} {sl op lo : Int32} {hd rs : Nat → Int32} {np : Nat} {tp av lg pl tk : Int32} (H0 : StAt w s ((f, g, sl, op, lo), hd, rs, np, tp, av, lg, pl, tk)) (hnp : np < 4) : Sp d yX6_enterPlayer cX6_enterPlayer 3 (some .int) [.ref s, .int x] w 0 0 (fun v w' => v = some (.int (nI np)) ∧ StTo w s ((f, g, sl, op, lo), upd hd np x, upd rs np 0, np + 1, (tp, av, lg, pl, tk)) w') noX := by
  refine Sp.of (by decide +kernel) (Nat.le_of_ble_eq_true rfl) (fun X hC hnl hE hR hN => ?_)
  have hC : Cx X RX6 cX6_enterPlayer d 0 0 := hC
  show Wp X 0 0 w [(0, .ref s), (1, .int x)] [] 0
  have hs : w[s]? = some (mO 7 [.ref (s + 1), .ref (s + 4), .ref (s + 5), .int (nI np), .int tp, .int av, .int lg, .int pl, .int tk]) := H0.1
  have H : HillAt w (s + 1) (s + 2) (s + 3) (f, g, sl, op, lo) := H0.2.1
  have hh : w[s + 1]? = some (mO 6 [.ref (s + 2), .ref (s + 3), .int sl, .int op, .int lo]) := H.1
  have ha : w[s + 2]? = some (mI 0 26 f) := H.2.1
  have hb : w[s + 3]? = some (mI 0 25 g) := H.2.2
  have hhd : w[s + 4]? = some (mI 0 4 hd) := H0.2.2.1
  have hrs : w[s + 5]? = some (mI 0 4 rs) := H0.2.2.2
  refine r_aload_n hC dX6_enterPlayer_0 rfl (j := 0) rfl ?_
  refine r_get hC gX6_enterPlayer_1 hs (v := .int (nI np)) rfl ?_
  refine r_istore_n hC dX6_enterPlayer_4 rfl (by rw [hnl]; decide) (L' := [(2, .int (nI np)), (0, .ref s), (1, .int x)]) rfl ?_
  refine r_aload_n hC dX6_enterPlayer_5 rfl (j := 1) rfl ?_
  refine r_get hC gX6_enterPlayer_6 hs (v := .ref (s + 4)) rfl ?_
  refine r_iload_n hC dX6_enterPlayer_9 rfl (j := 0) rfl ?_
  refine r_iload_n hC dX6_enterPlayer_10 rfl (j := 2) rfl ?_
  refine r_iast' hC dX6_enterPlayer_11 (j := np) hhd (mIx_nI (by omega) (by decide)) (fun w_1 ew_1 => ?_)
  have hf1_s : w_1[s]? = some (mO 7 [.ref (s + 1), .ref (s + 4), .ref (s + 5), .int (nI np), .int tp, .int av, .int lg, .int pl, .int tk]) := by rw [ew_1, List.getElem?_set_ne (by omega)]; exact hs
  have hf1__s___1_ : w_1[(s + 1)]? = some (mO 6 [.ref (s + 2), .ref (s + 3), .int sl, .int op, .int lo]) := by rw [ew_1, List.getElem?_set_ne (by omega)]; exact hh
  have hf1__s___2_ : w_1[(s + 2)]? = some (mI 0 26 f) := by rw [ew_1, List.getElem?_set_ne (by omega)]; exact ha
  have hf1__s___3_ : w_1[(s + 3)]? = some (mI 0 25 g) := by rw [ew_1, List.getElem?_set_ne (by omega)]; exact hb
  have hf1__s___4_ : w_1[(s + 4)]? = some (mI 0 4 (upd hd np x)) := by rw [ew_1]; exact List.getElem?_set_self (lt_of_get hhd)
  have hf1__s___5_ : w_1[(s + 5)]? = some (mI 0 4 rs) := by rw [ew_1, List.getElem?_set_ne (by omega)]; exact hrs
  refine r_aload_n hC dX6_enterPlayer_12 rfl (j := 1) rfl ?_
  refine r_get hC gX6_enterPlayer_13 hf1_s (v := .ref (s + 5)) rfl ?_
  refine r_iload_n hC dX6_enterPlayer_16 rfl (j := 0) rfl ?_
  refine r_iconst hC dX6_enterPlayer_17 (v := 0) (by decide) ?_
  refine r_iast' hC dX6_enterPlayer_18 (j := np) hf1__s___5_ (mIx_nI (by omega) (by decide)) (fun w_2 ew_2 => ?_)
  have hf2_s : w_2[s]? = some (mO 7 [.ref (s + 1), .ref (s + 4), .ref (s + 5), .int (nI np), .int tp, .int av, .int lg, .int pl, .int tk]) := by rw [ew_2, List.getElem?_set_ne (by omega)]; exact hf1_s
  have hf2__s___1_ : w_2[(s + 1)]? = some (mO 6 [.ref (s + 2), .ref (s + 3), .int sl, .int op, .int lo]) := by rw [ew_2, List.getElem?_set_ne (by omega)]; exact hf1__s___1_
  have hf2__s___2_ : w_2[(s + 2)]? = some (mI 0 26 f) := by rw [ew_2, List.getElem?_set_ne (by omega)]; exact hf1__s___2_
  have hf2__s___3_ : w_2[(s + 3)]? = some (mI 0 25 g) := by rw [ew_2, List.getElem?_set_ne (by omega)]; exact hf1__s___3_
  have hf2__s___4_ : w_2[(s + 4)]? = some (mI 0 4 (upd hd np x)) := by rw [ew_2, List.getElem?_set_ne (by omega)]; exact hf1__s___4_
  have hf2__s___5_ : w_2[(s + 5)]? = some (mI 0 4 (upd rs np 0)) := by rw [ew_2]; exact List.getElem?_set_self (lt_of_get hf1__s___5_)
  refine r_aload_n hC dX6_enterPlayer_19 rfl (j := 1) rfl ?_
  refine r_dup hC dX6_enterPlayer_20 rfl ?_
  refine r_get hC gX6_enterPlayer_21 hf2_s (v := .int (nI np)) rfl ?_
  refine r_iconst hC dX6_enterPlayer_24 (v := 1) (by decide) ?_
  refine r_iadd hC dX6_enterPlayer_25 ?_
  rw [nI_1]
  refine r_put' hC pX6_enterPlayer_26 hf2_s (Nat.le_of_ble_eq_true rfl) (fun _ => rfl) (fun _ => rfl) (fun w_3 ew_3 => ?_)
  have hf3_s : w_3[s]? = some (mO 7 [.ref (s + 1), .ref (s + 4), .ref (s + 5), .int (nI (np + 1)), .int tp, .int av, .int lg, .int pl, .int tk]) := by rw [ew_3]; exact List.getElem?_set_self (lt_of_get hf2_s)
  have hf3__s___1_ : w_3[(s + 1)]? = some (mO 6 [.ref (s + 2), .ref (s + 3), .int sl, .int op, .int lo]) := by rw [ew_3, List.getElem?_set_ne (by omega)]; exact hf2__s___1_
  have hf3__s___2_ : w_3[(s + 2)]? = some (mI 0 26 f) := by rw [ew_3, List.getElem?_set_ne (by omega)]; exact hf2__s___2_
  have hf3__s___3_ : w_3[(s + 3)]? = some (mI 0 25 g) := by rw [ew_3, List.getElem?_set_ne (by omega)]; exact hf2__s___3_
  have hf3__s___4_ : w_3[(s + 4)]? = some (mI 0 4 (upd hd np x)) := by rw [ew_3, List.getElem?_set_ne (by omega)]; exact hf2__s___4_
  have hf3__s___5_ : w_3[(s + 5)]? = some (mI 0 4 (upd rs np 0)) := by rw [ew_3, List.getElem?_set_ne (by omega)]; exact hf2__s___5_
  refine r_iload_n hC dX6_enterPlayer_29 rfl (j := 0) rfl ?_
  refine r_iret hC hE hR dX6_enterPlayer_30 (by omega) (by omega) (by rw [ew_3, List.length_set, ew_2, List.length_set, ew_1, List.length_set]) ?_
  exact ⟨rfl, ⟨⟨hf3_s, ⟨hf3__s___1_, hf3__s___2_, hf3__s___3_⟩, hf3__s___4_, hf3__s___5_⟩, fun k hk => by rw [ew_3, List.getElem?_set_ne (by omega), ew_2, List.getElem?_set_ne (by omega), ew_1, List.getElem?_set_ne (by omega)]⟩⟩
/-- the rests below the place c are one less, but for the one named -/
def sPass (rs : Nat → Int32) (ex : Int32) : Nat → Nat → Int32
  | 0 => rs
  | c + 1 => if ¬ nI c = ex ∧ ¬ sPass rs ex c c ≤ 0 then upd (sPass rs ex c) c (sPass rs ex c c - 1) else sPass rs ex c
set_option maxRecDepth 100000 in
set_option maxHeartbeats 4000000 in
theorem pass_loop {X : mC} {d : Nat} {w0 : mW} {s : Nat} {hl : hv} {hd rs : Nat → Int32} {np : Nat} {tp av lg pl tk ex : Int32} (hnp : np ≤ 4) (hC : Cx X RX6 cX6_passRound d 0 0) (hnl : mNL X = 3)
    (kk : ∀ w, w.length = w0.length → StTo w0 s (hl, hd, sPass rs ex np, np, tp, av, lg, pl, tk) w → Wp X 0 0 w [(0, .ref s), (1, .int ex), (2, .int (nI np))] [] 2) :
    ∀ (n c : Nat) (w : mW), c + n = np → w.length = w0.length → StTo w0 s (hl, hd, sPass rs ex c, np, tp, av, lg, pl, tk) w → Wp X 0 0 w [(0, .ref s), (1, .int ex), (2, .int (nI c))] [] 2 := by
  intro n
  induction n with
  | zero =>
    intro c w h9 hlen hT
    obtain rfl : c = np := by omega
    exact kk w hlen hT
  | succ n ih =>
    intro c w h9 hlen hT
    have hs : w[s]? = some (mO 7 [.ref (s + 1), .ref (s + 4), .ref (s + 5), .int (nI np), .int tp, .int av, .int lg, .int pl, .int tk]) := hT.1.1
    have hrs : w[s + 5]? = some (mI 0 4 (sPass rs ex c)) := hT.1.2.2.2
    refine r_iload_n hC dX6_passRound_2 rfl (j := 2) rfl ?_
    refine r_aload_n hC dX6_passRound_3 rfl (j := 0) rfl ?_
    refine r_get hC gX6_passRound_4 hs (v := .int (nI np)) rfl ?_
    refine r_icmp_ge hC dX6_passRound_7 (tgt := 40) (by decide) (fun h => absurd h (lit_ge rfl (by omega : c < np) (by omega))) (fun _ => ?_)
    refine r_iload_n hC dX6_passRound_10 rfl (j := 2) rfl ?_
    refine r_iload_n hC dX6_passRound_11 rfl (j := 1) rfl ?_
    refine r_icmp_eq hC dX6_passRound_12 (tgt := 34) (by decide) (fun c12 => ?_) (fun c12 => ?_)
    · refine r_iinc hC dX6_passRound_34 (j := 2) rfl (v := nI (c + 1)) (nI_succ c).symm (by rw [hnl]; decide) (L' := [(2, .int (nI (c + 1))), (0, .ref s), (1, .int ex)]) rfl ?_
      refine r_goto hC dX6_passRound_37 (tgt := 2) (by decide) ?_
      refine r_locals [1, 2, 0] (L' := [(0, .ref s), (1, .int ex), (2, .int (nI (c + 1)))]) rfl ?_
      have e9 : sPass rs ex (c + 1) = sPass rs ex c := if_neg (fun q => q.1 c12)
      exact ih (c + 1) w (by omega) hlen (by rw [e9]; exact hT)
    · refine r_aload_n hC dX6_passRound_15 rfl (j := 0) rfl ?_
      refine r_get hC gX6_passRound_16 hs (v := .ref (s + 5)) rfl ?_
      refine r_iload_n hC dX6_passRound_19 rfl (j := 2) rfl ?_
      refine r_iald hC dX6_passRound_20 (j := c) hrs (mIx_nI (by omega) (by decide)) ?_
      refine r_if_le hC dX6_passRound_21 (tgt := 34) (by decide) (fun c21 => ?_) (fun c21 => ?_)
      · refine r_iinc hC dX6_passRound_34 (j := 2) rfl (v := nI (c + 1)) (nI_succ c).symm (by rw [hnl]; decide) (L' := [(2, .int (nI (c + 1))), (0, .ref s), (1, .int ex)]) rfl ?_
        refine r_goto hC dX6_passRound_37 (tgt := 2) (by decide) ?_
        refine r_locals [1, 2, 0] (L' := [(0, .ref s), (1, .int ex), (2, .int (nI (c + 1)))]) rfl ?_
        have e9 : sPass rs ex (c + 1) = sPass rs ex c := if_neg (fun q => q.2 c21)
        exact ih (c + 1) w (by omega) hlen (by rw [e9]; exact hT)
      · refine r_aload_n hC dX6_passRound_24 rfl (j := 0) rfl ?_
        refine r_get hC gX6_passRound_25 hs (v := .ref (s + 5)) rfl ?_
        refine r_iload_n hC dX6_passRound_28 rfl (j := 2) rfl ?_
        refine r_dup2 hC dX6_passRound_29 rfl rfl ?_
        refine r_iald hC dX6_passRound_30 (j := c) hrs (mIx_nI (by omega) (by decide)) ?_
        refine r_iconst hC dX6_passRound_31 (v := 1) (by decide) ?_
        refine r_isub hC dX6_passRound_32 ?_
        refine r_iast' hC dX6_passRound_33 (j := c) hrs (mIx_nI (by omega) (by decide)) (fun w_1 ew_1 => ?_)
        have hf1_s : w_1[s]? = some (mO 7 [.ref (s + 1), .ref (s + 4), .ref (s + 5), .int (nI np), .int tp, .int av, .int lg, .int pl, .int tk]) := by rw [ew_1, List.getElem?_set_ne (by omega)]; exact hs
        have hf1__s___5_ : w_1[(s + 5)]? = some (mI 0 4 (upd (sPass rs ex c) c (((sPass rs ex c) c) - 1))) := by rw [ew_1]; exact List.getElem?_set_self (lt_of_get hrs)
        refine r_iinc hC dX6_passRound_34 (j := 2) rfl (v := nI (c + 1)) (nI_succ c).symm (by rw [hnl]; decide) (L' := [(2, .int (nI (c + 1))), (0, .ref s), (1, .int ex)]) rfl ?_
        refine r_goto hC dX6_passRound_37 (tgt := 2) (by decide) ?_
        refine r_locals [1, 2, 0] (L' := [(0, .ref s), (1, .int ex), (2, .int (nI (c + 1)))]) rfl ?_
        have e9 : sPass rs ex (c + 1) = upd (sPass rs ex c) c (sPass rs ex c c - 1) := if_pos ⟨c12, c21⟩
        refine ih (c + 1) w_1 (by omega) (by rw [ew_1, List.length_set]; exact hlen) ?_
        rw [e9]
        refine ⟨⟨hf1_s, ?_, ?_, hf1__s___5_⟩, fun k hk => ?_⟩
        · obtain ⟨a1, a2, a3⟩ := hT.1.2.1
          exact ⟨by rw [ew_1, List.getElem?_set_ne (by omega)]; exact a1, by rw [ew_1, List.getElem?_set_ne (by omega)]; exact a2, by rw [ew_1, List.getElem?_set_ne (by omega)]; exact a3⟩
        · rw [ew_1, List.getElem?_set_ne (by omega)]
          exact hT.1.2.2.1
        · rw [ew_1, List.getElem?_set_ne (by omega)]
          exact hT.2 k hk
set_option maxRecDepth 100000 in
set_option maxHeartbeats 4000000 in
theorem sp_pass {d : Nat} {ex : Int32} {w : mW} {s : Nat} {f g : Nat → Int32} {sl op lo : Int32} {hd rs : Nat → Int32} {np : Nat} {tp av lg pl tk : Int32} (H0 : StAt w s ((f, g, sl, op, lo), hd, rs, np, tp, av, lg, pl, tk)) (hnp : np ≤ 4) : Sp d yX6_passRound cX6_passRound 3 none [.ref s, .int ex] w 0 0 (fun v w' => v = none ∧ StTo w s ((f, g, sl, op, lo), hd, sPass rs ex np, np, (tp, av, lg, pl, tk)) w') noX := by
  refine Sp.of (by decide +kernel) (Nat.le_of_ble_eq_true rfl) (fun X hC hnl hE hR hN => ?_)
  have hC : Cx X RX6 cX6_passRound d 0 0 := hC
  show Wp X 0 0 w [(0, .ref s), (1, .int ex)] [] 0
  refine r_iconst hC dX6_passRound_0 (v := 0) (by decide) ?_
  refine r_istore_n hC dX6_passRound_1 rfl (by rw [hnl]; decide) (L' := [(2, .int 0), (0, .ref s), (1, .int ex)]) rfl ?_
  refine r_locals [1, 2, 0] (L' := [(0, .ref s), (1, .int ex), (2, .int 0)]) rfl ?_
  refine pass_loop hnp hC hnl (fun w2 hlen2 hT2 => ?_) np 0 w (Nat.zero_add np) rfl (StTo.rfl H0)
  have hs2 : w2[s]? = some (mO 7 [.ref (s + 1), .ref (s + 4), .ref (s + 5), .int (nI np), .int tp, .int av, .int lg, .int pl, .int tk]) := hT2.1.1
  refine r_iload_n hC dX6_passRound_2 rfl (j := 2) rfl ?_
  refine r_aload_n hC dX6_passRound_3 rfl (j := 0) rfl ?_
  refine r_get hC gX6_passRound_4 hs2 (v := .int (nI np)) rfl ?_
  refine r_icmp_ge hC dX6_passRound_7 (tgt := 40) (by decide) (fun _ => ?_) (fun h => absurd (lit_le rfl (Nat.le_refl np) (by omega)) h)
  refine r_vret hC hE hR dX6_passRound_40 (by omega) (by omega) (hlen2) ?_
  exact ⟨rfl, hT2⟩
set_option maxRecDepth 100000 in
set_option maxHeartbeats 4000000 in
theorem cr_it {X : mC} {d : Nat} {c : Nat} {w : mW} {s : Nat} {f g : Nat → Int32} {sl op lo : Int32} {hd rs : Nat → Int32} {np : Nat} {tp av lg pl tk : Int32} (hC : Cx X RX6 cX6_countResting d 0 0) (hnl : mNL X = 3) (H0 : StAt w s ((f, g, sl, op, lo), hd, rs, np, tp, av, lg, pl, tk)) (hnp : np ≤ 4) (hc : c < np) (kk : Wp X 0 0 w [(0, .ref s), (1, .int (hCnt (fun j => !decide (rs j ≤ 0)) (c + 1))), (2, .int (nI (c + 1)))] [] 4) : Wp X 0 0 w [(0, .ref s), (1, .int (hCnt (fun j => !decide (rs j ≤ 0)) c)), (2, .int (nI c))] [] 4 := by
  have hs : w[s]? = some (mO 7 [.ref (s + 1), .ref (s + 4), .ref (s + 5), .int (nI np), .int tp, .int av, .int lg, .int pl, .int tk]) := H0.1
  have H : HillAt w (s + 1) (s + 2) (s + 3) (f, g, sl, op, lo) := H0.2.1
  have hh : w[s + 1]? = some (mO 6 [.ref (s + 2), .ref (s + 3), .int sl, .int op, .int lo]) := H.1
  have ha : w[s + 2]? = some (mI 0 26 f) := H.2.1
  have hb : w[s + 3]? = some (mI 0 25 g) := H.2.2
  have hhd : w[s + 4]? = some (mI 0 4 hd) := H0.2.2.1
  have hrs : w[s + 5]? = some (mI 0 4 rs) := H0.2.2.2
  refine r_iload_n hC dX6_countResting_4 rfl (j := 2) rfl ?_
  refine r_aload_n hC dX6_countResting_5 rfl (j := 0) rfl ?_
  refine r_get hC gX6_countResting_6 hs (v := .int (nI np)) rfl ?_
  refine r_icmp_ge hC dX6_countResting_9 (tgt := 30) (by decide) (fun h => absurd h (lit_ge rfl hc (by omega))) (fun _ => ?_)
  refine r_aload_n hC dX6_countResting_12 rfl (j := 0) rfl ?_
  refine r_get hC gX6_countResting_13 hs (v := .ref (s + 5)) rfl ?_
  refine r_iload_n hC dX6_countResting_16 rfl (j := 2) rfl ?_
  refine r_iald hC dX6_countResting_17 (j := c) hrs (mIx_nI (by omega) (by decide)) ?_
  refine r_if_le hC dX6_countResting_18 (tgt := 24) (by decide) (fun c18 => ?_) (fun c18 => ?_)
  · refine r_iinc hC dX6_countResting_24 (j := 2) rfl (v := nI (c + 1)) (nI_succ c).symm (by rw [hnl]; decide) (L' := [(2, .int (nI (c + 1))), (0, .ref s), (1, .int (hCnt (fun j => !decide (rs j ≤ 0)) c))]) rfl ?_
    refine r_goto hC dX6_countResting_27 (tgt := 4) (by decide) ?_
    refine r_locals [1, 2, 0] (L' := [(0, .ref s), (1, .int (hCnt (fun j => !decide (rs j ≤ 0)) c)), (2, .int (nI (c + 1)))]) rfl ?_
    have e9 : hCnt (fun j => !decide (rs j ≤ 0)) (c + 1) = hCnt (fun j => !decide (rs j ≤ 0)) c := if_neg (by simp [c18])
    rw [e9] at kk
    exact kk
  · refine r_iinc hC dX6_countResting_21 (j := 1) rfl (v := (hCnt (fun j => !decide (rs j ≤ 0)) c) + 1) rfl (by rw [hnl]; decide) (L' := [(1, .int ((hCnt (fun j => !decide (rs j ≤ 0)) c) + 1)), (0, .ref s), (2, .int (nI c))]) rfl ?_
    refine r_iinc hC dX6_countResting_24 (j := 2) rfl (v := nI (c + 1)) (nI_succ c).symm (by rw [hnl]; decide) (L' := [(2, .int (nI (c + 1))), (1, .int ((hCnt (fun j => !decide (rs j ≤ 0)) c) + 1)), (0, .ref s)]) rfl ?_
    refine r_goto hC dX6_countResting_27 (tgt := 4) (by decide) ?_
    refine r_locals [2, 1, 0] (L' := [(0, .ref s), (1, .int ((hCnt (fun j => !decide (rs j ≤ 0)) c) + 1)), (2, .int (nI (c + 1)))]) rfl ?_
    have e9 : hCnt (fun j => !decide (rs j ≤ 0)) (c + 1) = hCnt (fun j => !decide (rs j ≤ 0)) c + 1 := if_pos (by simp [c18])
    rw [e9] at kk
    exact kk
set_option maxRecDepth 100000 in
theorem cr_all {X : mC} {d : Nat} {w : mW} {s : Nat} {f g : Nat → Int32} {sl op lo : Int32} {hd rs : Nat → Int32} {np : Nat} {tp av lg pl tk : Int32} (hC : Cx X RX6 cX6_countResting d 0 0) (hnl : mNL X = 3) (H0 : StAt w s ((f, g, sl, op, lo), hd, rs, np, tp, av, lg, pl, tk)) (hnp : np ≤ 4)  (kk : Wp X 0 0 w [(0, .ref s), (1, .int (hCnt (fun j => !decide (rs j ≤ 0)) np)), (2, .int (nI np))] [] 4) : ∀ n c : Nat, c + n = np → Wp X 0 0 w [(0, .ref s), (1, .int (hCnt (fun j => !decide (rs j ≤ 0)) c)), (2, .int (nI c))] [] 4 := by
  intro n
  induction n with
  | zero =>
    intro c h9
    obtain rfl : c = np := by omega
    exact kk
  | succ n ih =>
    intro c h9
    exact cr_it hC hnl H0 hnp (by omega) (ih (c + 1) (by omega))
set_option maxRecDepth 100000 in
set_option maxHeartbeats 4000000 in
theorem sp_resting {d : Nat} {w : mW} {s : Nat} {f g : Nat → Int32} {sl op lo : Int32} {hd rs : Nat → Int32} {np : Nat} {tp av lg pl tk : Int32} (H0 : StAt w s ((f, g, sl, op, lo), hd, rs, np, tp, av, lg, pl, tk)) (hnp : np ≤ 4) : Sp d yX6_countResting cX6_countResting 3 (some .int) [.ref s] w 0 0 (fun v w' => v = some (.int (hCnt (fun j => !decide (rs j ≤ 0)) np)) ∧ w' = w) noX := by
  refine Sp.of (by decide +kernel) (Nat.le_of_ble_eq_true rfl) (fun X hC hnl hE hR hN => ?_)
  have hC : Cx X RX6 cX6_countResting d 0 0 := hC
  show Wp X 0 0 w [(0, .ref s)] [] 0
  have hs : w[s]? = some (mO 7 [.ref (s + 1), .ref (s + 4), .ref (s + 5), .int (nI np), .int tp, .int av, .int lg, .int pl, .int tk]) := H0.1
  have H : HillAt w (s + 1) (s + 2) (s + 3) (f, g, sl, op, lo) := H0.2.1
  have hh : w[s + 1]? = some (mO 6 [.ref (s + 2), .ref (s + 3), .int sl, .int op, .int lo]) := H.1
  have ha : w[s + 2]? = some (mI 0 26 f) := H.2.1
  have hb : w[s + 3]? = some (mI 0 25 g) := H.2.2
  have hhd : w[s + 4]? = some (mI 0 4 hd) := H0.2.2.1
  have hrs : w[s + 5]? = some (mI 0 4 rs) := H0.2.2.2
  refine r_iconst hC dX6_countResting_0 (v := 0) (by decide) ?_
  refine r_istore_n hC dX6_countResting_1 rfl (by rw [hnl]; decide) (L' := [(1, .int 0), (0, .ref s)]) rfl ?_
  refine r_iconst hC dX6_countResting_2 (v := 0) (by decide) ?_
  refine r_istore_n hC dX6_countResting_3 rfl (by rw [hnl]; decide) (L' := [(2, .int 0), (1, .int 0), (0, .ref s)]) rfl ?_
  refine r_locals [2, 1, 0] (L' := [(0, .ref s), (1, .int 0), (2, .int 0)]) rfl ?_
  refine cr_all hC hnl H0 hnp ?_ np 0 (Nat.zero_add np)
  refine r_iload_n hC dX6_countResting_4 rfl (j := 2) rfl ?_
  refine r_aload_n hC dX6_countResting_5 rfl (j := 0) rfl ?_
  refine r_get hC gX6_countResting_6 hs (v := .int (nI np)) rfl ?_
  refine r_icmp_ge hC dX6_countResting_9 (tgt := 30) (by decide) (fun _ => ?_) (fun h => absurd (lit_le rfl (Nat.le_refl np) (by omega)) h)
  refine r_iload_n hC dX6_countResting_30 rfl (j := 1) rfl ?_
  refine r_iret hC hE hR dX6_countResting_31 (by omega) (by omega) (rfl) ?_
  exact ⟨rfl, rfl⟩
def sScore (f g : Nat → Int32) (a : Nat) : Int32 := hSumIf (hOwnP f g (nI a)) f 25
def sDiff (f g hd : Nat → Int32) (a b : Nat) : Int32 := if sScore f g a - sScore f g b = 0 then hd a - hd b else sScore f g a - sScore f g b
def sAheadB (f g hd : Nat → Int32) (a b : Nat) : Bool := !decide (sDiff f g hd a b ≤ 0) || (decide (sDiff f g hd a b = 0) && decide (a < b))
set_option maxRecDepth 100000 in
set_option maxHeartbeats 4000000 in
theorem sp_isAhead {d a b : Nat} {w : mW} {s : Nat} {f g : Nat → Int32} {sl op lo : Int32} {hd rs : Nat → Int32} {np : Nat} {tp av lg pl tk : Int32} (H0 : StAt w s ((f, g, sl, op, lo), hd, rs, np, tp, av, lg, pl, tk)) (ha4 : a < 4) (hb4 : b < 4) : Sp (d + 2) yX6_isAhead cX6_isAhead 4 (some .boolean) [.ref s, .int (nI a), .int (nI b)] w 0 0 (fun v w' => v = some (.int (bI (sAheadB f g hd a b))) ∧ w' = w) noX := by
  refine Sp.of (by decide +kernel) (Nat.le_of_ble_eq_true rfl) (fun X hC hnl hE hR hN => ?_)
  have hC : Cx X RX6 cX6_isAhead (d + 2) 0 0 := hC
  show Wp X 0 0 w [(0, .ref s), (1, .int (nI a)), (2, .int (nI b))] [] 0
  have hs : w[s]? = some (mO 7 [.ref (s + 1), .ref (s + 4), .ref (s + 5), .int (nI np), .int tp, .int av, .int lg, .int pl, .int tk]) := H0.1
  have H : HillAt w (s + 1) (s + 2) (s + 3) (f, g, sl, op, lo) := H0.2.1
  have hh : w[s + 1]? = some (mO 6 [.ref (s + 2), .ref (s + 3), .int sl, .int op, .int lo]) := H.1
  have ha : w[s + 2]? = some (mI 0 26 f) := H.2.1
  have hb : w[s + 3]? = some (mI 0 25 g) := H.2.2
  have hhd : w[s + 4]? = some (mI 0 4 hd) := H0.2.2.1
  have hrs : w[s + 5]? = some (mI 0 4 rs) := H0.2.2.2
  refine r_aload_n hC dX6_isAhead_0 rfl (j := 0) rfl ?_
  refine r_get hC gX6_isAhead_1 hs (v := .ref (s + 1)) rfl ?_
  refine r_iload_n hC dX6_isAhead_4 rfl (j := 1) rfl ?_
  refine r_callV hC (vs := [.int (nI a)]) vX6_isAhead_5 (sp_sumOf (d := d) H) hh rfl rfl (by omega) (by omega) (by omega) (Nat.le_of_ble_eq_true rfl) (fun v_1 w_1 hP_1 hlen_1 => ?_) (fun _ _ h => h.elim)
  rw [hP_1.1, hP_1.2]
  show Wp X 0 0 w [(0, .ref s), (1, .int (nI a)), (2, .int (nI b))] [.int (sScore f g a)] 8
  refine r_aload_n hC dX6_isAhead_8 rfl (j := 0) rfl ?_
  refine r_get hC gX6_isAhead_9 hs (v := .ref (s + 1)) rfl ?_
  refine r_iload_n hC dX6_isAhead_12 rfl (j := 2) rfl ?_
  refine r_callV hC (vs := [.int (nI b)]) vX6_isAhead_13 (sp_sumOf (d := d) H) hh rfl rfl (by omega) (by omega) (by omega) (Nat.le_of_ble_eq_true rfl) (fun v_2 w_2 hP_2 hlen_2 => ?_) (fun _ _ h => h.elim)
  rw [hP_2.1, hP_2.2]
  show Wp X 0 0 w [(0, .ref s), (1, .int (nI a)), (2, .int (nI b))] [.int (sScore f g b), .int (sScore f g a)] 16
  refine r_isub hC dX6_isAhead_16 ?_
  refine r_istore_n hC dX6_isAhead_17 rfl (by rw [hnl]; decide) (L' := [(3, .int ((sScore f g a) - (sScore f g b))), (0, .ref s), (1, .int (nI a)), (2, .int (nI b))]) rfl ?_
  refine r_iload_n hC dX6_isAhead_18 rfl (j := 0) rfl ?_
  refine r_if_ne hC dX6_isAhead_19 (tgt := 36) (by decide) (fun c19 => ?_) (fun c19 => ?_)
  · refine r_iload_n hC dX6_isAhead_36 rfl (j := 0) rfl ?_
    refine r_if_gt hC dX6_isAhead_37 (tgt := 49) (by decide) (fun c37 => ?_) (fun c37 => ?_)
    · refine r_iconst hC dX6_isAhead_49 (v := 1) (by decide) ?_
      refine r_goto hC dX6_isAhead_50 (tgt := 54) (by decide) ?_
      refine r_nret hC hE hR dX6_isAhead_54 (by decide) (by omega) (by omega) (rfl) ?_
      have g37 : ¬ (sScore f g a - sScore f g b) ≤ 0 := Int32.not_le.mpr c37
      have e9 : sDiff f g hd a b = sScore f g a - sScore f g b := if_neg c19
      exact ⟨by rw [show bI (sAheadB f g hd a b) = 1 from by unfold sAheadB; rw [e9]; simp [bI, g37]], rfl⟩
    · refine r_iload_n hC dX6_isAhead_40 rfl (j := 0) rfl ?_
      refine r_if_ne hC dX6_isAhead_41 (tgt := 53) (by decide) (fun c41 => ?_) (fun c41 => ?_)
      · refine r_iconst hC dX6_isAhead_53 (v := 0) (by decide) ?_
        refine r_nret hC hE hR dX6_isAhead_54 (by decide) (by omega) (by omega) (rfl) ?_
        have g37 : (sScore f g a - sScore f g b) ≤ 0 := Int32.not_lt.mp c37
        have e9 : sDiff f g hd a b = sScore f g a - sScore f g b := if_neg c19
        exact ⟨by rw [show bI (sAheadB f g hd a b) = 0 from by unfold sAheadB; rw [e9]; simp [bI, c41, g37]], rfl⟩
      · refine r_iload_n hC dX6_isAhead_44 rfl (j := 2) rfl ?_
        refine r_iload_n hC dX6_isAhead_45 rfl (j := 3) rfl ?_
        refine r_icmp_ge hC dX6_isAhead_46 (tgt := 53) (by decide) (fun c46 => ?_) (fun c46 => ?_)
        · refine r_iconst hC dX6_isAhead_53 (v := 0) (by decide) ?_
          refine r_nret hC hE hR dX6_isAhead_54 (by decide) (by omega) (by omega) (rfl) ?_
          have g37 : (sScore f g a - sScore f g b) ≤ 0 := Int32.not_lt.mp c37
          have e9 : sDiff f g hd a b = sScore f g a - sScore f g b := if_neg c19
          have h46 : ¬ a < b := fun q => absurd c46 (nI_ge q (by omega))
          exact ⟨by rw [show bI (sAheadB f g hd a b) = 0 from by unfold sAheadB; rw [e9]; simp [bI, c41, h46, g37]], rfl⟩
        · refine r_iconst hC dX6_isAhead_49 (v := 1) (by decide) ?_
          refine r_goto hC dX6_isAhead_50 (tgt := 54) (by decide) ?_
          refine r_nret hC hE hR dX6_isAhead_54 (by decide) (by omega) (by omega) (rfl) ?_
          have g37 : (sScore f g a - sScore f g b) ≤ 0 := Int32.not_lt.mp c37
          have e9 : sDiff f g hd a b = sScore f g a - sScore f g b := if_neg c19
          have h46 : a < b := Nat.lt_of_not_le (fun q => c46 (nI_le q (by omega)))
          exact ⟨by rw [show bI (sAheadB f g hd a b) = 1 from by unfold sAheadB; rw [e9]; simp [bI, c41, h46, g37]], rfl⟩
  · refine r_aload_n hC dX6_isAhead_22 rfl (j := 1) rfl ?_
    refine r_get hC gX6_isAhead_23 hs (v := .ref (s + 4)) rfl ?_
    refine r_iload_n hC dX6_isAhead_26 rfl (j := 2) rfl ?_
    refine r_iald hC dX6_isAhead_27 (j := a) hhd (mIx_nI (by omega) (by decide)) ?_
    refine r_aload_n hC dX6_isAhead_28 rfl (j := 1) rfl ?_
    refine r_get hC gX6_isAhead_29 hs (v := .ref (s + 4)) rfl ?_
    refine r_iload_n hC dX6_isAhead_32 rfl (j := 3) rfl ?_
    refine r_iald hC dX6_isAhead_33 (j := b) hhd (mIx_nI (by omega) (by decide)) ?_
    refine r_isub hC dX6_isAhead_34 ?_
    refine r_istore_n hC dX6_isAhead_35 rfl (by rw [hnl]; decide) (L' := [(3, .int ((hd a) - (hd b))), (0, .ref s), (1, .int (nI a)), (2, .int (nI b))]) rfl ?_
    refine r_iload_n hC dX6_isAhead_36 rfl (j := 0) rfl ?_
    refine r_if_gt hC dX6_isAhead_37 (tgt := 49) (by decide) (fun c37 => ?_) (fun c37 => ?_)
    · refine r_iconst hC dX6_isAhead_49 (v := 1) (by decide) ?_
      refine r_goto hC dX6_isAhead_50 (tgt := 54) (by decide) ?_
      refine r_nret hC hE hR dX6_isAhead_54 (by decide) (by omega) (by omega) (rfl) ?_
      have g37 : ¬ (hd a - hd b) ≤ 0 := Int32.not_le.mpr c37
      have e9 : sDiff f g hd a b = hd a - hd b := if_pos c19
      exact ⟨by rw [show bI (sAheadB f g hd a b) = 1 from by unfold sAheadB; rw [e9]; simp [bI, g37]], rfl⟩
    · refine r_iload_n hC dX6_isAhead_40 rfl (j := 0) rfl ?_
      refine r_if_ne hC dX6_isAhead_41 (tgt := 53) (by decide) (fun c41 => ?_) (fun c41 => ?_)
      · refine r_iconst hC dX6_isAhead_53 (v := 0) (by decide) ?_
        refine r_nret hC hE hR dX6_isAhead_54 (by decide) (by omega) (by omega) (rfl) ?_
        have g37 : (hd a - hd b) ≤ 0 := Int32.not_lt.mp c37
        have e9 : sDiff f g hd a b = hd a - hd b := if_pos c19
        exact ⟨by rw [show bI (sAheadB f g hd a b) = 0 from by unfold sAheadB; rw [e9]; simp [bI, c41, g37]], rfl⟩
      · refine r_iload_n hC dX6_isAhead_44 rfl (j := 2) rfl ?_
        refine r_iload_n hC dX6_isAhead_45 rfl (j := 3) rfl ?_
        refine r_icmp_ge hC dX6_isAhead_46 (tgt := 53) (by decide) (fun c46 => ?_) (fun c46 => ?_)
        · refine r_iconst hC dX6_isAhead_53 (v := 0) (by decide) ?_
          refine r_nret hC hE hR dX6_isAhead_54 (by decide) (by omega) (by omega) (rfl) ?_
          have g37 : (hd a - hd b) ≤ 0 := Int32.not_lt.mp c37
          have e9 : sDiff f g hd a b = hd a - hd b := if_pos c19
          have h46 : ¬ a < b := fun q => absurd c46 (nI_ge q (by omega))
          exact ⟨by rw [show bI (sAheadB f g hd a b) = 0 from by unfold sAheadB; rw [e9]; simp [bI, c41, h46, g37]], rfl⟩
        · refine r_iconst hC dX6_isAhead_49 (v := 1) (by decide) ?_
          refine r_goto hC dX6_isAhead_50 (tgt := 54) (by decide) ?_
          refine r_nret hC hE hR dX6_isAhead_54 (by decide) (by omega) (by omega) (rfl) ?_
          have g37 : (hd a - hd b) ≤ 0 := Int32.not_lt.mp c37
          have e9 : sDiff f g hd a b = hd a - hd b := if_pos c19
          have h46 : a < b := Nat.lt_of_not_le (fun q => c46 (nI_le q (by omega)))
          exact ⟨by rw [show bI (sAheadB f g hd a b) = 1 from by unfold sAheadB; rw [e9]; simp [bI, c41, h46, g37]], rfl⟩
set_option maxRecDepth 100000 in
set_option maxHeartbeats 4000000 in
theorem cpl_it {X : mC} {d : Nat} {c : Nat} {k : Nat} {w : mW} {s : Nat} {f g : Nat → Int32} {sl op lo : Int32} {hd rs : Nat → Int32} {np : Nat} {tp av lg pl tk : Int32} (hC : Cx X RX6 cX6_countPlayersAhead (d + 3) 0 0) (hnl : mNL X = 4) (H0 : StAt w s ((f, g, sl, op, lo), hd, rs, np, tp, av, lg, pl, tk)) (hnp : np ≤ 4) (hk : k < 4) (hc : c < np) (kk : Wp X 0 0 w [(0, .ref s), (1, .int (nI k)), (2, .int (hCnt (fun j => sAheadB f g hd j k) (c + 1))), (3, .int (nI (c + 1)))] [] 4) : Wp X 0 0 w [(0, .ref s), (1, .int (nI k)), (2, .int (hCnt (fun j => sAheadB f g hd j k) c)), (3, .int (nI c))] [] 4 := by
  have hs : w[s]? = some (mO 7 [.ref (s + 1), .ref (s + 4), .ref (s + 5), .int (nI np), .int tp, .int av, .int lg, .int pl, .int tk]) := H0.1
  have H : HillAt w (s + 1) (s + 2) (s + 3) (f, g, sl, op, lo) := H0.2.1
  have hh : w[s + 1]? = some (mO 6 [.ref (s + 2), .ref (s + 3), .int sl, .int op, .int lo]) := H.1
  have ha : w[s + 2]? = some (mI 0 26 f) := H.2.1
  have hb : w[s + 3]? = some (mI 0 25 g) := H.2.2
  have hhd : w[s + 4]? = some (mI 0 4 hd) := H0.2.2.1
  have hrs : w[s + 5]? = some (mI 0 4 rs) := H0.2.2.2
  refine r_iload_n hC dX6_countPlayersAhead_4 rfl (j := 3) rfl ?_
  refine r_aload_n hC dX6_countPlayersAhead_5 rfl (j := 0) rfl ?_
  refine r_get hC gX6_countPlayersAhead_6 hs (v := .int (nI np)) rfl ?_
  refine r_icmp_ge hC dX6_countPlayersAhead_9 (tgt := 30) (by decide) (fun h => absurd h (lit_ge rfl hc (by omega))) (fun _ => ?_)
  refine r_aload_n hC dX6_countPlayersAhead_12 rfl (j := 0) rfl ?_
  refine r_iload_n hC dX6_countPlayersAhead_13 rfl (j := 3) rfl ?_
  refine r_iload_n hC dX6_countPlayersAhead_14 rfl (j := 1) rfl ?_
  refine r_callV hC (vs := [.int (nI c), .int (nI k)]) vX6_countPlayersAhead_15 (sp_isAhead (d := d) H0 (by omega : c < 4) hk) hs rfl rfl (by omega) (by omega) (by omega) (Nat.le_of_ble_eq_true rfl) (fun v_1 w_1 hP_1 hlen_1 => ?_) (fun _ _ h => h.elim)
  rw [hP_1.1, hP_1.2]
  show Wp X 0 0 w [(0, .ref s), (1, .int (nI k)), (2, .int (hCnt (fun j => sAheadB f g hd j k) c)), (3, .int (nI c))] [.int (bI (sAheadB f g hd c k))] 18
  refine r_if_eq hC dX6_countPlayersAhead_18 (tgt := 24) (by decide) (fun c18 => ?_) (fun c18 => ?_)
  · refine r_iinc hC dX6_countPlayersAhead_24 (j := 3) rfl (v := nI (c + 1)) (nI_succ c).symm (by rw [hnl]; decide) (L' := [(3, .int (nI (c + 1))), (0, .ref s), (1, .int (nI k)), (2, .int (hCnt (fun j => sAheadB f g hd j k) c))]) rfl ?_
    refine r_goto hC dX6_countPlayersAhead_27 (tgt := 4) (by decide) ?_
    refine r_locals [1, 2, 3, 0] (L' := [(0, .ref s), (1, .int (nI k)), (2, .int (hCnt (fun j => sAheadB f g hd j k) c)), (3, .int (nI (c + 1)))]) rfl ?_
    have e9 : hCnt (fun j => sAheadB f g hd j k) (c + 1) = hCnt (fun j => sAheadB f g hd j k) c := if_neg (fun q => by have q : sAheadB f g hd c k = true := q; rw [bI_0.mp c18] at q; cases q)
    rw [e9] at kk
    exact kk
  · refine r_iinc hC dX6_countPlayersAhead_21 (j := 2) rfl (v := (hCnt (fun j => sAheadB f g hd j k) c) + 1) rfl (by rw [hnl]; decide) (L' := [(2, .int ((hCnt (fun j => sAheadB f g hd j k) c) + 1)), (0, .ref s), (1, .int (nI k)), (3, .int (nI c))]) rfl ?_
    refine r_iinc hC dX6_countPlayersAhead_24 (j := 3) rfl (v := nI (c + 1)) (nI_succ c).symm (by rw [hnl]; decide) (L' := [(3, .int (nI (c + 1))), (2, .int ((hCnt (fun j => sAheadB f g hd j k) c) + 1)), (0, .ref s), (1, .int (nI k))]) rfl ?_
    refine r_goto hC dX6_countPlayersAhead_27 (tgt := 4) (by decide) ?_
    refine r_locals [2, 3, 1, 0] (L' := [(0, .ref s), (1, .int (nI k)), (2, .int ((hCnt (fun j => sAheadB f g hd j k) c) + 1)), (3, .int (nI (c + 1)))]) rfl ?_
    have e9 : hCnt (fun j => sAheadB f g hd j k) (c + 1) = hCnt (fun j => sAheadB f g hd j k) c + 1 := if_pos (bI_ne.mp c18)
    rw [e9] at kk
    exact kk
set_option maxRecDepth 100000 in
theorem cpl_all {X : mC} {d : Nat} {k : Nat} {w : mW} {s : Nat} {f g : Nat → Int32} {sl op lo : Int32} {hd rs : Nat → Int32} {np : Nat} {tp av lg pl tk : Int32} (hC : Cx X RX6 cX6_countPlayersAhead (d + 3) 0 0) (hnl : mNL X = 4) (H0 : StAt w s ((f, g, sl, op, lo), hd, rs, np, tp, av, lg, pl, tk)) (hnp : np ≤ 4) (hk : k < 4)  (kk : Wp X 0 0 w [(0, .ref s), (1, .int (nI k)), (2, .int (hCnt (fun j => sAheadB f g hd j k) np)), (3, .int (nI np))] [] 4) : ∀ n c : Nat, c + n = np → Wp X 0 0 w [(0, .ref s), (1, .int (nI k)), (2, .int (hCnt (fun j => sAheadB f g hd j k) c)), (3, .int (nI c))] [] 4 := by
  intro n
  induction n with
  | zero =>
    intro c h9
    obtain rfl : c = np := by omega
    exact kk
  | succ n ih =>
    intro c h9
    exact cpl_it hC hnl H0 hnp hk (by omega) (ih (c + 1) (by omega))
set_option maxRecDepth 100000 in
set_option maxHeartbeats 4000000 in
theorem sp_plAhead {d k : Nat} {w : mW} {s : Nat} {f g : Nat → Int32} {sl op lo : Int32} {hd rs : Nat → Int32} {np : Nat} {tp av lg pl tk : Int32} (H0 : StAt w s ((f, g, sl, op, lo), hd, rs, np, tp, av, lg, pl, tk)) (hnp : np ≤ 4) (hk : k < 4) : Sp (d + 3) yX6_countPlayersAhead cX6_countPlayersAhead 4 (some .int) [.ref s, .int (nI k)] w 0 0 (fun v w' => v = some (.int (hCnt (fun j => sAheadB f g hd j k) np)) ∧ w' = w) noX := by
  refine Sp.of (by decide +kernel) (Nat.le_of_ble_eq_true rfl) (fun X hC hnl hE hR hN => ?_)
  have hC : Cx X RX6 cX6_countPlayersAhead (d + 3) 0 0 := hC
  show Wp X 0 0 w [(0, .ref s), (1, .int (nI k))] [] 0
  have hs : w[s]? = some (mO 7 [.ref (s + 1), .ref (s + 4), .ref (s + 5), .int (nI np), .int tp, .int av, .int lg, .int pl, .int tk]) := H0.1
  have H : HillAt w (s + 1) (s + 2) (s + 3) (f, g, sl, op, lo) := H0.2.1
  have hh : w[s + 1]? = some (mO 6 [.ref (s + 2), .ref (s + 3), .int sl, .int op, .int lo]) := H.1
  have ha : w[s + 2]? = some (mI 0 26 f) := H.2.1
  have hb : w[s + 3]? = some (mI 0 25 g) := H.2.2
  have hhd : w[s + 4]? = some (mI 0 4 hd) := H0.2.2.1
  have hrs : w[s + 5]? = some (mI 0 4 rs) := H0.2.2.2
  refine r_iconst hC dX6_countPlayersAhead_0 (v := 0) (by decide) ?_
  refine r_istore_n hC dX6_countPlayersAhead_1 rfl (by rw [hnl]; decide) (L' := [(2, .int 0), (0, .ref s), (1, .int (nI k))]) rfl ?_
  refine r_iconst hC dX6_countPlayersAhead_2 (v := 0) (by decide) ?_
  refine r_istore_n hC dX6_countPlayersAhead_3 rfl (by rw [hnl]; decide) (L' := [(3, .int 0), (2, .int 0), (0, .ref s), (1, .int (nI k))]) rfl ?_
  refine r_locals [2, 3, 1, 0] (L' := [(0, .ref s), (1, .int (nI k)), (2, .int 0), (3, .int 0)]) rfl ?_
  refine cpl_all hC hnl H0 hnp hk ?_ np 0 (Nat.zero_add np)
  refine r_iload_n hC dX6_countPlayersAhead_4 rfl (j := 3) rfl ?_
  refine r_aload_n hC dX6_countPlayersAhead_5 rfl (j := 0) rfl ?_
  refine r_get hC gX6_countPlayersAhead_6 hs (v := .int (nI np)) rfl ?_
  refine r_icmp_ge hC dX6_countPlayersAhead_9 (tgt := 30) (by decide) (fun _ => ?_) (fun h => absurd (lit_le rfl (Nat.le_refl np) (by omega)) h)
  refine r_iload_n hC dX6_countPlayersAhead_30 rfl (j := 2) rfl ?_
  refine r_iret hC hE hR dX6_countPlayersAhead_31 (by omega) (by omega) (rfl) ?_
  exact ⟨rfl, rfl⟩
end ST2
