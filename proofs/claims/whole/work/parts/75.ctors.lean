section CT
/-- what a walk in a maker of things stands on -/
def NB (X : mC) (own : String) (cc : ByteArray) (d mc ms nl n0 : Nat) (P : Option Value → mW → Prop) (ret : Option FieldType) (nm : String) : Prop := Cx X own cc d mc ms ∧ mNL X = nl ∧ mEndN X n0 mc ms P ∧ mRet X ret ∧ mNoTab X ∧ mNam X nm
theorem NB.mk {X : mC} {own : String} {cc : ByteArray} {d mc ms nl n0 : Nat} {P : Option Value → mW → Prop} {ret : Option FieldType} {nm : String} (h1 : Cx X own cc d mc ms) (h2 : mNL X = nl) (h3 : mEndN X n0 mc ms P) (h4 : mRet X ret) (h5 : mNoTab X) (h6 : mNam X nm) : NB X own cc d mc ms nl n0 P ret nm := ⟨h1, h2, h3, h4, h5, h6⟩
theorem NB.tie {X X1 : mC} {own : String} {cc : ByteArray} {d mc ms nl n0 n : Nat} {P : Option Value → mW → Prop} {ret : Option FieldType} {nm : String} (h : NB X own cc d mc ms nl n0 P ret nm) (hT : mTie n X X1) (hn : n0 ≤ n) : NB X1 own cc d mc ms nl n0 P ret nm :=
  ⟨Cx.tie hT h.1, (mNL.tie hT).trans h.2.1, mEndN.tie hT hn h.2.2.1, mRet.tie hT h.2.2.2.1, mNoTab.tie hT h.2.2.2.2.1, mNam.tie hT h.2.2.2.2.2⟩
/-- the world has grown by n things behind the thing at s, the last of w; what stood before it is as it was -/
def Gn (w w' : mW) (s n : Nat) : Prop := w'.length = w.length + n ∧ mLowW w'.length w' ∧ ∀ k, k < s → w'[k]? = w[k]?
theorem n_putI' {X : mC} {own : String} {cc : ByteArray} {d mc ms k n pc : Nat} {w : mW} {L : List (Nat × Value)} {st : List Value} (hC : Cx X own cc d mc ms) (hNm : mNam X "<init>") {ci j a : Nat} {fs : List Value} {v : Value} {ty : FieldType} (hf : mPutI own cc pc ci j ty) (hw : w[a]? = some (mO ci fs)) (hl9 : j < fs.length) (hn : ∀ ad, narrow ty (trV ad v) = trV ad v) (hfit : ∀ ad, fits ty (trV ad v) = true) (kk : ∀ w1, w1 = w.set a (mO ci (fs.set j v)) → Wp X k n w1 L st (pc + 3)) : Wp X k n w L (v :: .ref a :: st) pc := n_putI hC hNm hf hw hl9 hn hfit (kk _ rfl)
theorem Wp.wid {X : mC} {k n k' n' pc : Nat} {w : mW} {L : List (Nat × Value)} {st : List Value} (h1 : k ≤ k') (h2 : n ≤ n') (kk : Wp X k' n' w L st pc) : Wp X k n w L st pc := by
  obtain ⟨p, l, e, R, s, m, args, below, meth, c, Q, D, dt, ad, A, nL⟩ := X
  intro ws H locs ls hp hP hD hS hl
  exact W.widen h1 h2 (kk ws H locs ls hp hP hD hS hl)
def hill0 : hv := (fun _ => 0, fun _ => -1, 3, 0, 0)
def sv0 : sv := (hill0, fun _ => 0, fun _ => 0, 0, 0, 0, 0, 0, 0)
theorem HillAt.mono {w w' : mW} {h a b : Nat} {x : hv} (H : HillAt w h a b x) (e1 : w'[h]? = w[h]?) (e2 : w'[a]? = w[a]?) (e3 : w'[b]? = w[b]?) : HillAt w' h a b x := ⟨e1.trans H.1, e2.trans H.2.1, e3.trans H.2.2⟩
theorem StAt.mono {w w' : mW} {s : Nat} {y : sv} (H : StAt w s y) (h : ∀ k, s ≤ k → k ≤ s + 5 → w'[k]? = w[k]?) : StAt w' s y := ⟨(h _ (by omega) (by omega)).trans H.1, H.2.1.mono (h _ (by omega) (by omega)) (h _ (by omega) (by omega)) (h _ (by omega) (by omega)), (h _ (by omega) (by omega)).trans H.2.2.1, (h _ (by omega) (by omega)).trans H.2.2.2⟩
theorem TrAt.mono {w w' : mW} {t : Nat} {x : hv} {q : Nat → Int32} {n : Nat} (H : TrAt w t x q n) (h : ∀ k, t ≤ k → k ≤ t + 4 → w'[k]? = w[k]?) : TrAt w' t x q n := ⟨(h _ (by omega) (by omega)).trans H.1, H.2.1.mono (h _ (by omega) (by omega)) (h _ (by omega) (by omega)) (h _ (by omega) (by omega)), (h _ (by omega) (by omega)).trans H.2.2⟩
/-- the commands that a text's reader fills: c of them -/
def cmF (t c : Nat) : Nat → Option Nat := fun i => if i < c then some (t + 3 + i) else none
def cmC (c : cmdT) : mE := mO 4 [.ref (1000020 + c.1), .int c.2.1, .int c.2.2.1, .int c.2.2.2]
def TxAt (w : mW) (t : Nat) (tx : List Nat) (cn ps : Int32) (cs : Nat → cmdT) : Prop := w[t]? = some (mO 5 [.ref (t + 1), .ref (t + 2), .int cn, .int ps]) ∧ w[t + 1]? = some (mT tx) ∧ w[t + 2]? = some (.inl (4, 12, .inr (.inr (.inr (.inr (cmF t 12)))))) ∧ ∀ i, i < 12 → w[t + 3 + i]? = some (cmC (cs i))
theorem TxAt.mono {w w' : mW} {t : Nat} {tx : List Nat} {cn ps : Int32} {cs : Nat → cmdT} (H : TxAt w t tx cn ps cs) (h : ∀ k, t ≤ k → k ≤ t + 14 → w'[k]? = w[k]?) : TxAt w' t tx cn ps cs := ⟨(h _ (by omega) (by omega)).trans H.1, (h _ (by omega) (by omega)).trans H.2.1, (h _ (by omega) (by omega)).trans H.2.2.1, fun i hi => (h _ (by omega) (by omega)).trans (H.2.2.2 i hi)⟩
theorem st_init' {d k : Nat} {w : mW} (hl_0 : w.length = k + 1) (hk : w[k]? = some (mO 1 [.null, .int 0, .int 0, .int 0])) (hw : mLowW w.length w) (hmax : k < 950000) : SpN (d + 1) yJ4_init_da8c8 cJ4_init_da8c8 1 none [.ref k] w 1 16 (fun v w9 => v = none ∧ Gn w w9 k 0 ∧ w9[k]? = some (mT [])) :=
  (st_init (d := d) hk hw (by omega)).imp (fun v w' h => by
    obtain ⟨rfl, rfl⟩ := h
    exact ⟨rfl, ⟨List.length_set, by rw [List.length_set]; exact hw.set trivial, fun i hi => List.getElem?_set_ne (by omega)⟩, List.getElem?_set_self (lt_of_get hk)⟩)
/-- owners: the first c are nobody -/
def ownF (c j : Nat) : Int32 := if j < c then -1 else 0
theorem ownF_upd {c : Nat} : upd (ownF c) c (-1) = ownF (c + 1) := by
  funext j
  by_cases h : j = c
  · subst h
    rw [pk_us]
    exact (if_pos (Nat.lt_succ_self j)).symm
  · rw [pk_un h]
    unfold ownF
    by_cases q : j < c
    · rw [if_pos q, if_pos (by omega)]
    · rw [if_neg q, if_neg (by omega)]
set_option maxRecDepth 100000 in
set_option maxHeartbeats 4000000 in
theorem hi_all {X : mC} {d mc ms k n h b : Nat} {a : Value} {w0 : mW} {sl : Int32} (hC : Cx X RX4 cX4_init d mc ms) (hnl : mNL X = 2) (hh : w0[h]? = some (mO 6 [a, .ref b, .int sl, .int 0, .int 0])) (hbl : b < w0.length) (hhb : h ≠ b) (kk : ∀ w', w' = w0.set b (mI 0 25 (ownF 25)) → Wp X k n w' [(0, .ref h), (1, .int (nI 25))] [] 27) : ∀ (i9 c : Nat) (w : mW), c + i9 = 25 → w = w0.set b (mI 0 25 (ownF c)) → Wp X k n w [(0, .ref h), (1, .int (nI c))] [] 27 := by
  intro i9
  induction i9 with
  | zero =>
    intro c w h9 e9
    obtain rfl : c = 25 := by omega
    exact kk w e9
  | succ i9 ih =>
    intro c w h9 e9
    have hc : c < 25 := by omega
    have hh1 : w[h]? = some (mO 6 [a, .ref b, .int sl, .int 0, .int 0]) := by rw [e9, List.getElem?_set_ne (Ne.symm hhb)]; exact hh
    have hb1 : w[b]? = some (mI 0 25 (ownF c)) := by rw [e9]; exact List.getElem?_set_self hbl
    refine r_iload_n hC dX4_init_27 rfl (j := 1) rfl ?_
    refine r_bipush hC dX4_init_28 (v := 25) (by decide) ?_
    refine r_icmp_ge hC dX4_init_30 (tgt := 46) (by decide) (fun h => absurd h (lit_ge rfl hc (by decide))) (fun _ => ?_)
    refine r_aload_n hC dX4_init_33 rfl (j := 0) rfl ?_
    refine r_get hC gX4_init_34 hh1 (v := .ref b) rfl ?_
    refine r_iload_n hC dX4_init_37 rfl (j := 1) rfl ?_
    refine r_iconst hC dX4_init_38 (v := (-1)) (by decide) ?_
    refine r_iast' hC dX4_init_39 (j := c) hb1 (mIx_nI hc (by decide)) (fun w_1 ew_1 => ?_)
    refine r_iinc hC dX4_init_40 (j := 1) rfl (v := nI (c + 1)) (nI_succ c).symm (by rw [hnl]; decide) (L' := [(1, .int (nI (c + 1))), (0, .ref h)]) rfl ?_
    refine r_goto hC dX4_init_43 (tgt := 27) (by decide) ?_
    refine r_locals [1, 0] (L' := [(0, .ref h), (1, .int (nI (c + 1)))]) rfl ?_
    exact ih (c + 1) w_1 (by omega) (by rw [ew_1, ownF_upd, e9, List.set_set])
theorem ownF_0 : ownF 0 = (fun _ => 0) := funext fun j => if_neg (Nat.not_lt_zero j)
theorem ownF_25 : ∀ j, j < 25 → (fun _ => -1 : Nat → Int32) j = ownF 25 j := fun j hj => (if_pos hj).symm
set_option maxRecDepth 100000 in
set_option maxHeartbeats 4000000 in
theorem cn_hill {d : Nat} {w : mW} {s : Nat}  (hl_0 : w.length = s + 1) (hk : w[s]? = some (mO 6 [.null, .null, .int 0, .int 0, .int 0])) (hw_0 : mLowW w.length w) (hmax : s < 950000)  : SpN d yX4_init cX4_init 2 none [.ref s] w 2 51 (fun v w9 => v = none ∧ Gn w w9 s 2 ∧ HillAt w9 s (s + 1) (s + 2) hill0) := by
  refine SpN.of (by decide +kernel) (Nat.le_of_ble_eq_true rfl) (fun X hC hnl hE hR hN hNm => ?_)
  have hC : Cx X RX4 cX4_init d 2 51 := hC
  have hB := NB.mk hC hnl hE hR hN hNm
  show Wp X 0 0 w [(0, .ref s)] [] 0
  obtain ⟨hC, hnl, hE, hR, hN, hNm⟩ := id hB
  refine r_aload_n hC dX4_init_0 rfl (j := 0) rfl ?_
  refine r_objI hC oX4_init_1 (Nat.le_of_ble_eq_true rfl) ?_
  refine r_aload_n hC dX4_init_4 rfl (j := 0) rfl ?_
  refine r_bipush hC dX4_init_5 (v := 26) (by decide) ?_
  refine n_newa hC (atype := .int) (ty := .int) (t := 0) (N := 26) (a0 := (26, .inl (fun _ => 0))) ac_int rfl (fun _ => rfl) (fun _ => rfl) (fun _ => rfl) (by decide) (by decide) (by decide) dX4_init_7 hw_0 (by rw [hl_0]; omega) (by omega) (by omega) ⟨(Or.inl (show s < w.length by omega)), trivial⟩ ⟨(Or.inl (show s < w.length by omega)), trivial⟩ (fun X hT => ?_)
  have hB := hB.tie hT (by rw [hl_0]; omega)
  clear hT
  obtain ⟨hC, hnl, hE, hR, hN, hNm⟩ := id hB
  obtain ⟨w_1, ew_1⟩ : ∃ z, z = w ++ [(mI 0 26 (fun _ => 0))] := ⟨_, rfl⟩
  have hl_1 : w_1.length = (s + 2) := by rw [ew_1, List.length_append, hl_0]; rfl
  have hw_1 : mLowW w_1.length w_1 := by rw [hl_1, ew_1]; exact (mLowW.mono (by rw [hl_0]; omega) hw_0).app (mLowW.cons trivial mLowW.nil)
  have hf1_s : w_1[s]? = some (mO 6 [.null, .null, .int 0, .int 0, .int 0]) := by rw [ew_1, List.getElem?_append_left (lt_of_get hk)]; exact hk
  have hf1__s___1_ : w_1[(s + 1)]? = some (mI 0 26 (fun _ => 0)) := by rw [ew_1, List.getElem?_append_right (by rw [hl_0]; exact Nat.le_refl _), hl_0, Nat.sub_self]; rfl
  rw [← ew_1, hl_0]
  show Wp X (0 + 1) (0 + 26) w_1 [(0, .ref s)] [.ref (s + 1), .ref s] _
  refine n_putI' hC hNm pX4_init_9 hf1_s (Nat.le_of_ble_eq_true rfl) (fun _ => rfl) (fun _ => rfl) (fun w_2 ew_2 => ?_)
  replace ew_2 : w_2 = (w_1).set (s) (mO 6 [.ref (s + 1), .null, .int 0, .int 0, .int 0]) := ew_2
  have hl_2 : w_2.length = (s + 2) := by rw [ew_2, List.length_set, hl_1]
  have hw_2 : mLowW w_2.length w_2 := by rw [hl_2, ew_2]; exact mLowW.set (by rw [← hl_1]; exact hw_1) ⟨(Or.inl (show (s + 1) < (s + 2) by omega)), trivial, trivial, trivial, trivial, trivial⟩
  have hf2_s : w_2[s]? = some (mO 6 [.ref (s + 1), .null, .int 0, .int 0, .int 0]) := by rw [ew_2]; exact List.getElem?_set_self (lt_of_get hf1_s)
  have hf2__s___1_ : w_2[(s + 1)]? = some (mI 0 26 (fun _ => 0)) := by rw [ew_2, List.getElem?_set_ne (by omega)]; exact hf1__s___1_
  refine r_aload_n hC dX4_init_12 rfl (j := 0) rfl ?_
  refine r_bipush hC dX4_init_13 (v := 25) (by decide) ?_
  refine n_newa hC (atype := .int) (ty := .int) (t := 0) (N := 25) (a0 := (25, .inl (fun _ => 0))) ac_int rfl (fun _ => rfl) (fun _ => rfl) (fun _ => rfl) (by decide) (by decide) (by decide) dX4_init_15 hw_2 (by rw [hl_2]; omega) (by omega) (by omega) ⟨(Or.inl (show s < w_2.length by omega)), trivial⟩ ⟨(Or.inl (show s < w_2.length by omega)), trivial⟩ (fun X hT => ?_)
  have hB := hB.tie hT (by rw [hl_2]; omega)
  clear hT
  obtain ⟨hC, hnl, hE, hR, hN, hNm⟩ := id hB
  obtain ⟨w_3, ew_3⟩ : ∃ z, z = w_2 ++ [(mI 0 25 (fun _ => 0))] := ⟨_, rfl⟩
  have hl_3 : w_3.length = (s + 3) := by rw [ew_3, List.length_append, hl_2]; rfl
  have hw_3 : mLowW w_3.length w_3 := by rw [hl_3, ew_3]; exact (mLowW.mono (by rw [hl_2]; omega) hw_2).app (mLowW.cons trivial mLowW.nil)
  have hf3_s : w_3[s]? = some (mO 6 [.ref (s + 1), .null, .int 0, .int 0, .int 0]) := by rw [ew_3, List.getElem?_append_left (lt_of_get hf2_s)]; exact hf2_s
  have hf3__s___1_ : w_3[(s + 1)]? = some (mI 0 26 (fun _ => 0)) := by rw [ew_3, List.getElem?_append_left (lt_of_get hf2__s___1_)]; exact hf2__s___1_
  have hf3__s___2_ : w_3[(s + 2)]? = some (mI 0 25 (fun _ => 0)) := by rw [ew_3, List.getElem?_append_right (by rw [hl_2]; exact Nat.le_refl _), hl_2, Nat.sub_self]; rfl
  rw [← ew_3, hl_2]
  show Wp X ((0 + 1) + 1) ((0 + 26) + 25) w_3 [(0, .ref s)] [.ref (s + 2), .ref s] _
  refine n_putI' hC hNm pX4_init_17 hf3_s (Nat.le_of_ble_eq_true rfl) (fun _ => rfl) (fun _ => rfl) (fun w_4 ew_4 => ?_)
  replace ew_4 : w_4 = (w_3).set (s) (mO 6 [.ref (s + 1), .ref (s + 2), .int 0, .int 0, .int 0]) := ew_4
  have hl_4 : w_4.length = (s + 3) := by rw [ew_4, List.length_set, hl_3]
  have hw_4 : mLowW w_4.length w_4 := by rw [hl_4, ew_4]; exact mLowW.set (by rw [← hl_3]; exact hw_3) ⟨(Or.inl (show (s + 1) < (s + 3) by omega)), (Or.inl (show (s + 2) < (s + 3) by omega)), trivial, trivial, trivial, trivial⟩
  have hf4_s : w_4[s]? = some (mO 6 [.ref (s + 1), .ref (s + 2), .int 0, .int 0, .int 0]) := by rw [ew_4]; exact List.getElem?_set_self (lt_of_get hf3_s)
  have hf4__s___1_ : w_4[(s + 1)]? = some (mI 0 26 (fun _ => 0)) := by rw [ew_4, List.getElem?_set_ne (by omega)]; exact hf3__s___1_
  have hf4__s___2_ : w_4[(s + 2)]? = some (mI 0 25 (fun _ => 0)) := by rw [ew_4, List.getElem?_set_ne (by omega)]; exact hf3__s___2_
  refine r_aload_n hC dX4_init_20 rfl (j := 0) rfl ?_
  refine r_iconst hC dX4_init_21 (v := 3) (by decide) ?_
  refine r_put' hC pX4_init_22 hf4_s (Nat.le_of_ble_eq_true rfl) (fun _ => rfl) (fun _ => rfl) (fun w_5 ew_5 => ?_)
  replace ew_5 : w_5 = (w_4).set (s) (mO 6 [.ref (s + 1), .ref (s + 2), .int 3, .int 0, .int 0]) := ew_5
  have hl_5 : w_5.length = (s + 3) := by rw [ew_5, List.length_set, hl_4]
  have hw_5 : mLowW w_5.length w_5 := by rw [hl_5, ew_5]; exact mLowW.set (by rw [← hl_4]; exact hw_4) ⟨(Or.inl (show (s + 1) < (s + 3) by omega)), (Or.inl (show (s + 2) < (s + 3) by omega)), trivial, trivial, trivial, trivial⟩
  have hf5_s : w_5[s]? = some (mO 6 [.ref (s + 1), .ref (s + 2), .int 3, .int 0, .int 0]) := by rw [ew_5]; exact List.getElem?_set_self (lt_of_get hf4_s)
  have hf5__s___1_ : w_5[(s + 1)]? = some (mI 0 26 (fun _ => 0)) := by rw [ew_5, List.getElem?_set_ne (by omega)]; exact hf4__s___1_
  have hf5__s___2_ : w_5[(s + 2)]? = some (mI 0 25 (fun _ => 0)) := by rw [ew_5, List.getElem?_set_ne (by omega)]; exact hf4__s___2_
  refine r_iconst hC dX4_init_25 (v := 0) (by decide) ?_
  refine r_istore_n hC dX4_init_26 rfl (by rw [hnl]; decide) (L' := [(1, .int 0), (0, .ref s)]) rfl ?_
  refine r_locals [1, 0] (L' := [(0, .ref s), (1, .int 0)]) rfl ?_
  refine hi_all (b := s + 2) (h := s) hC hnl hf5_s (by rw [hl_5]; omega) (by omega) (fun w9 e9 => ?_) 25 0 w_5 rfl (by rw [ownF_0]; exact (set_same hf5__s___2_).symm)
  obtain ⟨w_6, ew_6⟩ : ∃ z, z = w9 := ⟨_, rfl⟩
  rw [← ew_6] at e9 ⊢
  clear ew_6
  have ew_6 := e9
  replace ew_6 : w_6 = (w_5).set ((s + 2)) (mI 0 25 (ownF 25)) := ew_6
  have hl_6 : w_6.length = (s + 3) := by rw [ew_6, List.length_set, hl_5]
  have hw_6 : mLowW w_6.length w_6 := by rw [hl_6, ew_6]; exact mLowW.set (by rw [← hl_5]; exact hw_5) trivial
  have hf6_s : w_6[s]? = some (mO 6 [.ref (s + 1), .ref (s + 2), .int 3, .int 0, .int 0]) := by rw [ew_6, List.getElem?_set_ne (by omega)]; exact hf5_s
  have hf6__s___1_ : w_6[(s + 1)]? = some (mI 0 26 (fun _ => 0)) := by rw [ew_6, List.getElem?_set_ne (by omega)]; exact hf5__s___1_
  have hf6__s___2_ : w_6[(s + 2)]? = some (mI 0 25 (ownF 25)) := by rw [ew_6]; exact List.getElem?_set_self (lt_of_get hf5__s___2_)
  refine r_iload_n hC dX4_init_27 rfl (j := 1) rfl ?_
  refine r_bipush hC dX4_init_28 (v := 25) (by decide) ?_
  refine r_icmp_ge hC dX4_init_30 (tgt := 46) (by decide) (fun _ => ?_) (fun h => absurd (lit_le rfl (Nat.le_refl 25) (by decide)) h)
  refine r_arrEq hf6__s___2_ ownF_25 ?_
  obtain ⟨w_7, ew_7⟩ : ∃ z, z = w_6.set (s + 2) (mI 0 25 (fun _ => -1)) := ⟨_, rfl⟩
  rw [← ew_7]
  replace ew_7 : w_7 = (w_6).set ((s + 2)) (mI 0 25 (fun _ => -1)) := ew_7
  have hl_7 : w_7.length = (s + 3) := by rw [ew_7, List.length_set, hl_6]
  have hw_7 : mLowW w_7.length w_7 := by rw [hl_7, ew_7]; exact mLowW.set (by rw [← hl_6]; exact hw_6) trivial
  have hf7_s : w_7[s]? = some (mO 6 [.ref (s + 1), .ref (s + 2), .int 3, .int 0, .int 0]) := by rw [ew_7, List.getElem?_set_ne (by omega)]; exact hf6_s
  have hf7__s___1_ : w_7[(s + 1)]? = some (mI 0 26 (fun _ => 0)) := by rw [ew_7, List.getElem?_set_ne (by omega)]; exact hf6__s___1_
  have hf7__s___2_ : w_7[(s + 2)]? = some (mI 0 25 (fun _ => -1)) := by rw [ew_7]; exact List.getElem?_set_self (lt_of_get hf6__s___2_)
  refine n_vret hC hE hR dX4_init_46 (by omega) (by omega) (by rw [hl_7]; omega) ?_
  exact ⟨rfl, ⟨by rw [hl_7]; omega, hw_7, fun k h9 => by rw [ew_7, List.getElem?_set_ne (by omega), ew_6, List.getElem?_set_ne (by omega), ew_5, List.getElem?_set_ne (by omega), ew_4, List.getElem?_set_ne (by omega), ew_3, List.getElem?_append_left (by rw [hl_2]; omega), ew_2, List.getElem?_set_ne (by omega), ew_1, List.getElem?_append_left (by rw [hl_0]; omega)]⟩, hf7_s, hf7__s___1_, hf7__s___2_⟩
set_option maxRecDepth 100000 in
set_option maxHeartbeats 4000000 in
theorem cn_state {d : Nat} {w : mW} {s : Nat}  (hl_0 : w.length = s + 1) (hk : w[s]? = some (mO 7 [.null, .null, .null, .int 0, .int 0, .int 0, .int 0, .int 0, .int 0])) (hw_0 : mLowW w.length w) (hmax : s < 940000)  : SpN (d + 1) yX6_init cX6_init 1 none [.ref s] w 5 68 (fun v w9 => v = none ∧ Gn w w9 s 5 ∧ StAt w9 s sv0) := by
  refine SpN.of (by decide +kernel) (Nat.le_of_ble_eq_true rfl) (fun X hC hnl hE hR hN hNm => ?_)
  have hC : Cx X RX6 cX6_init (d + 1) 5 68 := hC
  have hB := NB.mk hC hnl hE hR hN hNm
  show Wp X 0 0 w [(0, .ref s)] [] 0
  obtain ⟨hC, hnl, hE, hR, hN, hNm⟩ := id hB
  refine r_aload_n hC dX6_init_0 rfl (j := 0) rfl ?_
  refine r_objI hC oX6_init_1 (Nat.le_of_ble_eq_true rfl) ?_
  refine r_aload_n hC dX6_init_4 rfl (j := 0) rfl ?_
  refine n_new hC nX6_init_5 (fun _ => rfl) hw_0 (by rw [hl_0]; omega) (by omega) (by omega) ⟨(Or.inl (show s < w.length by omega)), trivial⟩ ⟨(Or.inl (show s < w.length by omega)), trivial⟩ (fun X hT => ?_)
  have hB := hB.tie hT (by rw [hl_0]; omega)
  clear hT
  obtain ⟨hC, hnl, hE, hR, hN, hNm⟩ := id hB
  obtain ⟨w_1, ew_1⟩ : ∃ z, z = w ++ [(mO 6 [.null, .null, .int 0, .int 0, .int 0])] := ⟨_, rfl⟩
  have hl_1 : w_1.length = (s + 2) := by rw [ew_1, List.length_append, hl_0]; rfl
  have hw_1 : mLowW w_1.length w_1 := by rw [hl_1, ew_1]; exact (mLowW.mono (by rw [hl_0]; omega) hw_0).app (mLowW.cons ⟨trivial, trivial, trivial, trivial, trivial, trivial⟩ mLowW.nil)
  have hf1_s : w_1[s]? = some (mO 7 [.null, .null, .null, .int 0, .int 0, .int 0, .int 0, .int 0, .int 0]) := by rw [ew_1, List.getElem?_append_left (lt_of_get hk)]; exact hk
  have hf1__s___1_ : w_1[(s + 1)]? = some (mO 6 [.null, .null, .int 0, .int 0, .int 0]) := by rw [ew_1, List.getElem?_append_right (by rw [hl_0]; exact Nat.le_refl _), hl_0, Nat.sub_self]; rfl
  rw [← ew_1, hl_0]
  show Wp X (0 + 1) (0 + 5) w_1 [(0, .ref s)] [.ref (s + 1), .ref s] _
  refine r_dup hC dX6_init_8 rfl ?_
  refine n_callI hC (vs := []) vX6_init_9 (cn_hill (d := d) (s := s + 1) hl_1 hf1__s___1_ hw_1 (by omega)) rfl (by omega) (by omega) (by omega) (Nat.le_of_ble_eq_true rfl) ⟨(Or.inl (show s < w_1.length by omega)), trivial⟩ ⟨(Or.inl (show (s + 1) < w_1.length by omega)), (Or.inl (show s < w_1.length by omega)), trivial⟩ (fun v_2 w_2 X hT hP_2 hlen_2 => ?_)
  have hB := hB.tie hT (by rw [hl_1]; omega)
  clear hT
  obtain ⟨hC, hnl, hE, hR, hN, hNm⟩ := id hB
  obtain ⟨rfl, ⟨hl_2, hw_2, hk_2⟩, hP_2⟩ := hP_2
  rw [hl_1] at hl_2
  replace hl_2 : w_2.length = (s + 4) := by omega
  have hf2_s : w_2[s]? = some (mO 7 [.null, .null, .null, .int 0, .int 0, .int 0, .int 0, .int 0, .int 0]) := by rw [hk_2 s (by omega)]; exact hf1_s
  show Wp X ((0 + 1) + 2) ((0 + 5) + 51) w_2 [(0, .ref s)] [.ref (s + 1), .ref s] 12
  refine n_putI' hC hNm pX6_init_12 hf2_s (Nat.le_of_ble_eq_true rfl) (fun _ => rfl) (fun _ => rfl) (fun w_3 ew_3 => ?_)
  replace ew_3 : w_3 = (w_2).set (s) (mO 7 [.ref (s + 1), .null, .null, .int 0, .int 0, .int 0, .int 0, .int 0, .int 0]) := ew_3
  have hl_3 : w_3.length = (s + 4) := by rw [ew_3, List.length_set, hl_2]
  have hw_3 : mLowW w_3.length w_3 := by rw [hl_3, ew_3]; exact mLowW.set (by rw [← hl_2]; exact hw_2) ⟨(Or.inl (show (s + 1) < (s + 4) by omega)), trivial, trivial, trivial, trivial, trivial, trivial, trivial, trivial, trivial⟩
  have hf3_s : w_3[s]? = some (mO 7 [.ref (s + 1), .null, .null, .int 0, .int 0, .int 0, .int 0, .int 0, .int 0]) := by rw [ew_3]; exact List.getElem?_set_self (lt_of_get hf2_s)
  have hf3__s___1_ : w_3[(s + 1)]? = some (mO 6 [.ref (s + 2), .ref (s + 3), .int 3, .int 0, .int 0]) := by rw [ew_3, List.getElem?_set_ne (by omega)]; exact hP_2.1
  have hf3__s___2_ : w_3[(s + 2)]? = some (mI 0 26 (fun _ => 0)) := by rw [ew_3, List.getElem?_set_ne (by omega)]; exact hP_2.2.1
  have hf3__s___3_ : w_3[(s + 3)]? = some (mI 0 25 (fun _ => -1)) := by rw [ew_3, List.getElem?_set_ne (by omega)]; exact hP_2.2.2
  refine r_aload_n hC dX6_init_15 rfl (j := 0) rfl ?_
  refine r_iconst hC dX6_init_16 (v := 4) (by decide) ?_
  refine n_newa hC (atype := .int) (ty := .int) (t := 0) (N := 4) (a0 := (4, .inl (fun _ => 0))) ac_int rfl (fun _ => rfl) (fun _ => rfl) (fun _ => rfl) (by decide) (by decide) (by decide) dX6_init_17 hw_3 (by rw [hl_3]; omega) (by omega) (by omega) ⟨(Or.inl (show s < w_3.length by omega)), trivial⟩ ⟨(Or.inl (show s < w_3.length by omega)), trivial⟩ (fun X hT => ?_)
  have hB := hB.tie hT (by rw [hl_3]; omega)
  clear hT
  obtain ⟨hC, hnl, hE, hR, hN, hNm⟩ := id hB
  obtain ⟨w_4, ew_4⟩ : ∃ z, z = w_3 ++ [(mI 0 4 (fun _ => 0))] := ⟨_, rfl⟩
  have hl_4 : w_4.length = (s + 5) := by rw [ew_4, List.length_append, hl_3]; rfl
  have hw_4 : mLowW w_4.length w_4 := by rw [hl_4, ew_4]; exact (mLowW.mono (by rw [hl_3]; omega) hw_3).app (mLowW.cons trivial mLowW.nil)
  have hf4_s : w_4[s]? = some (mO 7 [.ref (s + 1), .null, .null, .int 0, .int 0, .int 0, .int 0, .int 0, .int 0]) := by rw [ew_4, List.getElem?_append_left (lt_of_get hf3_s)]; exact hf3_s
  have hf4__s___1_ : w_4[(s + 1)]? = some (mO 6 [.ref (s + 2), .ref (s + 3), .int 3, .int 0, .int 0]) := by rw [ew_4, List.getElem?_append_left (lt_of_get hf3__s___1_)]; exact hf3__s___1_
  have hf4__s___2_ : w_4[(s + 2)]? = some (mI 0 26 (fun _ => 0)) := by rw [ew_4, List.getElem?_append_left (lt_of_get hf3__s___2_)]; exact hf3__s___2_
  have hf4__s___3_ : w_4[(s + 3)]? = some (mI 0 25 (fun _ => -1)) := by rw [ew_4, List.getElem?_append_left (lt_of_get hf3__s___3_)]; exact hf3__s___3_
  have hf4__s___4_ : w_4[(s + 4)]? = some (mI 0 4 (fun _ => 0)) := by rw [ew_4, List.getElem?_append_right (by rw [hl_3]; exact Nat.le_refl _), hl_3, Nat.sub_self]; rfl
  rw [← ew_4, hl_3]
  show Wp X (((0 + 1) + 2) + 1) (((0 + 5) + 51) + 4) w_4 [(0, .ref s)] [.ref (s + 4), .ref s] _
  refine n_putI' hC hNm pX6_init_19 hf4_s (Nat.le_of_ble_eq_true rfl) (fun _ => rfl) (fun _ => rfl) (fun w_5 ew_5 => ?_)
  replace ew_5 : w_5 = (w_4).set (s) (mO 7 [.ref (s + 1), .ref (s + 4), .null, .int 0, .int 0, .int 0, .int 0, .int 0, .int 0]) := ew_5
  have hl_5 : w_5.length = (s + 5) := by rw [ew_5, List.length_set, hl_4]
  have hw_5 : mLowW w_5.length w_5 := by rw [hl_5, ew_5]; exact mLowW.set (by rw [← hl_4]; exact hw_4) ⟨(Or.inl (show (s + 1) < (s + 5) by omega)), (Or.inl (show (s + 4) < (s + 5) by omega)), trivial, trivial, trivial, trivial, trivial, trivial, trivial, trivial⟩
  have hf5_s : w_5[s]? = some (mO 7 [.ref (s + 1), .ref (s + 4), .null, .int 0, .int 0, .int 0, .int 0, .int 0, .int 0]) := by rw [ew_5]; exact List.getElem?_set_self (lt_of_get hf4_s)
  have hf5__s___1_ : w_5[(s + 1)]? = some (mO 6 [.ref (s + 2), .ref (s + 3), .int 3, .int 0, .int 0]) := by rw [ew_5, List.getElem?_set_ne (by omega)]; exact hf4__s___1_
  have hf5__s___2_ : w_5[(s + 2)]? = some (mI 0 26 (fun _ => 0)) := by rw [ew_5, List.getElem?_set_ne (by omega)]; exact hf4__s___2_
  have hf5__s___3_ : w_5[(s + 3)]? = some (mI 0 25 (fun _ => -1)) := by rw [ew_5, List.getElem?_set_ne (by omega)]; exact hf4__s___3_
  have hf5__s___4_ : w_5[(s + 4)]? = some (mI 0 4 (fun _ => 0)) := by rw [ew_5, List.getElem?_set_ne (by omega)]; exact hf4__s___4_
  refine r_aload_n hC dX6_init_22 rfl (j := 0) rfl ?_
  refine r_iconst hC dX6_init_23 (v := 4) (by decide) ?_
  refine n_newa hC (atype := .int) (ty := .int) (t := 0) (N := 4) (a0 := (4, .inl (fun _ => 0))) ac_int rfl (fun _ => rfl) (fun _ => rfl) (fun _ => rfl) (by decide) (by decide) (by decide) dX6_init_24 hw_5 (by rw [hl_5]; omega) (by omega) (by omega) ⟨(Or.inl (show s < w_5.length by omega)), trivial⟩ ⟨(Or.inl (show s < w_5.length by omega)), trivial⟩ (fun X hT => ?_)
  have hB := hB.tie hT (by rw [hl_5]; omega)
  clear hT
  obtain ⟨hC, hnl, hE, hR, hN, hNm⟩ := id hB
  obtain ⟨w_6, ew_6⟩ : ∃ z, z = w_5 ++ [(mI 0 4 (fun _ => 0))] := ⟨_, rfl⟩
  have hl_6 : w_6.length = (s + 6) := by rw [ew_6, List.length_append, hl_5]; rfl
  have hw_6 : mLowW w_6.length w_6 := by rw [hl_6, ew_6]; exact (mLowW.mono (by rw [hl_5]; omega) hw_5).app (mLowW.cons trivial mLowW.nil)
  have hf6_s : w_6[s]? = some (mO 7 [.ref (s + 1), .ref (s + 4), .null, .int 0, .int 0, .int 0, .int 0, .int 0, .int 0]) := by rw [ew_6, List.getElem?_append_left (lt_of_get hf5_s)]; exact hf5_s
  have hf6__s___1_ : w_6[(s + 1)]? = some (mO 6 [.ref (s + 2), .ref (s + 3), .int 3, .int 0, .int 0]) := by rw [ew_6, List.getElem?_append_left (lt_of_get hf5__s___1_)]; exact hf5__s___1_
  have hf6__s___2_ : w_6[(s + 2)]? = some (mI 0 26 (fun _ => 0)) := by rw [ew_6, List.getElem?_append_left (lt_of_get hf5__s___2_)]; exact hf5__s___2_
  have hf6__s___3_ : w_6[(s + 3)]? = some (mI 0 25 (fun _ => -1)) := by rw [ew_6, List.getElem?_append_left (lt_of_get hf5__s___3_)]; exact hf5__s___3_
  have hf6__s___4_ : w_6[(s + 4)]? = some (mI 0 4 (fun _ => 0)) := by rw [ew_6, List.getElem?_append_left (lt_of_get hf5__s___4_)]; exact hf5__s___4_
  have hf6__s___5_ : w_6[(s + 5)]? = some (mI 0 4 (fun _ => 0)) := by rw [ew_6, List.getElem?_append_right (by rw [hl_5]; exact Nat.le_refl _), hl_5, Nat.sub_self]; rfl
  rw [← ew_6, hl_5]
  show Wp X ((((0 + 1) + 2) + 1) + 1) ((((0 + 5) + 51) + 4) + 4) w_6 [(0, .ref s)] [.ref (s + 5), .ref s] _
  refine n_putI' hC hNm pX6_init_26 hf6_s (Nat.le_of_ble_eq_true rfl) (fun _ => rfl) (fun _ => rfl) (fun w_7 ew_7 => ?_)
  replace ew_7 : w_7 = (w_6).set (s) (mO 7 [.ref (s + 1), .ref (s + 4), .ref (s + 5), .int 0, .int 0, .int 0, .int 0, .int 0, .int 0]) := ew_7
  have hl_7 : w_7.length = (s + 6) := by rw [ew_7, List.length_set, hl_6]
  have hw_7 : mLowW w_7.length w_7 := by rw [hl_7, ew_7]; exact mLowW.set (by rw [← hl_6]; exact hw_6) ⟨(Or.inl (show (s + 1) < (s + 6) by omega)), (Or.inl (show (s + 4) < (s + 6) by omega)), (Or.inl (show (s + 5) < (s + 6) by omega)), trivial, trivial, trivial, trivial, trivial, trivial, trivial⟩
  have hf7_s : w_7[s]? = some (mO 7 [.ref (s + 1), .ref (s + 4), .ref (s + 5), .int 0, .int 0, .int 0, .int 0, .int 0, .int 0]) := by rw [ew_7]; exact List.getElem?_set_self (lt_of_get hf6_s)
  have hf7__s___1_ : w_7[(s + 1)]? = some (mO 6 [.ref (s + 2), .ref (s + 3), .int 3, .int 0, .int 0]) := by rw [ew_7, List.getElem?_set_ne (by omega)]; exact hf6__s___1_
  have hf7__s___2_ : w_7[(s + 2)]? = some (mI 0 26 (fun _ => 0)) := by rw [ew_7, List.getElem?_set_ne (by omega)]; exact hf6__s___2_
  have hf7__s___3_ : w_7[(s + 3)]? = some (mI 0 25 (fun _ => -1)) := by rw [ew_7, List.getElem?_set_ne (by omega)]; exact hf6__s___3_
  have hf7__s___4_ : w_7[(s + 4)]? = some (mI 0 4 (fun _ => 0)) := by rw [ew_7, List.getElem?_set_ne (by omega)]; exact hf6__s___4_
  have hf7__s___5_ : w_7[(s + 5)]? = some (mI 0 4 (fun _ => 0)) := by rw [ew_7, List.getElem?_set_ne (by omega)]; exact hf6__s___5_
  refine n_vret hC hE hR dX6_init_29 (by omega) (by omega) (by rw [hl_7]; omega) ?_
  exact ⟨rfl, ⟨by rw [hl_7]; omega, hw_7, fun k h9 => by rw [ew_7, List.getElem?_set_ne (by omega), ew_6, List.getElem?_append_left (by rw [hl_5]; omega), ew_5, List.getElem?_set_ne (by omega), ew_4, List.getElem?_append_left (by rw [hl_3]; omega), ew_3, List.getElem?_set_ne (by omega), hk_2 k (by omega), ew_1, List.getElem?_append_left (by rw [hl_0]; omega)]⟩, hf7_s, ⟨hf7__s___1_, hf7__s___2_, hf7__s___3_⟩, hf7__s___4_, hf7__s___5_⟩
set_option maxRecDepth 100000 in
set_option maxHeartbeats 4000000 in
theorem cn_trial {d : Nat} {w : mW} {s : Nat}  (hl_0 : w.length = s + 1) (hk : w[s]? = some (mO 8 [.null, .null, .int 0])) (hw_0 : mLowW w.length w) (hmax : s < 940000)  : SpN (d + 1) yX7_init cX7_init 1 none [.ref s] w 4 81 (fun v w9 => v = none ∧ Gn w w9 s 4 ∧ TrAt w9 s hill0 (fun _ => 0) 0) := by
  refine SpN.of (by decide +kernel) (Nat.le_of_ble_eq_true rfl) (fun X hC hnl hE hR hN hNm => ?_)
  have hC : Cx X RX7 cX7_init (d + 1) 4 81 := hC
  have hB := NB.mk hC hnl hE hR hN hNm
  show Wp X 0 0 w [(0, .ref s)] [] 0
  obtain ⟨hC, hnl, hE, hR, hN, hNm⟩ := id hB
  refine r_aload_n hC dX7_init_0 rfl (j := 0) rfl ?_
  refine r_objI hC oX7_init_1 (Nat.le_of_ble_eq_true rfl) ?_
  refine r_aload_n hC dX7_init_4 rfl (j := 0) rfl ?_
  refine n_new hC nX7_init_5 (fun _ => rfl) hw_0 (by rw [hl_0]; omega) (by omega) (by omega) ⟨(Or.inl (show s < w.length by omega)), trivial⟩ ⟨(Or.inl (show s < w.length by omega)), trivial⟩ (fun X hT => ?_)
  have hB := hB.tie hT (by rw [hl_0]; omega)
  clear hT
  obtain ⟨hC, hnl, hE, hR, hN, hNm⟩ := id hB
  obtain ⟨w_1, ew_1⟩ : ∃ z, z = w ++ [(mO 6 [.null, .null, .int 0, .int 0, .int 0])] := ⟨_, rfl⟩
  have hl_1 : w_1.length = (s + 2) := by rw [ew_1, List.length_append, hl_0]; rfl
  have hw_1 : mLowW w_1.length w_1 := by rw [hl_1, ew_1]; exact (mLowW.mono (by rw [hl_0]; omega) hw_0).app (mLowW.cons ⟨trivial, trivial, trivial, trivial, trivial, trivial⟩ mLowW.nil)
  have hf1_s : w_1[s]? = some (mO 8 [.null, .null, .int 0]) := by rw [ew_1, List.getElem?_append_left (lt_of_get hk)]; exact hk
  have hf1__s___1_ : w_1[(s + 1)]? = some (mO 6 [.null, .null, .int 0, .int 0, .int 0]) := by rw [ew_1, List.getElem?_append_right (by rw [hl_0]; exact Nat.le_refl _), hl_0, Nat.sub_self]; rfl
  rw [← ew_1, hl_0]
  show Wp X (0 + 1) (0 + 5) w_1 [(0, .ref s)] [.ref (s + 1), .ref s] _
  refine r_dup hC dX7_init_8 rfl ?_
  refine n_callI hC (vs := []) vX7_init_9 (cn_hill (d := d) (s := s + 1) hl_1 hf1__s___1_ hw_1 (by omega)) rfl (by omega) (by omega) (by omega) (Nat.le_of_ble_eq_true rfl) ⟨(Or.inl (show s < w_1.length by omega)), trivial⟩ ⟨(Or.inl (show (s + 1) < w_1.length by omega)), (Or.inl (show s < w_1.length by omega)), trivial⟩ (fun v_2 w_2 X hT hP_2 hlen_2 => ?_)
  have hB := hB.tie hT (by rw [hl_1]; omega)
  clear hT
  obtain ⟨hC, hnl, hE, hR, hN, hNm⟩ := id hB
  obtain ⟨rfl, ⟨hl_2, hw_2, hk_2⟩, hP_2⟩ := hP_2
  rw [hl_1] at hl_2
  replace hl_2 : w_2.length = (s + 4) := by omega
  have hf2_s : w_2[s]? = some (mO 8 [.null, .null, .int 0]) := by rw [hk_2 s (by omega)]; exact hf1_s
  show Wp X ((0 + 1) + 2) ((0 + 5) + 51) w_2 [(0, .ref s)] [.ref (s + 1), .ref s] 12
  refine n_putI' hC hNm pX7_init_12 hf2_s (Nat.le_of_ble_eq_true rfl) (fun _ => rfl) (fun _ => rfl) (fun w_3 ew_3 => ?_)
  replace ew_3 : w_3 = (w_2).set (s) (mO 8 [.ref (s + 1), .null, .int 0]) := ew_3
  have hl_3 : w_3.length = (s + 4) := by rw [ew_3, List.length_set, hl_2]
  have hw_3 : mLowW w_3.length w_3 := by rw [hl_3, ew_3]; exact mLowW.set (by rw [← hl_2]; exact hw_2) ⟨(Or.inl (show (s + 1) < (s + 4) by omega)), trivial, trivial, trivial⟩
  have hf3_s : w_3[s]? = some (mO 8 [.ref (s + 1), .null, .int 0]) := by rw [ew_3]; exact List.getElem?_set_self (lt_of_get hf2_s)
  have hf3__s___1_ : w_3[(s + 1)]? = some (mO 6 [.ref (s + 2), .ref (s + 3), .int 3, .int 0, .int 0]) := by rw [ew_3, List.getElem?_set_ne (by omega)]; exact hP_2.1
  have hf3__s___2_ : w_3[(s + 2)]? = some (mI 0 26 (fun _ => 0)) := by rw [ew_3, List.getElem?_set_ne (by omega)]; exact hP_2.2.1
  have hf3__s___3_ : w_3[(s + 3)]? = some (mI 0 25 (fun _ => -1)) := by rw [ew_3, List.getElem?_set_ne (by omega)]; exact hP_2.2.2
  refine r_aload_n hC dX7_init_15 rfl (j := 0) rfl ?_
  refine r_bipush hC dX7_init_16 (v := 25) (by decide) ?_
  refine n_newa hC (atype := .int) (ty := .int) (t := 0) (N := 25) (a0 := (25, .inl (fun _ => 0))) ac_int rfl (fun _ => rfl) (fun _ => rfl) (fun _ => rfl) (by decide) (by decide) (by decide) dX7_init_18 hw_3 (by rw [hl_3]; omega) (by omega) (by omega) ⟨(Or.inl (show s < w_3.length by omega)), trivial⟩ ⟨(Or.inl (show s < w_3.length by omega)), trivial⟩ (fun X hT => ?_)
  have hB := hB.tie hT (by rw [hl_3]; omega)
  clear hT
  obtain ⟨hC, hnl, hE, hR, hN, hNm⟩ := id hB
  obtain ⟨w_4, ew_4⟩ : ∃ z, z = w_3 ++ [(mI 0 25 (fun _ => 0))] := ⟨_, rfl⟩
  have hl_4 : w_4.length = (s + 5) := by rw [ew_4, List.length_append, hl_3]; rfl
  have hw_4 : mLowW w_4.length w_4 := by rw [hl_4, ew_4]; exact (mLowW.mono (by rw [hl_3]; omega) hw_3).app (mLowW.cons trivial mLowW.nil)
  have hf4_s : w_4[s]? = some (mO 8 [.ref (s + 1), .null, .int 0]) := by rw [ew_4, List.getElem?_append_left (lt_of_get hf3_s)]; exact hf3_s
  have hf4__s___1_ : w_4[(s + 1)]? = some (mO 6 [.ref (s + 2), .ref (s + 3), .int 3, .int 0, .int 0]) := by rw [ew_4, List.getElem?_append_left (lt_of_get hf3__s___1_)]; exact hf3__s___1_
  have hf4__s___2_ : w_4[(s + 2)]? = some (mI 0 26 (fun _ => 0)) := by rw [ew_4, List.getElem?_append_left (lt_of_get hf3__s___2_)]; exact hf3__s___2_
  have hf4__s___3_ : w_4[(s + 3)]? = some (mI 0 25 (fun _ => -1)) := by rw [ew_4, List.getElem?_append_left (lt_of_get hf3__s___3_)]; exact hf3__s___3_
  have hf4__s___4_ : w_4[(s + 4)]? = some (mI 0 25 (fun _ => 0)) := by rw [ew_4, List.getElem?_append_right (by rw [hl_3]; exact Nat.le_refl _), hl_3, Nat.sub_self]; rfl
  rw [← ew_4, hl_3]
  show Wp X (((0 + 1) + 2) + 1) (((0 + 5) + 51) + 25) w_4 [(0, .ref s)] [.ref (s + 4), .ref s] _
  refine n_putI' hC hNm pX7_init_20 hf4_s (Nat.le_of_ble_eq_true rfl) (fun _ => rfl) (fun _ => rfl) (fun w_5 ew_5 => ?_)
  replace ew_5 : w_5 = (w_4).set (s) (mO 8 [.ref (s + 1), .ref (s + 4), .int 0]) := ew_5
  have hl_5 : w_5.length = (s + 5) := by rw [ew_5, List.length_set, hl_4]
  have hw_5 : mLowW w_5.length w_5 := by rw [hl_5, ew_5]; exact mLowW.set (by rw [← hl_4]; exact hw_4) ⟨(Or.inl (show (s + 1) < (s + 5) by omega)), (Or.inl (show (s + 4) < (s + 5) by omega)), trivial, trivial⟩
  have hf5_s : w_5[s]? = some (mO 8 [.ref (s + 1), .ref (s + 4), .int 0]) := by rw [ew_5]; exact List.getElem?_set_self (lt_of_get hf4_s)
  have hf5__s___1_ : w_5[(s + 1)]? = some (mO 6 [.ref (s + 2), .ref (s + 3), .int 3, .int 0, .int 0]) := by rw [ew_5, List.getElem?_set_ne (by omega)]; exact hf4__s___1_
  have hf5__s___2_ : w_5[(s + 2)]? = some (mI 0 26 (fun _ => 0)) := by rw [ew_5, List.getElem?_set_ne (by omega)]; exact hf4__s___2_
  have hf5__s___3_ : w_5[(s + 3)]? = some (mI 0 25 (fun _ => -1)) := by rw [ew_5, List.getElem?_set_ne (by omega)]; exact hf4__s___3_
  have hf5__s___4_ : w_5[(s + 4)]? = some (mI 0 25 (fun _ => 0)) := by rw [ew_5, List.getElem?_set_ne (by omega)]; exact hf4__s___4_
  refine n_vret hC hE hR dX7_init_23 (by omega) (by omega) (by rw [hl_5]; omega) ?_
  exact ⟨rfl, ⟨by rw [hl_5]; omega, hw_5, fun k h9 => by rw [ew_5, List.getElem?_set_ne (by omega), ew_4, List.getElem?_append_left (by rw [hl_3]; omega), ew_3, List.getElem?_set_ne (by omega), hk_2 k (by omega), ew_1, List.getElem?_append_left (by rw [hl_0]; omega)]⟩, hf5_s, ⟨hf5__s___1_, hf5__s___2_, hf5__s___3_⟩, hf5__s___4_⟩
theorem gZ_k4 : ("HillContest$Keyword", "SKIP", "LHillContest$Keyword;", Value.ref 1000024) ∈ gZs := List.mem_of_getElem? (i := 15) rfl
set_option maxRecDepth 100000 in
set_option maxHeartbeats 4000000 in
theorem cn_cmd {d : Nat} {w : mW} {s : Nat}  (hl_0 : w.length = s + 1) (hk : w[s]? = some (mO 4 [.null, .int 0, .int 0, .int 0])) (hw_0 : mLowW w.length w) (hmax : s < 940000)  : SpN d yX1_init cX1_init 1 none [.ref s] w 0 0 (fun v w9 => v = none ∧ Gn w w9 s 0 ∧ w9[s]? = some (cmC (4, 0, 0, 0))) := by
  refine SpN.of (by decide +kernel) (Nat.le_of_ble_eq_true rfl) (fun X hC hnl hE hR hN hNm => ?_)
  have hC : Cx X RX1 cX1_init d 0 0 := hC
  have hB := NB.mk hC hnl hE hR hN hNm
  show Wp X 0 0 w [(0, .ref s)] [] 0
  obtain ⟨hC, hnl, hE, hR, hN, hNm⟩ := id hB
  refine r_aload_n hC dX1_init_0 rfl (j := 0) rfl ?_
  refine r_objI hC oX1_init_1 (Nat.le_of_ble_eq_true rfl) ?_
  refine r_aload_n hC dX1_init_4 rfl (j := 0) rfl ?_
  refine r_gets hC sX1_init_5 (v := .ref 1000024) gZ_k4 ?_
  refine r_put' hC pX1_init_8 hk (Nat.le_of_ble_eq_true rfl) (fun _ => rfl) (fun _ => rfl) (fun w_1 ew_1 => ?_)
  replace ew_1 : w_1 = (w).set (s) (mO 4 [.ref 1000024, .int 0, .int 0, .int 0]) := ew_1
  have hl_1 : w_1.length = (s + 1) := by rw [ew_1, List.length_set, hl_0]
  have hw_1 : mLowW w_1.length w_1 := by rw [hl_1, ew_1]; exact mLowW.set (by rw [← hl_0]; exact hw_0) ⟨(Or.inr (by decide)), trivial, trivial, trivial, trivial⟩
  have hf1_s : w_1[s]? = some (mO 4 [.ref 1000024, .int 0, .int 0, .int 0]) := by rw [ew_1]; exact List.getElem?_set_self (lt_of_get hk)
  refine n_vret hC hE hR dX1_init_11 (by omega) (by omega) (by rw [hl_1]; omega) ?_
  exact ⟨rfl, ⟨by rw [hl_1]; omega, hw_1, fun k h9 => by rw [ew_1, List.getElem?_set_ne (by omega)]⟩, hf1_s⟩
theorem cmF_up {t c : Nat} : va_up (cmF t c) c (some (t + 3 + c)) = cmF t (c + 1) := by
  funext q
  unfold va_up cmF
  by_cases z : q = c
  · subst z
    simp
  · by_cases z2 : q < c
    · have z3 : q < c + 1 := by omega
      simp [z, z2, z3]
    · have z3 : ¬ q < c + 1 := by omega
      simp [z, z2, z3]
theorem cmF_lt {t c i b : Nat} (h : cmF t c i = some b) : b < t + 3 + c := by
  unfold cmF at h
  split at h
  · have := Option.some.inj h; omega
  · cases h
theorem cmF_0 {t : Nat} : cmF t 0 = (fun _ => none) := funext fun j => if_neg (Nat.not_lt_zero j)
/-- what a reader's maker has made before its c-th command -/
def TxPre (w0 w : mW) (s c : Nat) : Prop := (∀ i, i < c → w[s + 3 + i]? = some (cmC (4, 0, 0, 0))) ∧ w[s + 1]? = some (mT []) ∧ ∀ k, k < s → w[k]? = w0[k]?
theorem TxPre.mono {w0 w w' : mW} {s c : Nat} (H : TxPre w0 w s c) (h : ∀ k, k < s + 3 + c → (k ≠ s ∧ k ≠ s + 2) → w'[k]? = w[k]?) : TxPre w0 w' s c := ⟨fun i hi => (h _ (by omega) (by omega)).trans (H.1 i hi), (h _ (by omega) (by omega)).trans H.2.1, fun k hk => (h _ (by omega) (by omega)).trans (H.2.2 k hk)⟩
theorem TxPre.step {w0 w : mW} {s c : Nat} (H : TxPre w0 w s c) (h : w[s + 3 + c]? = some (cmC (4, 0, 0, 0))) : TxPre w0 w s (c + 1) := ⟨fun i hi => by
  rcases Nat.lt_or_ge i c with z | z
  · exact H.1 i z
  · obtain rfl : i = c := by omega
    exact h, H.2⟩
set_option maxRecDepth 100000 in
set_option maxHeartbeats 4000000 in
theorem tx_all {d s n0 : Nat} {w0 : mW} (h0 : w0.length = s + 1) (hmax : s < 930000) (hn0 : n0 = w0.length) : ∀ (i9 c : Nat) (X : mC) (w : mW) (k n : Nat), c + i9 = 12 → k + i9 ≤ 15 → n + 4 * i9 ≤ 80 → NB X RX2 cX2_init (d + 2) 15 80 2 n0 (fun v w9 => v = none ∧ Gn w0 w9 s 14 ∧ TxAt w9 s [] 0 0 (fun _ => (4, 0, 0, 0))) none "<init>" → w.length = s + 3 + c → mLowW w.length w → w[s]? = some (mO 5 [.ref (s + 1), .ref (s + 2), .int 0, .int 0]) → w[s + 2]? = some (.inl (4, 12, .inr (.inr (.inr (.inr (cmF s c)))))) → TxPre w0 w s c → Wp X k n w [(0, .ref s), (1, .int (nI c))] [] 26 := by
  intro i9
  induction i9 with
  | zero =>
    intro c X w k n h9 hk9 hn9 hB hl hw hs hq hT
    obtain rfl : c = 12 := by omega
    obtain ⟨hC, hnl, hE, hR, hN, hNm⟩ := id hB
    refine r_iload_n hC dX2_init_26 rfl (j := 1) rfl ?_
    refine r_bipush hC dX2_init_27 (v := 12) (by decide) ?_
    refine r_icmp_ge hC dX2_init_29 (tgt := 51) (by decide) (fun _ => ?_) (fun h => absurd (by decide) h)
    refine r_locals [] (L' := []) rfl ?_
    refine n_vret hC hE hR dX2_init_51 (by omega) (by omega) (by omega) ?_
    exact ⟨rfl, ⟨by omega, hw, fun k hk => hT.2.2 k hk⟩, hs, hT.2.1, hq, hT.1⟩
  | succ i9 ih =>
    intro c X w k n h9 hk9 hn9 hB hl hw_0 hs hq hT
    have hc : c < 12 := by omega
    obtain ⟨z, ez⟩ : ∃ z, z = s + 3 + c := ⟨_, rfl⟩
    have hl_0 : w.length = z := hl.trans ez.symm
    obtain ⟨hC, hnl, hE, hR, hN, hNm⟩ := id hB
    refine r_iload_n hC dX2_init_26 rfl (j := 1) rfl ?_
    refine r_bipush hC dX2_init_27 (v := 12) (by decide) ?_
    refine r_icmp_ge hC dX2_init_29 (tgt := 51) (by decide) (fun h => absurd h (fun h : (12 : Int32) ≤ nI c => absurd ((nI_leI (a := 12) (b := c) (by decide) (by omega)).mp h) (by omega))) (fun _ => ?_)
    refine r_aload_n hC dX2_init_32 rfl (j := 0) rfl ?_
    refine r_get hC gX2_init_33 hs (v := .ref (s + 2)) rfl ?_
    refine r_iload_n hC dX2_init_36 rfl (j := 1) rfl ?_
    refine n_new hC nX2_init_37 (fun _ => rfl) hw_0 (by rw [hl_0]; omega) (by omega) (by omega) ⟨(Or.inl (show s < w.length by omega)), trivial, trivial⟩ ⟨trivial, (Or.inl (show (s + 2) < w.length by omega)), trivial⟩ (fun X hT => ?_)
    have hB := hB.tie hT (by rw [hl_0]; omega)
    clear hT
    obtain ⟨hC, hnl, hE, hR, hN, hNm⟩ := id hB
    obtain ⟨w_1, ew_1⟩ : ∃ z, z = w ++ [(mO 4 [.null, .int 0, .int 0, .int 0])] := ⟨_, rfl⟩
    have hl_1 : w_1.length = (z + 1) := by rw [ew_1, List.length_append, hl_0]; rfl
    have hw_1 : mLowW w_1.length w_1 := by rw [hl_1, ew_1]; exact (mLowW.mono (by rw [hl_0]; omega) hw_0).app (mLowW.cons ⟨trivial, trivial, trivial, trivial, trivial⟩ mLowW.nil)
    have hf1_s : w_1[s]? = some (mO 5 [.ref (s + 1), .ref (s + 2), .int 0, .int 0]) := by rw [ew_1, List.getElem?_append_left (lt_of_get hs)]; exact hs
    have hf1__s___2_ : w_1[(s + 2)]? = some (.inl (4, 12, .inr (.inr (.inr (.inr (cmF s c)))))) := by rw [ew_1, List.getElem?_append_left (lt_of_get hq)]; exact hq
    have hf1_pre : TxPre w0 w_1 s c := TxPre.mono hT (fun k h8 h9 => by rw [ew_1, List.getElem?_append_left (by rw [hl_0]; omega)])
    have hf1_z : w_1[z]? = some (mO 4 [.null, .int 0, .int 0, .int 0]) := by rw [ew_1, List.getElem?_append_right (by rw [hl_0]; exact Nat.le_refl _), hl_0, Nat.sub_self]; rfl
    rw [← ew_1, hl_0]
    show Wp X (k + 1) (n + 4) w_1 [(0, .ref s), (1, .int (nI c))] [.ref z, .int (nI c), .ref (s + 2)] _
    refine r_dup hC dX2_init_40 rfl ?_
    refine n_callIN hC (vs := []) vX2_init_41 (cn_cmd (d := d + 1) (s := z) hl_1 hf1_z hw_1 (by omega)) rfl (by omega) (by omega) (by omega) (Nat.le_of_ble_eq_true rfl) ⟨(Or.inl (show s < w_1.length by omega)), trivial, trivial⟩ ⟨(Or.inl (show z < w_1.length by omega)), trivial, (Or.inl (show (s + 2) < w_1.length by omega)), trivial⟩ (fun v_2 w_2 X hT hP_2 hlen_2 => ?_)
    have hB := hB.tie hT (by rw [hl_1]; omega)
    clear hT
    obtain ⟨hC, hnl, hE, hR, hN, hNm⟩ := id hB
    obtain ⟨rfl, ⟨hl_2, hw_2, hk_2⟩, hP_2⟩ := hP_2
    rw [hl_1] at hl_2
    have hf2_s : w_2[s]? = some (mO 5 [.ref (s + 1), .ref (s + 2), .int 0, .int 0]) := by rw [hk_2 s (by omega)]; exact hf1_s
    have hf2__s___2_ : w_2[(s + 2)]? = some (.inl (4, 12, .inr (.inr (.inr (.inr (cmF s c)))))) := by rw [hk_2 (s + 2) (by omega)]; exact hf1__s___2_
    have hf2_pre : TxPre w0 w_2 s c := TxPre.mono hf1_pre (fun k h8 h9 => by rw [hk_2 k (by omega)])
    show Wp X ((k + 1) + 0) ((n + 4) + 0) w_2 [(0, .ref s), (1, .int (nI c))] [.ref z, .int (nI c), .ref (s + 2)] 44
    refine r_aast hC (j := c) dX2_init_44 hf2__s___2_ (fun _ => rfl) hP_2 rfl (mIx_nI (by omega) (by decide)) (fun w_3 ew_3 => ?_)
    rw [ez, cmF_up] at ew_3
    replace ew_3 : w_3 = (w_2).set ((s + 2)) (.inl (4, 12, .inr (.inr (.inr (.inr (cmF s (c + 1))))))) := ew_3
    have hl_3 : w_3.length = (z + 1) := by rw [ew_3, List.length_set, hl_2]
    have hw_3 : mLowW w_3.length w_3 := by rw [hl_3, ew_3]; exact mLowW.set (by rw [← hl_2]; exact hw_2) (fun i b e => Or.inl (show b < (z + 1) by have := cmF_lt e; omega))
    have hf3_s : w_3[s]? = some (mO 5 [.ref (s + 1), .ref (s + 2), .int 0, .int 0]) := by rw [ew_3, List.getElem?_set_ne (by omega)]; exact hf2_s
    have hf3__s___2_ : w_3[(s + 2)]? = some (.inl (4, 12, .inr (.inr (.inr (.inr (cmF s (c + 1))))))) := by rw [ew_3]; exact List.getElem?_set_self (lt_of_get hf2__s___2_)
    have hf3_pre : TxPre w0 w_3 s c := TxPre.mono hf2_pre (fun k h8 h9 => by rw [ew_3, List.getElem?_set_ne (by omega)])
    have hf3_z : w_3[z]? = some (mO 4 [.ref 1000024, .int 0, .int 0, .int 0]) := by rw [ew_3, List.getElem?_set_ne (by omega)]; exact hP_2
    refine r_iinc hC dX2_init_45 (j := 1) rfl (v := nI (c + 1)) (nI_succ c).symm (by rw [hnl]; decide) (L' := [(1, .int (nI (c + 1))), (0, .ref s)]) rfl ?_
    refine r_goto hC dX2_init_48 (tgt := 26) (by decide) ?_
    refine r_locals [1, 0] (L' := [(0, .ref s), (1, .int (nI (c + 1)))]) rfl ?_
    exact ih (c + 1) X w_3 _ _ (by omega) (by omega) (by omega) hB (by rw [hl_3, ez]; omega) hw_3 hf3_s hf3__s___2_ (TxPre.step hf3_pre (by rw [← ez]; exact hf3_z))
set_option maxRecDepth 100000 in
set_option maxHeartbeats 4000000 in
theorem cn_text {d : Nat} {w : mW} {s : Nat}  (hl_0 : w.length = s + 1) (hk : w[s]? = some (mO 5 [.null, .null, .int 0, .int 0])) (hw_0 : mLowW w.length w) (hmax : s < 930000)  : SpN (d + 2) yX2_init cX2_init 2 none [.ref s] w 15 80 (fun v w9 => v = none ∧ Gn w w9 s 14 ∧ TxAt w9 s [] 0 0 (fun _ => (4, 0, 0, 0))) := by
  refine SpN.of (by decide +kernel) (Nat.le_of_ble_eq_true rfl) (fun X hC hnl hE hR hN hNm => ?_)
  have hC : Cx X RX2 cX2_init (d + 2) 15 80 := hC
  have hB := NB.mk hC hnl hE hR hN hNm
  show Wp X 0 0 w [(0, .ref s)] [] 0
  obtain ⟨hC, hnl, hE, hR, hN, hNm⟩ := id hB
  refine r_aload_n hC dX2_init_0 rfl (j := 0) rfl ?_
  refine r_objI hC oX2_init_1 (Nat.le_of_ble_eq_true rfl) ?_
  refine r_aload_n hC dX2_init_4 rfl (j := 0) rfl ?_
  refine n_new hC nX2_init_5 (fun _ => rfl) hw_0 (by rw [hl_0]; omega) (by omega) (by omega) ⟨(Or.inl (show s < w.length by omega)), trivial⟩ ⟨(Or.inl (show s < w.length by omega)), trivial⟩ (fun X hT => ?_)
  have hB := hB.tie hT (by rw [hl_0]; omega)
  clear hT
  obtain ⟨hC, hnl, hE, hR, hN, hNm⟩ := id hB
  obtain ⟨w_1, ew_1⟩ : ∃ z, z = w ++ [(mO 1 [.null, .int 0, .int 0, .int 0])] := ⟨_, rfl⟩
  have hl_1 : w_1.length = (s + 2) := by rw [ew_1, List.length_append, hl_0]; rfl
  have hw_1 : mLowW w_1.length w_1 := by rw [hl_1, ew_1]; exact (mLowW.mono (by rw [hl_0]; omega) hw_0).app (mLowW.cons ⟨trivial, trivial, trivial, trivial, trivial⟩ mLowW.nil)
  have hf1_s : w_1[s]? = some (mO 5 [.null, .null, .int 0, .int 0]) := by rw [ew_1, List.getElem?_append_left (lt_of_get hk)]; exact hk
  have hf1__s___1_ : w_1[(s + 1)]? = some (mO 1 [.null, .int 0, .int 0, .int 0]) := by rw [ew_1, List.getElem?_append_right (by rw [hl_0]; exact Nat.le_refl _), hl_0, Nat.sub_self]; rfl
  rw [← ew_1, hl_0]
  show Wp X (0 + 1) (0 + 4) w_1 [(0, .ref s)] [.ref (s + 1), .ref s] _
  refine r_dup hC dX2_init_8 rfl ?_
  refine n_callI hC (vs := []) vX2_init_9 (st_init' (d := d) (k := s + 1) hl_1 hf1__s___1_ hw_1 (by omega)) rfl (by omega) (by omega) (by omega) (Nat.le_of_ble_eq_true rfl) ⟨(Or.inl (show s < w_1.length by omega)), trivial⟩ ⟨(Or.inl (show (s + 1) < w_1.length by omega)), (Or.inl (show s < w_1.length by omega)), trivial⟩ (fun v_2 w_2 X hT hP_2 hlen_2 => ?_)
  have hB := hB.tie hT (by rw [hl_1]; omega)
  clear hT
  obtain ⟨hC, hnl, hE, hR, hN, hNm⟩ := id hB
  obtain ⟨rfl, ⟨hl_2, hw_2, hk_2⟩, hP_2⟩ := hP_2
  rw [hl_1] at hl_2
  have hf2_s : w_2[s]? = some (mO 5 [.null, .null, .int 0, .int 0]) := by rw [hk_2 s (by omega)]; exact hf1_s
  show Wp X ((0 + 1) + 1) ((0 + 4) + 16) w_2 [(0, .ref s)] [.ref (s + 1), .ref s] 12
  refine n_putI' hC hNm pX2_init_12 hf2_s (Nat.le_of_ble_eq_true rfl) (fun _ => rfl) (fun _ => rfl) (fun w_3 ew_3 => ?_)
  replace ew_3 : w_3 = (w_2).set (s) (mO 5 [.ref (s + 1), .null, .int 0, .int 0]) := ew_3
  have hl_3 : w_3.length = (s + 2) := by rw [ew_3, List.length_set, hl_2]
  have hw_3 : mLowW w_3.length w_3 := by rw [hl_3, ew_3]; exact mLowW.set (by rw [← hl_2]; exact hw_2) ⟨(Or.inl (show (s + 1) < (s + 2) by omega)), trivial, trivial, trivial, trivial⟩
  have hf3_s : w_3[s]? = some (mO 5 [.ref (s + 1), .null, .int 0, .int 0]) := by rw [ew_3]; exact List.getElem?_set_self (lt_of_get hf2_s)
  have hf3__s___1_ : w_3[(s + 1)]? = some (mT []) := by rw [ew_3, List.getElem?_set_ne (by omega)]; exact hP_2
  refine r_aload_n hC dX2_init_15 rfl (j := 0) rfl ?_
  refine r_bipush hC dX2_init_16 (v := 12) (by decide) ?_
  refine n_newq hC (C := RX1) (t := 4) (N := 12) clX2_18 ao_X1 (fun _ => rfl) (by decide) (by decide) (by decide) dX2_init_18 hw_3 (by rw [hl_3]; omega) (by omega) (by omega) ⟨(Or.inl (show s < w_3.length by omega)), trivial⟩ ⟨(Or.inl (show s < w_3.length by omega)), trivial⟩ (fun X hT => ?_)
  have hB := hB.tie hT (by rw [hl_3]; omega)
  clear hT
  obtain ⟨hC, hnl, hE, hR, hN, hNm⟩ := id hB
  obtain ⟨w_4, ew_4⟩ : ∃ z, z = w_3 ++ [(.inl (4, 12, .inr (.inr (.inr (.inr (fun _ => none))))))] := ⟨_, rfl⟩
  have hl_4 : w_4.length = (s + 3) := by rw [ew_4, List.length_append, hl_3]; rfl
  have hw_4 : mLowW w_4.length w_4 := by rw [hl_4, ew_4]; exact (mLowW.mono (by rw [hl_3]; omega) hw_3).app (mLowW.cons (fun i b e => by cases e) mLowW.nil)
  have hf4_s : w_4[s]? = some (mO 5 [.ref (s + 1), .null, .int 0, .int 0]) := by rw [ew_4, List.getElem?_append_left (lt_of_get hf3_s)]; exact hf3_s
  have hf4__s___1_ : w_4[(s + 1)]? = some (mT []) := by rw [ew_4, List.getElem?_append_left (lt_of_get hf3__s___1_)]; exact hf3__s___1_
  have hf4__s___2_ : w_4[(s + 2)]? = some (.inl (4, 12, .inr (.inr (.inr (.inr (fun _ => none)))))) := by rw [ew_4, List.getElem?_append_right (by rw [hl_3]; exact Nat.le_refl _), hl_3, Nat.sub_self]; rfl
  rw [← ew_4, hl_3]
  show Wp X (((0 + 1) + 1) + 1) (((0 + 4) + 16) + 12) w_4 [(0, .ref s)] [.ref (s + 2), .ref s] _
  refine n_putI' hC hNm pX2_init_21 hf4_s (Nat.le_of_ble_eq_true rfl) (fun _ => rfl) (fun _ => rfl) (fun w_5 ew_5 => ?_)
  replace ew_5 : w_5 = (w_4).set (s) (mO 5 [.ref (s + 1), .ref (s + 2), .int 0, .int 0]) := ew_5
  have hl_5 : w_5.length = (s + 3) := by rw [ew_5, List.length_set, hl_4]
  have hw_5 : mLowW w_5.length w_5 := by rw [hl_5, ew_5]; exact mLowW.set (by rw [← hl_4]; exact hw_4) ⟨(Or.inl (show (s + 1) < (s + 3) by omega)), (Or.inl (show (s + 2) < (s + 3) by omega)), trivial, trivial, trivial⟩
  have hf5_s : w_5[s]? = some (mO 5 [.ref (s + 1), .ref (s + 2), .int 0, .int 0]) := by rw [ew_5]; exact List.getElem?_set_self (lt_of_get hf4_s)
  have hf5__s___1_ : w_5[(s + 1)]? = some (mT []) := by rw [ew_5, List.getElem?_set_ne (by omega)]; exact hf4__s___1_
  have hf5__s___2_ : w_5[(s + 2)]? = some (.inl (4, 12, .inr (.inr (.inr (.inr (fun _ => none)))))) := by rw [ew_5, List.getElem?_set_ne (by omega)]; exact hf4__s___2_
  refine r_iconst hC dX2_init_24 (v := 0) (by decide) ?_
  refine r_istore_n hC dX2_init_25 rfl (by rw [hnl]; decide) (L' := [(1, .int 0), (0, .ref s)]) rfl ?_
  refine r_locals [1, 0] (L' := [(0, .ref s), (1, .int 0)]) rfl ?_
  exact tx_all (d := d) hl_0 hmax rfl 12 0 X w_5 _ _ rfl (by omega) (by omega) hB hl_5 hw_5 hf5_s (by rw [cmF_0]; exact hf5__s___2_) ⟨fun i hi => absurd hi (Nat.not_lt_zero i), hf5__s___1_, fun k h9 => by rw [ew_5, List.getElem?_set_ne (by omega), ew_4, List.getElem?_append_left (by rw [hl_3]; omega), ew_3, List.getElem?_set_ne (by omega), hk_2 k (by omega), ew_1, List.getElem?_append_left (by rw [hl_0]; omega)]⟩
/-- the states of the history: c of them -/
def hsF (x c : Nat) : Nat → Option Nat := fun i => if i < c then some (x + 41 + 6 * i) else none
theorem hsF_lt {t c i b : Nat} (h : hsF t c i = some b) : b < t + 41 + 6 * c := by
  unfold hsF at h
  split at h
  · have := Option.some.inj h; omega
  · cases h
theorem hsF_0 {t : Nat} : hsF t 0 = (fun _ => none) := funext fun j => if_neg (Nat.not_lt_zero j)
theorem hsF_up {t c : Nat} : va_up (hsF t c) c (some (t + 41 + 6 * c)) = hsF t (c + 1) := by
  funext q
  unfold va_up hsF
  by_cases z : q = c
  · subst z
    simp
  · by_cases z2 : q < c
    · have z3 : q < c + 1 := by omega
      simp [z, z2, z3]
    · have z3 : ¬ q < c + 1 := by omega
      simp [z, z2, z3]
/-- what the contest's maker has made before the c-th state of its history -/
def HcPre (w0 w : mW) (s c : Nat) : Prop := StAt w (s + 1) sv0 ∧ StAt w (s + 7) sv0 ∧ StAt w (s + 13) sv0 ∧ TrAt w (s + 20) hill0 (fun _ => 0) 0 ∧ TxAt w (s + 25) [] 0 0 (fun _ => (4, 0, 0, 0)) ∧ w[s + 40]? = some (mT []) ∧ (∀ i, i < c → StAt w (s + 41 + 6 * i) sv0) ∧ ∀ k, k < s → w[k]? = w0[k]?
theorem HcPre.mono {w0 w w' : mW} {s c : Nat} (H : HcPre w0 w s c) (h : ∀ k, k < s + 41 + 6 * c → (k ≠ s ∧ k ≠ s + 19) → w'[k]? = w[k]?) : HcPre w0 w' s c := by
  obtain ⟨h1, h2, h3, h4, h5, h6, h7, h8⟩ := H
  exact ⟨h1.mono (fun k _ _ => h k (by omega) (by omega)), h2.mono (fun k _ _ => h k (by omega) (by omega)), h3.mono (fun k _ _ => h k (by omega) (by omega)), h4.mono (fun k _ _ => h k (by omega) (by omega)), h5.mono (fun k _ _ => h k (by omega) (by omega)), (h _ (by omega) (by omega)).trans h6, fun i hi => (h7 i hi).mono (fun k _ _ => h k (by omega) (by omega)), fun k hk => (h k (by omega) (by omega)).trans (h8 k hk)⟩
theorem HcPre.step {w0 w : mW} {s c : Nat} (H : HcPre w0 w s c) (h : StAt w (s + 41 + 6 * c) sv0) : HcPre w0 w s (c + 1) := by
  obtain ⟨h1, h2, h3, h4, h5, h6, h7, h8⟩ := H
  refine ⟨h1, h2, h3, h4, h5, h6, fun i hi => ?_, h8⟩
  rcases Nat.lt_or_ge i c with z | z
  · exact h7 i z
  · obtain rfl : i = c := by omega
    exact h
/-- the class's contest at x: its state, the states that can come back (the newest last), error position, failed command, snapshot, buffer, line -/
def CtAt (w : mW) (x : Nat) (y : sv) (l : List sv) (ea fa : Int32) (so : Option sv) (tx ln : List Nat) : Prop :=
  ∃ (ol : Nat) (hs : Nat → sv) (yb ys : sv) (hx : hv) (q : Nat → Int32) (qn : Nat) (cn ps : Int32) (cs : Nat → cmdT),
    w[x]? = some (mO 9 [.ref (x + 1), .ref (x + 7), .ref (x + 13), .int (bI so.isSome), .ref (x + 19), .int (nI ol), .int (nI l.length), .ref (x + 20), .ref (x + 25), .int ea, .int fa, .ref (x + 40)]) ∧ StAt w (x + 1) y ∧ StAt w (x + 7) yb ∧ StAt w (x + 13) ys ∧ w[x + 19]? = some (.inl (3, 8, .inr (.inr (.inr (.inr (hsF x 8)))))) ∧ TrAt w (x + 20) hx q qn ∧ TxAt w (x + 25) tx cn ps cs ∧ w[x + 40]? = some (mT ln) ∧ (∀ i, i < 8 → StAt w (x + 41 + 6 * i) (hs i)) ∧ ol < 8 ∧ l.length ≤ 8 ∧ (∀ i z, l[i]? = some z → hs ((ol + i) % 8) = z) ∧ ∀ z, so = some z → ys = z
set_option maxRecDepth 100000 in
set_option maxHeartbeats 4000000 in
theorem hs_all {d s n0 : Nat} {w0 : mW} (h0 : w0.length = s + 1) (hmax : s < 900000) (hn0 : n0 = w0.length) : ∀ (i9 c : Nat) (X : mC) (w : mW) (k n : Nat), c + i9 = 8 → k + 6 * i9 ≤ 90 → n + 77 * i9 ≤ 1043 → NB X RX8 cX8_init (d + 3) 90 1043 2 n0 (fun v w9 => v = none ∧ Gn w0 w9 s 88 ∧ CtAt w9 s sv0 [] (-1) (-1) none [] []) none "<init>" → w.length = s + 41 + 6 * c → mLowW w.length w → w[s]? = some (mO 9 [.ref (s + 1), .ref (s + 7), .ref (s + 13), .int 0, .ref (s + 19), .int 0, .int 0, .ref (s + 20), .ref (s + 25), .int (-1), .int (-1), .ref (s + 40)]) → w[s + 19]? = some (.inl (3, 8, .inr (.inr (.inr (.inr (hsF s c)))))) → HcPre w0 w s c → Wp X k n w [(0, .ref s), (1, .int (nI c))] [] 91 := by
  intro i9
  induction i9 with
  | zero =>
    intro c X w k n h9 hk9 hn9 hB hl hw hs hq hT
    obtain rfl : c = 8 := by omega
    obtain ⟨hC, hnl, hE, hR, hN, hNm⟩ := id hB
    refine r_iload_n hC dX8_init_91 rfl (j := 1) rfl ?_
    refine r_bipush hC dX8_init_92 (v := 8) (by decide) ?_
    refine r_icmp_ge hC dX8_init_94 (tgt := 116) (by decide) (fun _ => ?_) (fun h => absurd (by decide) h)
    refine r_locals [] (L' := []) rfl ?_
    refine n_vret hC hE hR dX8_init_116 (by omega) (by omega) (by omega) ?_
    obtain ⟨h1, h2, h3, h4, h5, h6, h7, h8⟩ := hT
    exact ⟨rfl, ⟨by omega, hw, h8⟩, 0, fun _ => sv0, sv0, sv0, hill0, fun _ => 0, 0, 0, 0, fun _ => (4, 0, 0, 0), hs, h1, h2, h3, hq, h4, h5, h6, h7, by decide, by decide, fun i z e => by simp at e, fun z e => by cases e⟩
  | succ i9 ih =>
    intro c X w k n h9 hk9 hn9 hB hl hw_0 hs hq hT
    have hc : c < 8 := by omega
    obtain ⟨z, ez⟩ : ∃ z, z = s + 41 + 6 * c := ⟨_, rfl⟩
    have hl_0 : w.length = z := hl.trans ez.symm
    obtain ⟨hC, hnl, hE, hR, hN, hNm⟩ := id hB
    refine r_iload_n hC dX8_init_91 rfl (j := 1) rfl ?_
    refine r_bipush hC dX8_init_92 (v := 8) (by decide) ?_
    refine r_icmp_ge hC dX8_init_94 (tgt := 116) (by decide) (fun h => absurd h (fun h : (8 : Int32) ≤ nI c => absurd ((nI_leI (a := 8) (b := c) (by decide) (by omega)).mp h) (by omega))) (fun _ => ?_)
    refine r_aload_n hC dX8_init_97 rfl (j := 0) rfl ?_
    refine r_get hC gX8_init_98 hs (v := .ref (s + 19)) rfl ?_
    refine r_iload_n hC dX8_init_101 rfl (j := 1) rfl ?_
    refine n_new hC nX8_init_102 (fun _ => rfl) hw_0 (by rw [hl_0]; omega) (by omega) (by omega) ⟨(Or.inl (show s < w.length by omega)), trivial, trivial⟩ ⟨trivial, (Or.inl (show (s + 19) < w.length by omega)), trivial⟩ (fun X hT => ?_)
    have hB := hB.tie hT (by rw [hl_0]; omega)
    clear hT
    obtain ⟨hC, hnl, hE, hR, hN, hNm⟩ := id hB
    obtain ⟨w_1, ew_1⟩ : ∃ z, z = w ++ [(mO 7 [.null, .null, .null, .int 0, .int 0, .int 0, .int 0, .int 0, .int 0])] := ⟨_, rfl⟩
    have hl_1 : w_1.length = (z + 1) := by rw [ew_1, List.length_append, hl_0]; rfl
    have hw_1 : mLowW w_1.length w_1 := by rw [hl_1, ew_1]; exact (mLowW.mono (by rw [hl_0]; omega) hw_0).app (mLowW.cons ⟨trivial, trivial, trivial, trivial, trivial, trivial, trivial, trivial, trivial, trivial⟩ mLowW.nil)
    have hf1_s : w_1[s]? = some (mO 9 [.ref (s + 1), .ref (s + 7), .ref (s + 13), .int 0, .ref (s + 19), .int 0, .int 0, .ref (s + 20), .ref (s + 25), .int (-1), .int (-1), .ref (s + 40)]) := by rw [ew_1, List.getElem?_append_left (lt_of_get hs)]; exact hs
    have hf1__s___19_ : w_1[(s + 19)]? = some (.inl (3, 8, .inr (.inr (.inr (.inr (hsF s c)))))) := by rw [ew_1, List.getElem?_append_left (lt_of_get hq)]; exact hq
    have hf1_pre : HcPre w0 w_1 s c := HcPre.mono hT (fun k h8 h9 => by rw [ew_1, List.getElem?_append_left (by rw [hl_0]; omega)])
    have hf1_z : w_1[z]? = some (mO 7 [.null, .null, .null, .int 0, .int 0, .int 0, .int 0, .int 0, .int 0]) := by rw [ew_1, List.getElem?_append_right (by rw [hl_0]; exact Nat.le_refl _), hl_0, Nat.sub_self]; rfl
    rw [← ew_1, hl_0]
    show Wp X (k + 1) (n + 9) w_1 [(0, .ref s), (1, .int (nI c))] [.ref z, .int (nI c), .ref (s + 19)] _
    refine r_dup hC dX8_init_105 rfl ?_
    refine n_callIN hC (vs := []) vX8_init_106 (cn_state (d := d + 1) (s := z) hl_1 hf1_z hw_1 (by omega)) rfl (by omega) (by omega) (by omega) (Nat.le_of_ble_eq_true rfl) ⟨(Or.inl (show s < w_1.length by omega)), trivial, trivial⟩ ⟨(Or.inl (show z < w_1.length by omega)), trivial, (Or.inl (show (s + 19) < w_1.length by omega)), trivial⟩ (fun v_2 w_2 X hT hP_2 hlen_2 => ?_)
    have hB := hB.tie hT (by rw [hl_1]; omega)
    clear hT
    obtain ⟨hC, hnl, hE, hR, hN, hNm⟩ := id hB
    obtain ⟨rfl, ⟨hl_2, hw_2, hk_2⟩, hP_2⟩ := hP_2
    rw [hl_1] at hl_2
    replace hl_2 : w_2.length = (z + 6) := by omega
    have hf2_s : w_2[s]? = some (mO 9 [.ref (s + 1), .ref (s + 7), .ref (s + 13), .int 0, .ref (s + 19), .int 0, .int 0, .ref (s + 20), .ref (s + 25), .int (-1), .int (-1), .ref (s + 40)]) := by rw [hk_2 s (by omega)]; exact hf1_s
    have hf2__s___19_ : w_2[(s + 19)]? = some (.inl (3, 8, .inr (.inr (.inr (.inr (hsF s c)))))) := by rw [hk_2 (s + 19) (by omega)]; exact hf1__s___19_
    have hf2_pre : HcPre w0 w_2 s c := HcPre.mono hf1_pre (fun k h8 h9 => by rw [hk_2 k (by omega)])
    show Wp X ((k + 1) + 5) ((n + 9) + 68) w_2 [(0, .ref s), (1, .int (nI c))] [.ref z, .int (nI c), .ref (s + 19)] 109
    have hz9 : w_2[z]? = some (mO 7 _) := hP_2.1
    refine r_aast hC (j := c) dX8_init_109 hf2__s___19_ (fun _ => rfl) hz9 rfl (mIx_nI (by omega) (by decide)) (fun w_3 ew_3 => ?_)
    rw [ez, hsF_up] at ew_3
    replace ew_3 : w_3 = (w_2).set ((s + 19)) (.inl (3, 8, .inr (.inr (.inr (.inr (hsF s (c + 1))))))) := ew_3
    have hl_3 : w_3.length = (z + 6) := by rw [ew_3, List.length_set, hl_2]
    have hw_3 : mLowW w_3.length w_3 := by rw [hl_3, ew_3]; exact mLowW.set (by rw [← hl_2]; exact hw_2) (fun i b e => Or.inl (show b < (z + 6) by have := hsF_lt e; omega))
    have hf3_s : w_3[s]? = some (mO 9 [.ref (s + 1), .ref (s + 7), .ref (s + 13), .int 0, .ref (s + 19), .int 0, .int 0, .ref (s + 20), .ref (s + 25), .int (-1), .int (-1), .ref (s + 40)]) := by rw [ew_3, List.getElem?_set_ne (by omega)]; exact hf2_s
    have hf3__s___19_ : w_3[(s + 19)]? = some (.inl (3, 8, .inr (.inr (.inr (.inr (hsF s (c + 1))))))) := by rw [ew_3]; exact List.getElem?_set_self (lt_of_get hf2__s___19_)
    have hf3_pre : HcPre w0 w_3 s c := HcPre.mono hf2_pre (fun k h8 h9 => by rw [ew_3, List.getElem?_set_ne (by omega)])
    have hf3_stz : StAt w_3 z sv0 := StAt.mono hP_2 (fun k h8 h9 => by rw [ew_3, List.getElem?_set_ne (by omega)])
    refine r_iinc hC dX8_init_110 (j := 1) rfl (v := nI (c + 1)) (nI_succ c).symm (by rw [hnl]; decide) (L' := [(1, .int (nI (c + 1))), (0, .ref s)]) rfl ?_
    refine r_goto hC dX8_init_113 (tgt := 91) (by decide) ?_
    refine r_locals [1, 0] (L' := [(0, .ref s), (1, .int (nI (c + 1)))]) rfl ?_
    exact ih (c + 1) X w_3 _ _ (by omega) (by omega) (by omega) hB (by rw [hl_3, ez]; omega) hw_3 hf3_s hf3__s___19_ (HcPre.step hf3_pre (by rw [← ez]; exact hf3_stz))
def LowK (w0 w : mW) (s : Nat) : Prop := ∀ k, k < s → w[k]? = w0[k]?
theorem LowK.mono {w0 w w' : mW} {s : Nat} (H : LowK w0 w s) (h : ∀ k, 0 ≤ k → k < s → w'[k]? = w[k]?) : LowK w0 w' s := fun k hk => (h k (Nat.zero_le k) hk).trans (H k hk)
set_option maxRecDepth 100000 in
set_option maxHeartbeats 4000000 in
theorem hx_1 {X : mC} {d s n0 k n : Nat} {w0 w : mW}  (hmax : s < 900000) (h0 : w0.length = s + 1) (hn0 : n0 = w0.length) (hB : NB X RX8 cX8_init (d + 3) 90 1043 2 n0 (fun v w9 => v = none ∧ Gn w0 w9 s 88 ∧ CtAt w9 s sv0 [] (-1) (-1) none [] []) none "<init>") (hl_0 : w.length = (s + 1)) (hw_0 : mLowW w.length w) (hk : w[s]? = some (mO 9 [.null, .null, .null, .int 0, .null, .int 0, .int 0, .null, .null, .int 0, .int 0, .null])) (hlow : LowK w0 w s)  (hk9 : ((k + 1) + 5) ≤ 90) (hn9 : ((n + 9) + 68) ≤ 1043) (kk : ∀ (X : mC) (w' : mW), NB X RX8 cX8_init (d + 3) 90 1043 2 n0 (fun v w9 => v = none ∧ Gn w0 w9 s 88 ∧ CtAt w9 s sv0 [] (-1) (-1) none [] []) none "<init>" → w'.length = (s + 7) → mLowW w'.length w' → w'[s]? = some (mO 9 [.ref (s + 1), .null, .null, .int 0, .null, .int 0, .int 0, .null, .null, .int 0, .int 0, .null]) → LowK w0 w' s → StAt w' (s + 1) sv0 → Wp X ((k + 1) + 5) ((n + 9) + 68) w' [(0, .ref s)] [] 15) : Wp X k n w [(0, .ref s)] [] 4 := by
  obtain ⟨hC, hnl, hE, hR, hN, hNm⟩ := id hB
  refine r_aload_n hC dX8_init_4 rfl (j := 0) rfl ?_
  refine n_new hC nX8_init_5 (fun _ => rfl) hw_0 (by rw [hl_0]; omega) (by omega) (by omega) ⟨(Or.inl (show s < w.length by omega)), trivial⟩ ⟨(Or.inl (show s < w.length by omega)), trivial⟩ (fun X hT => ?_)
  have hB := hB.tie hT (by rw [hl_0]; omega)
  clear hT
  obtain ⟨hC, hnl, hE, hR, hN, hNm⟩ := id hB
  obtain ⟨w_1, ew_1⟩ : ∃ z, z = w ++ [(mO 7 [.null, .null, .null, .int 0, .int 0, .int 0, .int 0, .int 0, .int 0])] := ⟨_, rfl⟩
  have hl_1 : w_1.length = (s + 2) := by rw [ew_1, List.length_append, hl_0]; rfl
  have hw_1 : mLowW w_1.length w_1 := by rw [hl_1, ew_1]; exact (mLowW.mono (by rw [hl_0]; omega) hw_0).app (mLowW.cons ⟨trivial, trivial, trivial, trivial, trivial, trivial, trivial, trivial, trivial, trivial⟩ mLowW.nil)
  have hf1_s : w_1[s]? = some (mO 9 [.null, .null, .null, .int 0, .null, .int 0, .int 0, .null, .null, .int 0, .int 0, .null]) := by rw [ew_1, List.getElem?_append_left (lt_of_get hk)]; exact hk
  have hf1_low : LowK w0 w_1 s := LowK.mono hlow (fun k h8 h9 => by rw [ew_1, List.getElem?_append_left (by rw [hl_0]; omega)])
  have hf1__s___1_ : w_1[(s + 1)]? = some (mO 7 [.null, .null, .null, .int 0, .int 0, .int 0, .int 0, .int 0, .int 0]) := by rw [ew_1, List.getElem?_append_right (by rw [hl_0]; exact Nat.le_refl _), hl_0, Nat.sub_self]; rfl
  rw [← ew_1, hl_0]
  show Wp X (k + 1) (n + 9) w_1 [(0, .ref s)] [.ref (s + 1), .ref s] _
  refine r_dup hC dX8_init_8 rfl ?_
  refine n_callIN hC (vs := []) vX8_init_9 (cn_state (d := d + 1) (s := s + 1) hl_1 hf1__s___1_ hw_1 (by omega)) rfl (by omega) (by omega) (by omega) (Nat.le_of_ble_eq_true rfl) ⟨(Or.inl (show s < w_1.length by omega)), trivial⟩ ⟨(Or.inl (show (s + 1) < w_1.length by omega)), (Or.inl (show s < w_1.length by omega)), trivial⟩ (fun v_2 w_2 X hT hP_2 hlen_2 => ?_)
  have hB := hB.tie hT (by rw [hl_1]; omega)
  clear hT
  obtain ⟨hC, hnl, hE, hR, hN, hNm⟩ := id hB
  obtain ⟨rfl, ⟨hl_2, hw_2, hk_2⟩, hP_2⟩ := hP_2
  rw [hl_1] at hl_2
  replace hl_2 : w_2.length = (s + 7) := by omega
  have hf2_s : w_2[s]? = some (mO 9 [.null, .null, .null, .int 0, .null, .int 0, .int 0, .null, .null, .int 0, .int 0, .null]) := by rw [hk_2 s (by omega)]; exact hf1_s
  have hf2_low : LowK w0 w_2 s := LowK.mono hf1_low (fun k h8 h9 => by rw [hk_2 k (by omega)])
  show Wp X ((k + 1) + 5) ((n + 9) + 68) w_2 [(0, .ref s)] [.ref (s + 1), .ref s] 12
  refine n_putI' hC hNm pX8_init_12 hf2_s (Nat.le_of_ble_eq_true rfl) (fun _ => rfl) (fun _ => rfl) (fun w_3 ew_3 => ?_)
  replace ew_3 : w_3 = (w_2).set (s) (mO 9 [.ref (s + 1), .null, .null, .int 0, .null, .int 0, .int 0, .null, .null, .int 0, .int 0, .null]) := ew_3
  have hl_3 : w_3.length = (s + 7) := by rw [ew_3, List.length_set, hl_2]
  have hw_3 : mLowW w_3.length w_3 := by rw [hl_3, ew_3]; exact mLowW.set (by rw [← hl_2]; exact hw_2) ⟨(Or.inl (show (s + 1) < (s + 7) by omega)), trivial, trivial, trivial, trivial, trivial, trivial, trivial, trivial, trivial, trivial, trivial, trivial⟩
  have hf3_s : w_3[s]? = some (mO 9 [.ref (s + 1), .null, .null, .int 0, .null, .int 0, .int 0, .null, .null, .int 0, .int 0, .null]) := by rw [ew_3]; exact List.getElem?_set_self (lt_of_get hf2_s)
  have hf3_low : LowK w0 w_3 s := LowK.mono hf2_low (fun k h8 h9 => by rw [ew_3, List.getElem?_set_ne (by omega)])
  have hf3_st1 : StAt w_3 (s + 1) sv0 := StAt.mono hP_2 (fun k h8 h9 => by rw [ew_3, List.getElem?_set_ne (by omega)])
  
  exact kk X w_3 hB hl_3 hw_3 hf3_s hf3_low hf3_st1
set_option maxRecDepth 100000 in
set_option maxHeartbeats 4000000 in
theorem hx_2 {X : mC} {d s n0 k n : Nat} {w0 w : mW}  (hmax : s < 900000) (h0 : w0.length = s + 1) (hn0 : n0 = w0.length) (hB : NB X RX8 cX8_init (d + 3) 90 1043 2 n0 (fun v w9 => v = none ∧ Gn w0 w9 s 88 ∧ CtAt w9 s sv0 [] (-1) (-1) none [] []) none "<init>") (hl_0 : w.length = (s + 7)) (hw_0 : mLowW w.length w) (f0 : w[s]? = some (mO 9 [.ref (s + 1), .null, .null, .int 0, .null, .int 0, .int 0, .null, .null, .int 0, .int 0, .null])) (f1 : LowK w0 w s) (f2 : StAt w (s + 1) sv0)  (hk9 : ((k + 1) + 5) ≤ 90) (hn9 : ((n + 9) + 68) ≤ 1043) (kk : ∀ (X : mC) (w' : mW), NB X RX8 cX8_init (d + 3) 90 1043 2 n0 (fun v w9 => v = none ∧ Gn w0 w9 s 88 ∧ CtAt w9 s sv0 [] (-1) (-1) none [] []) none "<init>" → w'.length = (s + 13) → mLowW w'.length w' → w'[s]? = some (mO 9 [.ref (s + 1), .ref (s + 7), .null, .int 0, .null, .int 0, .int 0, .null, .null, .int 0, .int 0, .null]) → LowK w0 w' s → StAt w' (s + 1) sv0 → StAt w' (s + 7) sv0 → Wp X ((k + 1) + 5) ((n + 9) + 68) w' [(0, .ref s)] [] 26) : Wp X k n w [(0, .ref s)] [] 15 := by
  obtain ⟨hC, hnl, hE, hR, hN, hNm⟩ := id hB
  refine r_aload_n hC dX8_init_15 rfl (j := 0) rfl ?_
  refine n_new hC nX8_init_16 (fun _ => rfl) hw_0 (by rw [hl_0]; omega) (by omega) (by omega) ⟨(Or.inl (show s < w.length by omega)), trivial⟩ ⟨(Or.inl (show s < w.length by omega)), trivial⟩ (fun X hT => ?_)
  have hB := hB.tie hT (by rw [hl_0]; omega)
  clear hT
  obtain ⟨hC, hnl, hE, hR, hN, hNm⟩ := id hB
  obtain ⟨w_1, ew_1⟩ : ∃ z, z = w ++ [(mO 7 [.null, .null, .null, .int 0, .int 0, .int 0, .int 0, .int 0, .int 0])] := ⟨_, rfl⟩
  have hl_1 : w_1.length = (s + 8) := by rw [ew_1, List.length_append, hl_0]; rfl
  have hw_1 : mLowW w_1.length w_1 := by rw [hl_1, ew_1]; exact (mLowW.mono (by rw [hl_0]; omega) hw_0).app (mLowW.cons ⟨trivial, trivial, trivial, trivial, trivial, trivial, trivial, trivial, trivial, trivial⟩ mLowW.nil)
  have hf1_s : w_1[s]? = some (mO 9 [.ref (s + 1), .null, .null, .int 0, .null, .int 0, .int 0, .null, .null, .int 0, .int 0, .null]) := by rw [ew_1, List.getElem?_append_left (lt_of_get f0)]; exact f0
  have hf1_low : LowK w0 w_1 s := LowK.mono f1 (fun k h8 h9 => by rw [ew_1, List.getElem?_append_left (by rw [hl_0]; omega)])
  have hf1_st1 : StAt w_1 (s + 1) sv0 := StAt.mono f2 (fun k h8 h9 => by rw [ew_1, List.getElem?_append_left (by rw [hl_0]; omega)])
  have hf1__s___7_ : w_1[(s + 7)]? = some (mO 7 [.null, .null, .null, .int 0, .int 0, .int 0, .int 0, .int 0, .int 0]) := by rw [ew_1, List.getElem?_append_right (by rw [hl_0]; exact Nat.le_refl _), hl_0, Nat.sub_self]; rfl
  rw [← ew_1, hl_0]
  show Wp X (k + 1) (n + 9) w_1 [(0, .ref s)] [.ref (s + 7), .ref s] _
  refine r_dup hC dX8_init_19 rfl ?_
  refine n_callIN hC (vs := []) vX8_init_20 (cn_state (d := d + 1) (s := s + 7) hl_1 hf1__s___7_ hw_1 (by omega)) rfl (by omega) (by omega) (by omega) (Nat.le_of_ble_eq_true rfl) ⟨(Or.inl (show s < w_1.length by omega)), trivial⟩ ⟨(Or.inl (show (s + 7) < w_1.length by omega)), (Or.inl (show s < w_1.length by omega)), trivial⟩ (fun v_2 w_2 X hT hP_2 hlen_2 => ?_)
  have hB := hB.tie hT (by rw [hl_1]; omega)
  clear hT
  obtain ⟨hC, hnl, hE, hR, hN, hNm⟩ := id hB
  obtain ⟨rfl, ⟨hl_2, hw_2, hk_2⟩, hP_2⟩ := hP_2
  rw [hl_1] at hl_2
  replace hl_2 : w_2.length = (s + 13) := by omega
  have hf2_s : w_2[s]? = some (mO 9 [.ref (s + 1), .null, .null, .int 0, .null, .int 0, .int 0, .null, .null, .int 0, .int 0, .null]) := by rw [hk_2 s (by omega)]; exact hf1_s
  have hf2_low : LowK w0 w_2 s := LowK.mono hf1_low (fun k h8 h9 => by rw [hk_2 k (by omega)])
  have hf2_st1 : StAt w_2 (s + 1) sv0 := StAt.mono hf1_st1 (fun k h8 h9 => by rw [hk_2 k (by omega)])
  show Wp X ((k + 1) + 5) ((n + 9) + 68) w_2 [(0, .ref s)] [.ref (s + 7), .ref s] 23
  refine n_putI' hC hNm pX8_init_23 hf2_s (Nat.le_of_ble_eq_true rfl) (fun _ => rfl) (fun _ => rfl) (fun w_3 ew_3 => ?_)
  replace ew_3 : w_3 = (w_2).set (s) (mO 9 [.ref (s + 1), .ref (s + 7), .null, .int 0, .null, .int 0, .int 0, .null, .null, .int 0, .int 0, .null]) := ew_3
  have hl_3 : w_3.length = (s + 13) := by rw [ew_3, List.length_set, hl_2]
  have hw_3 : mLowW w_3.length w_3 := by rw [hl_3, ew_3]; exact mLowW.set (by rw [← hl_2]; exact hw_2) ⟨(Or.inl (show (s + 1) < (s + 13) by omega)), (Or.inl (show (s + 7) < (s + 13) by omega)), trivial, trivial, trivial, trivial, trivial, trivial, trivial, trivial, trivial, trivial, trivial⟩
  have hf3_s : w_3[s]? = some (mO 9 [.ref (s + 1), .ref (s + 7), .null, .int 0, .null, .int 0, .int 0, .null, .null, .int 0, .int 0, .null]) := by rw [ew_3]; exact List.getElem?_set_self (lt_of_get hf2_s)
  have hf3_low : LowK w0 w_3 s := LowK.mono hf2_low (fun k h8 h9 => by rw [ew_3, List.getElem?_set_ne (by omega)])
  have hf3_st1 : StAt w_3 (s + 1) sv0 := StAt.mono hf2_st1 (fun k h8 h9 => by rw [ew_3, List.getElem?_set_ne (by omega)])
  have hf3_st7 : StAt w_3 (s + 7) sv0 := StAt.mono hP_2 (fun k h8 h9 => by rw [ew_3, List.getElem?_set_ne (by omega)])
  
  exact kk X w_3 hB hl_3 hw_3 hf3_s hf3_low hf3_st1 hf3_st7
set_option maxRecDepth 100000 in
set_option maxHeartbeats 4000000 in
theorem hx_3 {X : mC} {d s n0 k n : Nat} {w0 w : mW}  (hmax : s < 900000) (h0 : w0.length = s + 1) (hn0 : n0 = w0.length) (hB : NB X RX8 cX8_init (d + 3) 90 1043 2 n0 (fun v w9 => v = none ∧ Gn w0 w9 s 88 ∧ CtAt w9 s sv0 [] (-1) (-1) none [] []) none "<init>") (hl_0 : w.length = (s + 13)) (hw_0 : mLowW w.length w) (f0 : w[s]? = some (mO 9 [.ref (s + 1), .ref (s + 7), .null, .int 0, .null, .int 0, .int 0, .null, .null, .int 0, .int 0, .null])) (f1 : LowK w0 w s) (f2 : StAt w (s + 1) sv0) (f3 : StAt w (s + 7) sv0)  (hk9 : ((k + 1) + 5) ≤ 90) (hn9 : ((n + 9) + 68) ≤ 1043) (kk : ∀ (X : mC) (w' : mW), NB X RX8 cX8_init (d + 3) 90 1043 2 n0 (fun v w9 => v = none ∧ Gn w0 w9 s 88 ∧ CtAt w9 s sv0 [] (-1) (-1) none [] []) none "<init>" → w'.length = (s + 19) → mLowW w'.length w' → w'[s]? = some (mO 9 [.ref (s + 1), .ref (s + 7), .ref (s + 13), .int 0, .null, .int 0, .int 0, .null, .null, .int 0, .int 0, .null]) → LowK w0 w' s → StAt w' (s + 1) sv0 → StAt w' (s + 7) sv0 → StAt w' (s + 13) sv0 → Wp X ((k + 1) + 5) ((n + 9) + 68) w' [(0, .ref s)] [] 37) : Wp X k n w [(0, .ref s)] [] 26 := by
  obtain ⟨hC, hnl, hE, hR, hN, hNm⟩ := id hB
  refine r_aload_n hC dX8_init_26 rfl (j := 0) rfl ?_
  refine n_new hC nX8_init_27 (fun _ => rfl) hw_0 (by rw [hl_0]; omega) (by omega) (by omega) ⟨(Or.inl (show s < w.length by omega)), trivial⟩ ⟨(Or.inl (show s < w.length by omega)), trivial⟩ (fun X hT => ?_)
  have hB := hB.tie hT (by rw [hl_0]; omega)
  clear hT
  obtain ⟨hC, hnl, hE, hR, hN, hNm⟩ := id hB
  obtain ⟨w_1, ew_1⟩ : ∃ z, z = w ++ [(mO 7 [.null, .null, .null, .int 0, .int 0, .int 0, .int 0, .int 0, .int 0])] := ⟨_, rfl⟩
  have hl_1 : w_1.length = (s + 14) := by rw [ew_1, List.length_append, hl_0]; rfl
  have hw_1 : mLowW w_1.length w_1 := by rw [hl_1, ew_1]; exact (mLowW.mono (by rw [hl_0]; omega) hw_0).app (mLowW.cons ⟨trivial, trivial, trivial, trivial, trivial, trivial, trivial, trivial, trivial, trivial⟩ mLowW.nil)
  have hf1_s : w_1[s]? = some (mO 9 [.ref (s + 1), .ref (s + 7), .null, .int 0, .null, .int 0, .int 0, .null, .null, .int 0, .int 0, .null]) := by rw [ew_1, List.getElem?_append_left (lt_of_get f0)]; exact f0
  have hf1_low : LowK w0 w_1 s := LowK.mono f1 (fun k h8 h9 => by rw [ew_1, List.getElem?_append_left (by rw [hl_0]; omega)])
  have hf1_st1 : StAt w_1 (s + 1) sv0 := StAt.mono f2 (fun k h8 h9 => by rw [ew_1, List.getElem?_append_left (by rw [hl_0]; omega)])
  have hf1_st7 : StAt w_1 (s + 7) sv0 := StAt.mono f3 (fun k h8 h9 => by rw [ew_1, List.getElem?_append_left (by rw [hl_0]; omega)])
  have hf1__s___13_ : w_1[(s + 13)]? = some (mO 7 [.null, .null, .null, .int 0, .int 0, .int 0, .int 0, .int 0, .int 0]) := by rw [ew_1, List.getElem?_append_right (by rw [hl_0]; exact Nat.le_refl _), hl_0, Nat.sub_self]; rfl
  rw [← ew_1, hl_0]
  show Wp X (k + 1) (n + 9) w_1 [(0, .ref s)] [.ref (s + 13), .ref s] _
  refine r_dup hC dX8_init_30 rfl ?_
  refine n_callIN hC (vs := []) vX8_init_31 (cn_state (d := d + 1) (s := s + 13) hl_1 hf1__s___13_ hw_1 (by omega)) rfl (by omega) (by omega) (by omega) (Nat.le_of_ble_eq_true rfl) ⟨(Or.inl (show s < w_1.length by omega)), trivial⟩ ⟨(Or.inl (show (s + 13) < w_1.length by omega)), (Or.inl (show s < w_1.length by omega)), trivial⟩ (fun v_2 w_2 X hT hP_2 hlen_2 => ?_)
  have hB := hB.tie hT (by rw [hl_1]; omega)
  clear hT
  obtain ⟨hC, hnl, hE, hR, hN, hNm⟩ := id hB
  obtain ⟨rfl, ⟨hl_2, hw_2, hk_2⟩, hP_2⟩ := hP_2
  rw [hl_1] at hl_2
  replace hl_2 : w_2.length = (s + 19) := by omega
  have hf2_s : w_2[s]? = some (mO 9 [.ref (s + 1), .ref (s + 7), .null, .int 0, .null, .int 0, .int 0, .null, .null, .int 0, .int 0, .null]) := by rw [hk_2 s (by omega)]; exact hf1_s
  have hf2_low : LowK w0 w_2 s := LowK.mono hf1_low (fun k h8 h9 => by rw [hk_2 k (by omega)])
  have hf2_st1 : StAt w_2 (s + 1) sv0 := StAt.mono hf1_st1 (fun k h8 h9 => by rw [hk_2 k (by omega)])
  have hf2_st7 : StAt w_2 (s + 7) sv0 := StAt.mono hf1_st7 (fun k h8 h9 => by rw [hk_2 k (by omega)])
  show Wp X ((k + 1) + 5) ((n + 9) + 68) w_2 [(0, .ref s)] [.ref (s + 13), .ref s] 34
  refine n_putI' hC hNm pX8_init_34 hf2_s (Nat.le_of_ble_eq_true rfl) (fun _ => rfl) (fun _ => rfl) (fun w_3 ew_3 => ?_)
  replace ew_3 : w_3 = (w_2).set (s) (mO 9 [.ref (s + 1), .ref (s + 7), .ref (s + 13), .int 0, .null, .int 0, .int 0, .null, .null, .int 0, .int 0, .null]) := ew_3
  have hl_3 : w_3.length = (s + 19) := by rw [ew_3, List.length_set, hl_2]
  have hw_3 : mLowW w_3.length w_3 := by rw [hl_3, ew_3]; exact mLowW.set (by rw [← hl_2]; exact hw_2) ⟨(Or.inl (show (s + 1) < (s + 19) by omega)), (Or.inl (show (s + 7) < (s + 19) by omega)), (Or.inl (show (s + 13) < (s + 19) by omega)), trivial, trivial, trivial, trivial, trivial, trivial, trivial, trivial, trivial, trivial⟩
  have hf3_s : w_3[s]? = some (mO 9 [.ref (s + 1), .ref (s + 7), .ref (s + 13), .int 0, .null, .int 0, .int 0, .null, .null, .int 0, .int 0, .null]) := by rw [ew_3]; exact List.getElem?_set_self (lt_of_get hf2_s)
  have hf3_low : LowK w0 w_3 s := LowK.mono hf2_low (fun k h8 h9 => by rw [ew_3, List.getElem?_set_ne (by omega)])
  have hf3_st1 : StAt w_3 (s + 1) sv0 := StAt.mono hf2_st1 (fun k h8 h9 => by rw [ew_3, List.getElem?_set_ne (by omega)])
  have hf3_st7 : StAt w_3 (s + 7) sv0 := StAt.mono hf2_st7 (fun k h8 h9 => by rw [ew_3, List.getElem?_set_ne (by omega)])
  have hf3_st13 : StAt w_3 (s + 13) sv0 := StAt.mono hP_2 (fun k h8 h9 => by rw [ew_3, List.getElem?_set_ne (by omega)])
  
  exact kk X w_3 hB hl_3 hw_3 hf3_s hf3_low hf3_st1 hf3_st7 hf3_st13
set_option maxRecDepth 100000 in
set_option maxHeartbeats 4000000 in
theorem hx_4 {X : mC} {d s n0 k n : Nat} {w0 w : mW}  (hmax : s < 900000) (h0 : w0.length = s + 1) (hn0 : n0 = w0.length) (hB : NB X RX8 cX8_init (d + 3) 90 1043 2 n0 (fun v w9 => v = none ∧ Gn w0 w9 s 88 ∧ CtAt w9 s sv0 [] (-1) (-1) none [] []) none "<init>") (hl_0 : w.length = (s + 19)) (hw_0 : mLowW w.length w) (f0 : w[s]? = some (mO 9 [.ref (s + 1), .ref (s + 7), .ref (s + 13), .int 0, .null, .int 0, .int 0, .null, .null, .int 0, .int 0, .null])) (f1 : LowK w0 w s) (f2 : StAt w (s + 1) sv0) (f3 : StAt w (s + 7) sv0) (f4 : StAt w (s + 13) sv0)  (hk9 : (k + 1) ≤ 90) (hn9 : (n + 8) ≤ 1043) (kk : ∀ (X : mC) (w' : mW), NB X RX8 cX8_init (d + 3) 90 1043 2 n0 (fun v w9 => v = none ∧ Gn w0 w9 s 88 ∧ CtAt w9 s sv0 [] (-1) (-1) none [] []) none "<init>" → w'.length = (s + 20) → mLowW w'.length w' → w'[s]? = some (mO 9 [.ref (s + 1), .ref (s + 7), .ref (s + 13), .int 0, .ref (s + 19), .int 0, .int 0, .null, .null, .int 0, .int 0, .null]) → LowK w0 w' s → StAt w' (s + 1) sv0 → StAt w' (s + 7) sv0 → StAt w' (s + 13) sv0 → w'[(s + 19)]? = some (.inl (3, 8, .inr (.inr (.inr (.inr (fun _ => none)))))) → Wp X (k + 1) (n + 8) w' [(0, .ref s)] [] 46) : Wp X k n w [(0, .ref s)] [] 37 := by
  obtain ⟨hC, hnl, hE, hR, hN, hNm⟩ := id hB
  refine r_aload_n hC dX8_init_37 rfl (j := 0) rfl ?_
  refine r_bipush hC dX8_init_38 (v := 8) (by decide) ?_
  refine n_newq hC (C := RX6) (t := 3) (N := 8) clX8_7 ao_X6 (fun _ => rfl) (by decide) (by decide) (by decide) dX8_init_40 hw_0 (by rw [hl_0]; omega) (by omega) (by omega) ⟨(Or.inl (show s < w.length by omega)), trivial⟩ ⟨(Or.inl (show s < w.length by omega)), trivial⟩ (fun X hT => ?_)
  have hB := hB.tie hT (by rw [hl_0]; omega)
  clear hT
  obtain ⟨hC, hnl, hE, hR, hN, hNm⟩ := id hB
  obtain ⟨w_1, ew_1⟩ : ∃ z, z = w ++ [(.inl (3, 8, .inr (.inr (.inr (.inr (fun _ => none))))))] := ⟨_, rfl⟩
  have hl_1 : w_1.length = (s + 20) := by rw [ew_1, List.length_append, hl_0]; rfl
  have hw_1 : mLowW w_1.length w_1 := by rw [hl_1, ew_1]; exact (mLowW.mono (by rw [hl_0]; omega) hw_0).app (mLowW.cons (fun i b e => by cases e) mLowW.nil)
  have hf1_s : w_1[s]? = some (mO 9 [.ref (s + 1), .ref (s + 7), .ref (s + 13), .int 0, .null, .int 0, .int 0, .null, .null, .int 0, .int 0, .null]) := by rw [ew_1, List.getElem?_append_left (lt_of_get f0)]; exact f0
  have hf1_low : LowK w0 w_1 s := LowK.mono f1 (fun k h8 h9 => by rw [ew_1, List.getElem?_append_left (by rw [hl_0]; omega)])
  have hf1_st1 : StAt w_1 (s + 1) sv0 := StAt.mono f2 (fun k h8 h9 => by rw [ew_1, List.getElem?_append_left (by rw [hl_0]; omega)])
  have hf1_st7 : StAt w_1 (s + 7) sv0 := StAt.mono f3 (fun k h8 h9 => by rw [ew_1, List.getElem?_append_left (by rw [hl_0]; omega)])
  have hf1_st13 : StAt w_1 (s + 13) sv0 := StAt.mono f4 (fun k h8 h9 => by rw [ew_1, List.getElem?_append_left (by rw [hl_0]; omega)])
  have hf1__s___19_ : w_1[(s + 19)]? = some (.inl (3, 8, .inr (.inr (.inr (.inr (fun _ => none)))))) := by rw [ew_1, List.getElem?_append_right (by rw [hl_0]; exact Nat.le_refl _), hl_0, Nat.sub_self]; rfl
  rw [← ew_1, hl_0]
  show Wp X (k + 1) (n + 8) w_1 [(0, .ref s)] [.ref (s + 19), .ref s] _
  refine n_putI' hC hNm pX8_init_43 hf1_s (Nat.le_of_ble_eq_true rfl) (fun _ => rfl) (fun _ => rfl) (fun w_2 ew_2 => ?_)
  replace ew_2 : w_2 = (w_1).set (s) (mO 9 [.ref (s + 1), .ref (s + 7), .ref (s + 13), .int 0, .ref (s + 19), .int 0, .int 0, .null, .null, .int 0, .int 0, .null]) := ew_2
  have hl_2 : w_2.length = (s + 20) := by rw [ew_2, List.length_set, hl_1]
  have hw_2 : mLowW w_2.length w_2 := by rw [hl_2, ew_2]; exact mLowW.set (by rw [← hl_1]; exact hw_1) ⟨(Or.inl (show (s + 1) < (s + 20) by omega)), (Or.inl (show (s + 7) < (s + 20) by omega)), (Or.inl (show (s + 13) < (s + 20) by omega)), trivial, (Or.inl (show (s + 19) < (s + 20) by omega)), trivial, trivial, trivial, trivial, trivial, trivial, trivial, trivial⟩
  have hf2_s : w_2[s]? = some (mO 9 [.ref (s + 1), .ref (s + 7), .ref (s + 13), .int 0, .ref (s + 19), .int 0, .int 0, .null, .null, .int 0, .int 0, .null]) := by rw [ew_2]; exact List.getElem?_set_self (lt_of_get hf1_s)
  have hf2_low : LowK w0 w_2 s := LowK.mono hf1_low (fun k h8 h9 => by rw [ew_2, List.getElem?_set_ne (by omega)])
  have hf2_st1 : StAt w_2 (s + 1) sv0 := StAt.mono hf1_st1 (fun k h8 h9 => by rw [ew_2, List.getElem?_set_ne (by omega)])
  have hf2_st7 : StAt w_2 (s + 7) sv0 := StAt.mono hf1_st7 (fun k h8 h9 => by rw [ew_2, List.getElem?_set_ne (by omega)])
  have hf2_st13 : StAt w_2 (s + 13) sv0 := StAt.mono hf1_st13 (fun k h8 h9 => by rw [ew_2, List.getElem?_set_ne (by omega)])
  have hf2__s___19_ : w_2[(s + 19)]? = some (.inl (3, 8, .inr (.inr (.inr (.inr (fun _ => none)))))) := by rw [ew_2, List.getElem?_set_ne (by omega)]; exact hf1__s___19_
  
  exact kk X w_2 hB hl_2 hw_2 hf2_s hf2_low hf2_st1 hf2_st7 hf2_st13 hf2__s___19_
set_option maxRecDepth 100000 in
set_option maxHeartbeats 4000000 in
theorem hx_5 {X : mC} {d s n0 k n : Nat} {w0 w : mW}  (hmax : s < 900000) (h0 : w0.length = s + 1) (hn0 : n0 = w0.length) (hB : NB X RX8 cX8_init (d + 3) 90 1043 2 n0 (fun v w9 => v = none ∧ Gn w0 w9 s 88 ∧ CtAt w9 s sv0 [] (-1) (-1) none [] []) none "<init>") (hl_0 : w.length = (s + 20)) (hw_0 : mLowW w.length w) (f0 : w[s]? = some (mO 9 [.ref (s + 1), .ref (s + 7), .ref (s + 13), .int 0, .ref (s + 19), .int 0, .int 0, .null, .null, .int 0, .int 0, .null])) (f1 : LowK w0 w s) (f2 : StAt w (s + 1) sv0) (f3 : StAt w (s + 7) sv0) (f4 : StAt w (s + 13) sv0) (f5 : w[(s + 19)]? = some (.inl (3, 8, .inr (.inr (.inr (.inr (fun _ => none)))))))  (hk9 : ((k + 1) + 4) ≤ 90) (hn9 : ((n + 3) + 81) ≤ 1043) (kk : ∀ (X : mC) (w' : mW), NB X RX8 cX8_init (d + 3) 90 1043 2 n0 (fun v w9 => v = none ∧ Gn w0 w9 s 88 ∧ CtAt w9 s sv0 [] (-1) (-1) none [] []) none "<init>" → w'.length = (s + 25) → mLowW w'.length w' → w'[s]? = some (mO 9 [.ref (s + 1), .ref (s + 7), .ref (s + 13), .int 0, .ref (s + 19), .int 0, .int 0, .ref (s + 20), .null, .int 0, .int 0, .null]) → LowK w0 w' s → StAt w' (s + 1) sv0 → StAt w' (s + 7) sv0 → StAt w' (s + 13) sv0 → w'[(s + 19)]? = some (.inl (3, 8, .inr (.inr (.inr (.inr (fun _ => none)))))) → TrAt w' (s + 20) hill0 (fun _ => 0) 0 → Wp X ((k + 1) + 4) ((n + 3) + 81) w' [(0, .ref s)] [] 57) : Wp X k n w [(0, .ref s)] [] 46 := by
  obtain ⟨hC, hnl, hE, hR, hN, hNm⟩ := id hB
  refine r_aload_n hC dX8_init_46 rfl (j := 0) rfl ?_
  refine n_new hC nX8_init_47 (fun _ => rfl) hw_0 (by rw [hl_0]; omega) (by omega) (by omega) ⟨(Or.inl (show s < w.length by omega)), trivial⟩ ⟨(Or.inl (show s < w.length by omega)), trivial⟩ (fun X hT => ?_)
  have hB := hB.tie hT (by rw [hl_0]; omega)
  clear hT
  obtain ⟨hC, hnl, hE, hR, hN, hNm⟩ := id hB
  obtain ⟨w_1, ew_1⟩ : ∃ z, z = w ++ [(mO 8 [.null, .null, .int 0])] := ⟨_, rfl⟩
  have hl_1 : w_1.length = (s + 21) := by rw [ew_1, List.length_append, hl_0]; rfl
  have hw_1 : mLowW w_1.length w_1 := by rw [hl_1, ew_1]; exact (mLowW.mono (by rw [hl_0]; omega) hw_0).app (mLowW.cons ⟨trivial, trivial, trivial, trivial⟩ mLowW.nil)
  have hf1_s : w_1[s]? = some (mO 9 [.ref (s + 1), .ref (s + 7), .ref (s + 13), .int 0, .ref (s + 19), .int 0, .int 0, .null, .null, .int 0, .int 0, .null]) := by rw [ew_1, List.getElem?_append_left (lt_of_get f0)]; exact f0
  have hf1_low : LowK w0 w_1 s := LowK.mono f1 (fun k h8 h9 => by rw [ew_1, List.getElem?_append_left (by rw [hl_0]; omega)])
  have hf1_st1 : StAt w_1 (s + 1) sv0 := StAt.mono f2 (fun k h8 h9 => by rw [ew_1, List.getElem?_append_left (by rw [hl_0]; omega)])
  have hf1_st7 : StAt w_1 (s + 7) sv0 := StAt.mono f3 (fun k h8 h9 => by rw [ew_1, List.getElem?_append_left (by rw [hl_0]; omega)])
  have hf1_st13 : StAt w_1 (s + 13) sv0 := StAt.mono f4 (fun k h8 h9 => by rw [ew_1, List.getElem?_append_left (by rw [hl_0]; omega)])
  have hf1__s___19_ : w_1[(s + 19)]? = some (.inl (3, 8, .inr (.inr (.inr (.inr (fun _ => none)))))) := by rw [ew_1, List.getElem?_append_left (lt_of_get f5)]; exact f5
  have hf1__s___20_ : w_1[(s + 20)]? = some (mO 8 [.null, .null, .int 0]) := by rw [ew_1, List.getElem?_append_right (by rw [hl_0]; exact Nat.le_refl _), hl_0, Nat.sub_self]; rfl
  rw [← ew_1, hl_0]
  show Wp X (k + 1) (n + 3) w_1 [(0, .ref s)] [.ref (s + 20), .ref s] _
  refine r_dup hC dX8_init_50 rfl ?_
  refine n_callIN hC (vs := []) vX8_init_51 (cn_trial (d := d + 1) (s := s + 20) hl_1 hf1__s___20_ hw_1 (by omega)) rfl (by omega) (by omega) (by omega) (Nat.le_of_ble_eq_true rfl) ⟨(Or.inl (show s < w_1.length by omega)), trivial⟩ ⟨(Or.inl (show (s + 20) < w_1.length by omega)), (Or.inl (show s < w_1.length by omega)), trivial⟩ (fun v_2 w_2 X hT hP_2 hlen_2 => ?_)
  have hB := hB.tie hT (by rw [hl_1]; omega)
  clear hT
  obtain ⟨hC, hnl, hE, hR, hN, hNm⟩ := id hB
  obtain ⟨rfl, ⟨hl_2, hw_2, hk_2⟩, hP_2⟩ := hP_2
  rw [hl_1] at hl_2
  replace hl_2 : w_2.length = (s + 25) := by omega
  have hf2_s : w_2[s]? = some (mO 9 [.ref (s + 1), .ref (s + 7), .ref (s + 13), .int 0, .ref (s + 19), .int 0, .int 0, .null, .null, .int 0, .int 0, .null]) := by rw [hk_2 s (by omega)]; exact hf1_s
  have hf2_low : LowK w0 w_2 s := LowK.mono hf1_low (fun k h8 h9 => by rw [hk_2 k (by omega)])
  have hf2_st1 : StAt w_2 (s + 1) sv0 := StAt.mono hf1_st1 (fun k h8 h9 => by rw [hk_2 k (by omega)])
  have hf2_st7 : StAt w_2 (s + 7) sv0 := StAt.mono hf1_st7 (fun k h8 h9 => by rw [hk_2 k (by omega)])
  have hf2_st13 : StAt w_2 (s + 13) sv0 := StAt.mono hf1_st13 (fun k h8 h9 => by rw [hk_2 k (by omega)])
  have hf2__s___19_ : w_2[(s + 19)]? = some (.inl (3, 8, .inr (.inr (.inr (.inr (fun _ => none)))))) := by rw [hk_2 (s + 19) (by omega)]; exact hf1__s___19_
  show Wp X ((k + 1) + 4) ((n + 3) + 81) w_2 [(0, .ref s)] [.ref (s + 20), .ref s] 54
  refine n_putI' hC hNm pX8_init_54 hf2_s (Nat.le_of_ble_eq_true rfl) (fun _ => rfl) (fun _ => rfl) (fun w_3 ew_3 => ?_)
  replace ew_3 : w_3 = (w_2).set (s) (mO 9 [.ref (s + 1), .ref (s + 7), .ref (s + 13), .int 0, .ref (s + 19), .int 0, .int 0, .ref (s + 20), .null, .int 0, .int 0, .null]) := ew_3
  have hl_3 : w_3.length = (s + 25) := by rw [ew_3, List.length_set, hl_2]
  have hw_3 : mLowW w_3.length w_3 := by rw [hl_3, ew_3]; exact mLowW.set (by rw [← hl_2]; exact hw_2) ⟨(Or.inl (show (s + 1) < (s + 25) by omega)), (Or.inl (show (s + 7) < (s + 25) by omega)), (Or.inl (show (s + 13) < (s + 25) by omega)), trivial, (Or.inl (show (s + 19) < (s + 25) by omega)), trivial, trivial, (Or.inl (show (s + 20) < (s + 25) by omega)), trivial, trivial, trivial, trivial, trivial⟩
  have hf3_s : w_3[s]? = some (mO 9 [.ref (s + 1), .ref (s + 7), .ref (s + 13), .int 0, .ref (s + 19), .int 0, .int 0, .ref (s + 20), .null, .int 0, .int 0, .null]) := by rw [ew_3]; exact List.getElem?_set_self (lt_of_get hf2_s)
  have hf3_low : LowK w0 w_3 s := LowK.mono hf2_low (fun k h8 h9 => by rw [ew_3, List.getElem?_set_ne (by omega)])
  have hf3_st1 : StAt w_3 (s + 1) sv0 := StAt.mono hf2_st1 (fun k h8 h9 => by rw [ew_3, List.getElem?_set_ne (by omega)])
  have hf3_st7 : StAt w_3 (s + 7) sv0 := StAt.mono hf2_st7 (fun k h8 h9 => by rw [ew_3, List.getElem?_set_ne (by omega)])
  have hf3_st13 : StAt w_3 (s + 13) sv0 := StAt.mono hf2_st13 (fun k h8 h9 => by rw [ew_3, List.getElem?_set_ne (by omega)])
  have hf3__s___19_ : w_3[(s + 19)]? = some (.inl (3, 8, .inr (.inr (.inr (.inr (fun _ => none)))))) := by rw [ew_3, List.getElem?_set_ne (by omega)]; exact hf2__s___19_
  have hf3_tr : TrAt w_3 (s + 20) hill0 (fun _ => 0) 0 := TrAt.mono hP_2 (fun k h8 h9 => by rw [ew_3, List.getElem?_set_ne (by omega)])
  
  exact kk X w_3 hB hl_3 hw_3 hf3_s hf3_low hf3_st1 hf3_st7 hf3_st13 hf3__s___19_ hf3_tr
set_option maxRecDepth 100000 in
set_option maxHeartbeats 4000000 in
theorem hx_6 {X : mC} {d s n0 k n : Nat} {w0 w : mW}  (hmax : s < 900000) (h0 : w0.length = s + 1) (hn0 : n0 = w0.length) (hB : NB X RX8 cX8_init (d + 3) 90 1043 2 n0 (fun v w9 => v = none ∧ Gn w0 w9 s 88 ∧ CtAt w9 s sv0 [] (-1) (-1) none [] []) none "<init>") (hl_0 : w.length = (s + 25)) (hw_0 : mLowW w.length w) (f0 : w[s]? = some (mO 9 [.ref (s + 1), .ref (s + 7), .ref (s + 13), .int 0, .ref (s + 19), .int 0, .int 0, .ref (s + 20), .null, .int 0, .int 0, .null])) (f1 : LowK w0 w s) (f2 : StAt w (s + 1) sv0) (f3 : StAt w (s + 7) sv0) (f4 : StAt w (s + 13) sv0) (f5 : w[(s + 19)]? = some (.inl (3, 8, .inr (.inr (.inr (.inr (fun _ => none))))))) (f6 : TrAt w (s + 20) hill0 (fun _ => 0) 0)  (hk9 : ((k + 1) + 15) ≤ 90) (hn9 : ((n + 4) + 80) ≤ 1043) (kk : ∀ (X : mC) (w' : mW), NB X RX8 cX8_init (d + 3) 90 1043 2 n0 (fun v w9 => v = none ∧ Gn w0 w9 s 88 ∧ CtAt w9 s sv0 [] (-1) (-1) none [] []) none "<init>" → w'.length = (s + 40) → mLowW w'.length w' → w'[s]? = some (mO 9 [.ref (s + 1), .ref (s + 7), .ref (s + 13), .int 0, .ref (s + 19), .int 0, .int 0, .ref (s + 20), .ref (s + 25), .int 0, .int 0, .null]) → LowK w0 w' s → StAt w' (s + 1) sv0 → StAt w' (s + 7) sv0 → StAt w' (s + 13) sv0 → w'[(s + 19)]? = some (.inl (3, 8, .inr (.inr (.inr (.inr (fun _ => none)))))) → TrAt w' (s + 20) hill0 (fun _ => 0) 0 → TxAt w' (s + 25) [] 0 0 (fun _ => (4, 0, 0, 0)) → Wp X ((k + 1) + 15) ((n + 4) + 80) w' [(0, .ref s)] [] 68) : Wp X k n w [(0, .ref s)] [] 57 := by
  obtain ⟨hC, hnl, hE, hR, hN, hNm⟩ := id hB
  refine r_aload_n hC dX8_init_57 rfl (j := 0) rfl ?_
  refine n_new hC nX8_init_58 (fun _ => rfl) hw_0 (by rw [hl_0]; omega) (by omega) (by omega) ⟨(Or.inl (show s < w.length by omega)), trivial⟩ ⟨(Or.inl (show s < w.length by omega)), trivial⟩ (fun X hT => ?_)
  have hB := hB.tie hT (by rw [hl_0]; omega)
  clear hT
  obtain ⟨hC, hnl, hE, hR, hN, hNm⟩ := id hB
  obtain ⟨w_1, ew_1⟩ : ∃ z, z = w ++ [(mO 5 [.null, .null, .int 0, .int 0])] := ⟨_, rfl⟩
  have hl_1 : w_1.length = (s + 26) := by rw [ew_1, List.length_append, hl_0]; rfl
  have hw_1 : mLowW w_1.length w_1 := by rw [hl_1, ew_1]; exact (mLowW.mono (by rw [hl_0]; omega) hw_0).app (mLowW.cons ⟨trivial, trivial, trivial, trivial, trivial⟩ mLowW.nil)
  have hf1_s : w_1[s]? = some (mO 9 [.ref (s + 1), .ref (s + 7), .ref (s + 13), .int 0, .ref (s + 19), .int 0, .int 0, .ref (s + 20), .null, .int 0, .int 0, .null]) := by rw [ew_1, List.getElem?_append_left (lt_of_get f0)]; exact f0
  have hf1_low : LowK w0 w_1 s := LowK.mono f1 (fun k h8 h9 => by rw [ew_1, List.getElem?_append_left (by rw [hl_0]; omega)])
  have hf1_st1 : StAt w_1 (s + 1) sv0 := StAt.mono f2 (fun k h8 h9 => by rw [ew_1, List.getElem?_append_left (by rw [hl_0]; omega)])
  have hf1_st7 : StAt w_1 (s + 7) sv0 := StAt.mono f3 (fun k h8 h9 => by rw [ew_1, List.getElem?_append_left (by rw [hl_0]; omega)])
  have hf1_st13 : StAt w_1 (s + 13) sv0 := StAt.mono f4 (fun k h8 h9 => by rw [ew_1, List.getElem?_append_left (by rw [hl_0]; omega)])
  have hf1__s___19_ : w_1[(s + 19)]? = some (.inl (3, 8, .inr (.inr (.inr (.inr (fun _ => none)))))) := by rw [ew_1, List.getElem?_append_left (lt_of_get f5)]; exact f5
  have hf1_tr : TrAt w_1 (s + 20) hill0 (fun _ => 0) 0 := TrAt.mono f6 (fun k h8 h9 => by rw [ew_1, List.getElem?_append_left (by rw [hl_0]; omega)])
  have hf1__s___25_ : w_1[(s + 25)]? = some (mO 5 [.null, .null, .int 0, .int 0]) := by rw [ew_1, List.getElem?_append_right (by rw [hl_0]; exact Nat.le_refl _), hl_0, Nat.sub_self]; rfl
  rw [← ew_1, hl_0]
  show Wp X (k + 1) (n + 4) w_1 [(0, .ref s)] [.ref (s + 25), .ref s] _
  refine r_dup hC dX8_init_61 rfl ?_
  refine n_callI hC (vs := []) vX8_init_62 (cn_text (d := d) (s := s + 25) hl_1 hf1__s___25_ hw_1 (by omega)) rfl (by omega) (by omega) (by omega) (Nat.le_of_ble_eq_true rfl) ⟨(Or.inl (show s < w_1.length by omega)), trivial⟩ ⟨(Or.inl (show (s + 25) < w_1.length by omega)), (Or.inl (show s < w_1.length by omega)), trivial⟩ (fun v_2 w_2 X hT hP_2 hlen_2 => ?_)
  have hB := hB.tie hT (by rw [hl_1]; omega)
  clear hT
  obtain ⟨hC, hnl, hE, hR, hN, hNm⟩ := id hB
  obtain ⟨rfl, ⟨hl_2, hw_2, hk_2⟩, hP_2⟩ := hP_2
  rw [hl_1] at hl_2
  replace hl_2 : w_2.length = (s + 40) := by omega
  have hf2_s : w_2[s]? = some (mO 9 [.ref (s + 1), .ref (s + 7), .ref (s + 13), .int 0, .ref (s + 19), .int 0, .int 0, .ref (s + 20), .null, .int 0, .int 0, .null]) := by rw [hk_2 s (by omega)]; exact hf1_s
  have hf2_low : LowK w0 w_2 s := LowK.mono hf1_low (fun k h8 h9 => by rw [hk_2 k (by omega)])
  have hf2_st1 : StAt w_2 (s + 1) sv0 := StAt.mono hf1_st1 (fun k h8 h9 => by rw [hk_2 k (by omega)])
  have hf2_st7 : StAt w_2 (s + 7) sv0 := StAt.mono hf1_st7 (fun k h8 h9 => by rw [hk_2 k (by omega)])
  have hf2_st13 : StAt w_2 (s + 13) sv0 := StAt.mono hf1_st13 (fun k h8 h9 => by rw [hk_2 k (by omega)])
  have hf2__s___19_ : w_2[(s + 19)]? = some (.inl (3, 8, .inr (.inr (.inr (.inr (fun _ => none)))))) := by rw [hk_2 (s + 19) (by omega)]; exact hf1__s___19_
  have hf2_tr : TrAt w_2 (s + 20) hill0 (fun _ => 0) 0 := TrAt.mono hf1_tr (fun k h8 h9 => by rw [hk_2 k (by omega)])
  show Wp X ((k + 1) + 15) ((n + 4) + 80) w_2 [(0, .ref s)] [.ref (s + 25), .ref s] 65
  refine n_putI' hC hNm pX8_init_65 hf2_s (Nat.le_of_ble_eq_true rfl) (fun _ => rfl) (fun _ => rfl) (fun w_3 ew_3 => ?_)
  replace ew_3 : w_3 = (w_2).set (s) (mO 9 [.ref (s + 1), .ref (s + 7), .ref (s + 13), .int 0, .ref (s + 19), .int 0, .int 0, .ref (s + 20), .ref (s + 25), .int 0, .int 0, .null]) := ew_3
  have hl_3 : w_3.length = (s + 40) := by rw [ew_3, List.length_set, hl_2]
  have hw_3 : mLowW w_3.length w_3 := by rw [hl_3, ew_3]; exact mLowW.set (by rw [← hl_2]; exact hw_2) ⟨(Or.inl (show (s + 1) < (s + 40) by omega)), (Or.inl (show (s + 7) < (s + 40) by omega)), (Or.inl (show (s + 13) < (s + 40) by omega)), trivial, (Or.inl (show (s + 19) < (s + 40) by omega)), trivial, trivial, (Or.inl (show (s + 20) < (s + 40) by omega)), (Or.inl (show (s + 25) < (s + 40) by omega)), trivial, trivial, trivial, trivial⟩
  have hf3_s : w_3[s]? = some (mO 9 [.ref (s + 1), .ref (s + 7), .ref (s + 13), .int 0, .ref (s + 19), .int 0, .int 0, .ref (s + 20), .ref (s + 25), .int 0, .int 0, .null]) := by rw [ew_3]; exact List.getElem?_set_self (lt_of_get hf2_s)
  have hf3_low : LowK w0 w_3 s := LowK.mono hf2_low (fun k h8 h9 => by rw [ew_3, List.getElem?_set_ne (by omega)])
  have hf3_st1 : StAt w_3 (s + 1) sv0 := StAt.mono hf2_st1 (fun k h8 h9 => by rw [ew_3, List.getElem?_set_ne (by omega)])
  have hf3_st7 : StAt w_3 (s + 7) sv0 := StAt.mono hf2_st7 (fun k h8 h9 => by rw [ew_3, List.getElem?_set_ne (by omega)])
  have hf3_st13 : StAt w_3 (s + 13) sv0 := StAt.mono hf2_st13 (fun k h8 h9 => by rw [ew_3, List.getElem?_set_ne (by omega)])
  have hf3__s___19_ : w_3[(s + 19)]? = some (.inl (3, 8, .inr (.inr (.inr (.inr (fun _ => none)))))) := by rw [ew_3, List.getElem?_set_ne (by omega)]; exact hf2__s___19_
  have hf3_tr : TrAt w_3 (s + 20) hill0 (fun _ => 0) 0 := TrAt.mono hf2_tr (fun k h8 h9 => by rw [ew_3, List.getElem?_set_ne (by omega)])
  have hf3_tx : TxAt w_3 (s + 25) [] 0 0 (fun _ => (4, 0, 0, 0)) := TxAt.mono hP_2 (fun k h8 h9 => by rw [ew_3, List.getElem?_set_ne (by omega)])
  
  exact kk X w_3 hB hl_3 hw_3 hf3_s hf3_low hf3_st1 hf3_st7 hf3_st13 hf3__s___19_ hf3_tr hf3_tx
set_option maxRecDepth 100000 in
set_option maxHeartbeats 4000000 in
theorem hx_7 {X : mC} {d s n0 k n : Nat} {w0 w : mW}  (hmax : s < 900000) (h0 : w0.length = s + 1) (hn0 : n0 = w0.length) (hB : NB X RX8 cX8_init (d + 3) 90 1043 2 n0 (fun v w9 => v = none ∧ Gn w0 w9 s 88 ∧ CtAt w9 s sv0 [] (-1) (-1) none [] []) none "<init>") (hl_0 : w.length = (s + 40)) (hw_0 : mLowW w.length w) (f0 : w[s]? = some (mO 9 [.ref (s + 1), .ref (s + 7), .ref (s + 13), .int 0, .ref (s + 19), .int 0, .int 0, .ref (s + 20), .ref (s + 25), .int 0, .int 0, .null])) (f1 : LowK w0 w s) (f2 : StAt w (s + 1) sv0) (f3 : StAt w (s + 7) sv0) (f4 : StAt w (s + 13) sv0) (f5 : w[(s + 19)]? = some (.inl (3, 8, .inr (.inr (.inr (.inr (fun _ => none))))))) (f6 : TrAt w (s + 20) hill0 (fun _ => 0) 0) (f7 : TxAt w (s + 25) [] 0 0 (fun _ => (4, 0, 0, 0)))  (hk9 : k ≤ 90) (hn9 : n ≤ 1043) (kk : ∀ (X : mC) (w' : mW), NB X RX8 cX8_init (d + 3) 90 1043 2 n0 (fun v w9 => v = none ∧ Gn w0 w9 s 88 ∧ CtAt w9 s sv0 [] (-1) (-1) none [] []) none "<init>" → w'.length = (s + 40) → mLowW w'.length w' → w'[s]? = some (mO 9 [.ref (s + 1), .ref (s + 7), .ref (s + 13), .int 0, .ref (s + 19), .int 0, .int 0, .ref (s + 20), .ref (s + 25), .int (-1), .int (-1), .null]) → LowK w0 w' s → StAt w' (s + 1) sv0 → StAt w' (s + 7) sv0 → StAt w' (s + 13) sv0 → w'[(s + 19)]? = some (.inl (3, 8, .inr (.inr (.inr (.inr (fun _ => none)))))) → TrAt w' (s + 20) hill0 (fun _ => 0) 0 → TxAt w' (s + 25) [] 0 0 (fun _ => (4, 0, 0, 0)) → Wp X k n w' [(0, .ref s)] [] 78) : Wp X k n w [(0, .ref s)] [] 68 := by
  obtain ⟨hC, hnl, hE, hR, hN, hNm⟩ := id hB
  refine r_aload_n hC dX8_init_68 rfl (j := 0) rfl ?_
  refine r_iconst hC dX8_init_69 (v := (-1)) (by decide) ?_
  refine r_put' hC pX8_init_70 f0 (Nat.le_of_ble_eq_true rfl) (fun _ => rfl) (fun _ => rfl) (fun w_1 ew_1 => ?_)
  replace ew_1 : w_1 = (w).set (s) (mO 9 [.ref (s + 1), .ref (s + 7), .ref (s + 13), .int 0, .ref (s + 19), .int 0, .int 0, .ref (s + 20), .ref (s + 25), .int (-1), .int 0, .null]) := ew_1
  have hl_1 : w_1.length = (s + 40) := by rw [ew_1, List.length_set, hl_0]
  have hw_1 : mLowW w_1.length w_1 := by rw [hl_1, ew_1]; exact mLowW.set (by rw [← hl_0]; exact hw_0) ⟨(Or.inl (show (s + 1) < (s + 40) by omega)), (Or.inl (show (s + 7) < (s + 40) by omega)), (Or.inl (show (s + 13) < (s + 40) by omega)), trivial, (Or.inl (show (s + 19) < (s + 40) by omega)), trivial, trivial, (Or.inl (show (s + 20) < (s + 40) by omega)), (Or.inl (show (s + 25) < (s + 40) by omega)), trivial, trivial, trivial, trivial⟩
  have hf1_s : w_1[s]? = some (mO 9 [.ref (s + 1), .ref (s + 7), .ref (s + 13), .int 0, .ref (s + 19), .int 0, .int 0, .ref (s + 20), .ref (s + 25), .int (-1), .int 0, .null]) := by rw [ew_1]; exact List.getElem?_set_self (lt_of_get f0)
  have hf1_low : LowK w0 w_1 s := LowK.mono f1 (fun k h8 h9 => by rw [ew_1, List.getElem?_set_ne (by omega)])
  have hf1_st1 : StAt w_1 (s + 1) sv0 := StAt.mono f2 (fun k h8 h9 => by rw [ew_1, List.getElem?_set_ne (by omega)])
  have hf1_st7 : StAt w_1 (s + 7) sv0 := StAt.mono f3 (fun k h8 h9 => by rw [ew_1, List.getElem?_set_ne (by omega)])
  have hf1_st13 : StAt w_1 (s + 13) sv0 := StAt.mono f4 (fun k h8 h9 => by rw [ew_1, List.getElem?_set_ne (by omega)])
  have hf1__s___19_ : w_1[(s + 19)]? = some (.inl (3, 8, .inr (.inr (.inr (.inr (fun _ => none)))))) := by rw [ew_1, List.getElem?_set_ne (by omega)]; exact f5
  have hf1_tr : TrAt w_1 (s + 20) hill0 (fun _ => 0) 0 := TrAt.mono f6 (fun k h8 h9 => by rw [ew_1, List.getElem?_set_ne (by omega)])
  have hf1_tx : TxAt w_1 (s + 25) [] 0 0 (fun _ => (4, 0, 0, 0)) := TxAt.mono f7 (fun k h8 h9 => by rw [ew_1, List.getElem?_set_ne (by omega)])
  refine r_aload_n hC dX8_init_73 rfl (j := 0) rfl ?_
  refine r_iconst hC dX8_init_74 (v := (-1)) (by decide) ?_
  refine r_put' hC pX8_init_75 hf1_s (Nat.le_of_ble_eq_true rfl) (fun _ => rfl) (fun _ => rfl) (fun w_2 ew_2 => ?_)
  replace ew_2 : w_2 = (w_1).set (s) (mO 9 [.ref (s + 1), .ref (s + 7), .ref (s + 13), .int 0, .ref (s + 19), .int 0, .int 0, .ref (s + 20), .ref (s + 25), .int (-1), .int (-1), .null]) := ew_2
  have hl_2 : w_2.length = (s + 40) := by rw [ew_2, List.length_set, hl_1]
  have hw_2 : mLowW w_2.length w_2 := by rw [hl_2, ew_2]; exact mLowW.set (by rw [← hl_1]; exact hw_1) ⟨(Or.inl (show (s + 1) < (s + 40) by omega)), (Or.inl (show (s + 7) < (s + 40) by omega)), (Or.inl (show (s + 13) < (s + 40) by omega)), trivial, (Or.inl (show (s + 19) < (s + 40) by omega)), trivial, trivial, (Or.inl (show (s + 20) < (s + 40) by omega)), (Or.inl (show (s + 25) < (s + 40) by omega)), trivial, trivial, trivial, trivial⟩
  have hf2_s : w_2[s]? = some (mO 9 [.ref (s + 1), .ref (s + 7), .ref (s + 13), .int 0, .ref (s + 19), .int 0, .int 0, .ref (s + 20), .ref (s + 25), .int (-1), .int (-1), .null]) := by rw [ew_2]; exact List.getElem?_set_self (lt_of_get hf1_s)
  have hf2_low : LowK w0 w_2 s := LowK.mono hf1_low (fun k h8 h9 => by rw [ew_2, List.getElem?_set_ne (by omega)])
  have hf2_st1 : StAt w_2 (s + 1) sv0 := StAt.mono hf1_st1 (fun k h8 h9 => by rw [ew_2, List.getElem?_set_ne (by omega)])
  have hf2_st7 : StAt w_2 (s + 7) sv0 := StAt.mono hf1_st7 (fun k h8 h9 => by rw [ew_2, List.getElem?_set_ne (by omega)])
  have hf2_st13 : StAt w_2 (s + 13) sv0 := StAt.mono hf1_st13 (fun k h8 h9 => by rw [ew_2, List.getElem?_set_ne (by omega)])
  have hf2__s___19_ : w_2[(s + 19)]? = some (.inl (3, 8, .inr (.inr (.inr (.inr (fun _ => none)))))) := by rw [ew_2, List.getElem?_set_ne (by omega)]; exact hf1__s___19_
  have hf2_tr : TrAt w_2 (s + 20) hill0 (fun _ => 0) 0 := TrAt.mono hf1_tr (fun k h8 h9 => by rw [ew_2, List.getElem?_set_ne (by omega)])
  have hf2_tx : TxAt w_2 (s + 25) [] 0 0 (fun _ => (4, 0, 0, 0)) := TxAt.mono hf1_tx (fun k h8 h9 => by rw [ew_2, List.getElem?_set_ne (by omega)])
  
  exact kk X w_2 hB hl_2 hw_2 hf2_s hf2_low hf2_st1 hf2_st7 hf2_st13 hf2__s___19_ hf2_tr hf2_tx
set_option maxRecDepth 100000 in
set_option maxHeartbeats 4000000 in
theorem hx_8 {X : mC} {d s n0 k n : Nat} {w0 w : mW}  (hmax : s < 900000) (h0 : w0.length = s + 1) (hn0 : n0 = w0.length) (hB : NB X RX8 cX8_init (d + 3) 90 1043 2 n0 (fun v w9 => v = none ∧ Gn w0 w9 s 88 ∧ CtAt w9 s sv0 [] (-1) (-1) none [] []) none "<init>") (hl_0 : w.length = (s + 40)) (hw_0 : mLowW w.length w) (f0 : w[s]? = some (mO 9 [.ref (s + 1), .ref (s + 7), .ref (s + 13), .int 0, .ref (s + 19), .int 0, .int 0, .ref (s + 20), .ref (s + 25), .int (-1), .int (-1), .null])) (f1 : LowK w0 w s) (f2 : StAt w (s + 1) sv0) (f3 : StAt w (s + 7) sv0) (f4 : StAt w (s + 13) sv0) (f5 : w[(s + 19)]? = some (.inl (3, 8, .inr (.inr (.inr (.inr (fun _ => none))))))) (f6 : TrAt w (s + 20) hill0 (fun _ => 0) 0) (f7 : TxAt w (s + 25) [] 0 0 (fun _ => (4, 0, 0, 0)))  (hk9 : ((k + 1) + 1) ≤ 90) (hn9 : ((n + 4) + 16) ≤ 1043) (kk : ∀ (X : mC) (w' : mW), NB X RX8 cX8_init (d + 3) 90 1043 2 n0 (fun v w9 => v = none ∧ Gn w0 w9 s 88 ∧ CtAt w9 s sv0 [] (-1) (-1) none [] []) none "<init>" → w'.length = (s + 41) → mLowW w'.length w' → w'[s]? = some (mO 9 [.ref (s + 1), .ref (s + 7), .ref (s + 13), .int 0, .ref (s + 19), .int 0, .int 0, .ref (s + 20), .ref (s + 25), .int (-1), .int (-1), .ref (s + 40)]) → LowK w0 w' s → StAt w' (s + 1) sv0 → StAt w' (s + 7) sv0 → StAt w' (s + 13) sv0 → w'[(s + 19)]? = some (.inl (3, 8, .inr (.inr (.inr (.inr (fun _ => none)))))) → TrAt w' (s + 20) hill0 (fun _ => 0) 0 → TxAt w' (s + 25) [] 0 0 (fun _ => (4, 0, 0, 0)) → w'[(s + 40)]? = some (mT []) → Wp X ((k + 1) + 1) ((n + 4) + 16) w' [(0, .ref s)] [] 89) : Wp X k n w [(0, .ref s)] [] 78 := by
  obtain ⟨hC, hnl, hE, hR, hN, hNm⟩ := id hB
  refine r_aload_n hC dX8_init_78 rfl (j := 0) rfl ?_
  refine n_new hC nX8_init_79 (fun _ => rfl) hw_0 (by rw [hl_0]; omega) (by omega) (by omega) ⟨(Or.inl (show s < w.length by omega)), trivial⟩ ⟨(Or.inl (show s < w.length by omega)), trivial⟩ (fun X hT => ?_)
  have hB := hB.tie hT (by rw [hl_0]; omega)
  clear hT
  obtain ⟨hC, hnl, hE, hR, hN, hNm⟩ := id hB
  obtain ⟨w_1, ew_1⟩ : ∃ z, z = w ++ [(mO 1 [.null, .int 0, .int 0, .int 0])] := ⟨_, rfl⟩
  have hl_1 : w_1.length = (s + 41) := by rw [ew_1, List.length_append, hl_0]; rfl
  have hw_1 : mLowW w_1.length w_1 := by rw [hl_1, ew_1]; exact (mLowW.mono (by rw [hl_0]; omega) hw_0).app (mLowW.cons ⟨trivial, trivial, trivial, trivial, trivial⟩ mLowW.nil)
  have hf1_s : w_1[s]? = some (mO 9 [.ref (s + 1), .ref (s + 7), .ref (s + 13), .int 0, .ref (s + 19), .int 0, .int 0, .ref (s + 20), .ref (s + 25), .int (-1), .int (-1), .null]) := by rw [ew_1, List.getElem?_append_left (lt_of_get f0)]; exact f0
  have hf1_low : LowK w0 w_1 s := LowK.mono f1 (fun k h8 h9 => by rw [ew_1, List.getElem?_append_left (by rw [hl_0]; omega)])
  have hf1_st1 : StAt w_1 (s + 1) sv0 := StAt.mono f2 (fun k h8 h9 => by rw [ew_1, List.getElem?_append_left (by rw [hl_0]; omega)])
  have hf1_st7 : StAt w_1 (s + 7) sv0 := StAt.mono f3 (fun k h8 h9 => by rw [ew_1, List.getElem?_append_left (by rw [hl_0]; omega)])
  have hf1_st13 : StAt w_1 (s + 13) sv0 := StAt.mono f4 (fun k h8 h9 => by rw [ew_1, List.getElem?_append_left (by rw [hl_0]; omega)])
  have hf1__s___19_ : w_1[(s + 19)]? = some (.inl (3, 8, .inr (.inr (.inr (.inr (fun _ => none)))))) := by rw [ew_1, List.getElem?_append_left (lt_of_get f5)]; exact f5
  have hf1_tr : TrAt w_1 (s + 20) hill0 (fun _ => 0) 0 := TrAt.mono f6 (fun k h8 h9 => by rw [ew_1, List.getElem?_append_left (by rw [hl_0]; omega)])
  have hf1_tx : TxAt w_1 (s + 25) [] 0 0 (fun _ => (4, 0, 0, 0)) := TxAt.mono f7 (fun k h8 h9 => by rw [ew_1, List.getElem?_append_left (by rw [hl_0]; omega)])
  have hf1__s___40_ : w_1[(s + 40)]? = some (mO 1 [.null, .int 0, .int 0, .int 0]) := by rw [ew_1, List.getElem?_append_right (by rw [hl_0]; exact Nat.le_refl _), hl_0, Nat.sub_self]; rfl
  rw [← ew_1, hl_0]
  show Wp X (k + 1) (n + 4) w_1 [(0, .ref s)] [.ref (s + 40), .ref s] _
  refine r_dup hC dX8_init_82 rfl ?_
  refine n_callI hC (vs := []) vX8_init_83 (st_init' (d := d + 1) (k := s + 40) hl_1 hf1__s___40_ hw_1 (by omega)) rfl (by omega) (by omega) (by omega) (Nat.le_of_ble_eq_true rfl) ⟨(Or.inl (show s < w_1.length by omega)), trivial⟩ ⟨(Or.inl (show (s + 40) < w_1.length by omega)), (Or.inl (show s < w_1.length by omega)), trivial⟩ (fun v_2 w_2 X hT hP_2 hlen_2 => ?_)
  have hB := hB.tie hT (by rw [hl_1]; omega)
  clear hT
  obtain ⟨hC, hnl, hE, hR, hN, hNm⟩ := id hB
  obtain ⟨rfl, ⟨hl_2, hw_2, hk_2⟩, hP_2⟩ := hP_2
  rw [hl_1] at hl_2
  have hf2_s : w_2[s]? = some (mO 9 [.ref (s + 1), .ref (s + 7), .ref (s + 13), .int 0, .ref (s + 19), .int 0, .int 0, .ref (s + 20), .ref (s + 25), .int (-1), .int (-1), .null]) := by rw [hk_2 s (by omega)]; exact hf1_s
  have hf2_low : LowK w0 w_2 s := LowK.mono hf1_low (fun k h8 h9 => by rw [hk_2 k (by omega)])
  have hf2_st1 : StAt w_2 (s + 1) sv0 := StAt.mono hf1_st1 (fun k h8 h9 => by rw [hk_2 k (by omega)])
  have hf2_st7 : StAt w_2 (s + 7) sv0 := StAt.mono hf1_st7 (fun k h8 h9 => by rw [hk_2 k (by omega)])
  have hf2_st13 : StAt w_2 (s + 13) sv0 := StAt.mono hf1_st13 (fun k h8 h9 => by rw [hk_2 k (by omega)])
  have hf2__s___19_ : w_2[(s + 19)]? = some (.inl (3, 8, .inr (.inr (.inr (.inr (fun _ => none)))))) := by rw [hk_2 (s + 19) (by omega)]; exact hf1__s___19_
  have hf2_tr : TrAt w_2 (s + 20) hill0 (fun _ => 0) 0 := TrAt.mono hf1_tr (fun k h8 h9 => by rw [hk_2 k (by omega)])
  have hf2_tx : TxAt w_2 (s + 25) [] 0 0 (fun _ => (4, 0, 0, 0)) := TxAt.mono hf1_tx (fun k h8 h9 => by rw [hk_2 k (by omega)])
  show Wp X ((k + 1) + 1) ((n + 4) + 16) w_2 [(0, .ref s)] [.ref (s + 40), .ref s] 86
  refine n_putI' hC hNm pX8_init_86 hf2_s (Nat.le_of_ble_eq_true rfl) (fun _ => rfl) (fun _ => rfl) (fun w_3 ew_3 => ?_)
  replace ew_3 : w_3 = (w_2).set (s) (mO 9 [.ref (s + 1), .ref (s + 7), .ref (s + 13), .int 0, .ref (s + 19), .int 0, .int 0, .ref (s + 20), .ref (s + 25), .int (-1), .int (-1), .ref (s + 40)]) := ew_3
  have hl_3 : w_3.length = (s + 41) := by rw [ew_3, List.length_set, hl_2]
  have hw_3 : mLowW w_3.length w_3 := by rw [hl_3, ew_3]; exact mLowW.set (by rw [← hl_2]; exact hw_2) ⟨(Or.inl (show (s + 1) < (s + 41) by omega)), (Or.inl (show (s + 7) < (s + 41) by omega)), (Or.inl (show (s + 13) < (s + 41) by omega)), trivial, (Or.inl (show (s + 19) < (s + 41) by omega)), trivial, trivial, (Or.inl (show (s + 20) < (s + 41) by omega)), (Or.inl (show (s + 25) < (s + 41) by omega)), trivial, trivial, (Or.inl (show (s + 40) < (s + 41) by omega)), trivial⟩
  have hf3_s : w_3[s]? = some (mO 9 [.ref (s + 1), .ref (s + 7), .ref (s + 13), .int 0, .ref (s + 19), .int 0, .int 0, .ref (s + 20), .ref (s + 25), .int (-1), .int (-1), .ref (s + 40)]) := by rw [ew_3]; exact List.getElem?_set_self (lt_of_get hf2_s)
  have hf3_low : LowK w0 w_3 s := LowK.mono hf2_low (fun k h8 h9 => by rw [ew_3, List.getElem?_set_ne (by omega)])
  have hf3_st1 : StAt w_3 (s + 1) sv0 := StAt.mono hf2_st1 (fun k h8 h9 => by rw [ew_3, List.getElem?_set_ne (by omega)])
  have hf3_st7 : StAt w_3 (s + 7) sv0 := StAt.mono hf2_st7 (fun k h8 h9 => by rw [ew_3, List.getElem?_set_ne (by omega)])
  have hf3_st13 : StAt w_3 (s + 13) sv0 := StAt.mono hf2_st13 (fun k h8 h9 => by rw [ew_3, List.getElem?_set_ne (by omega)])
  have hf3__s___19_ : w_3[(s + 19)]? = some (.inl (3, 8, .inr (.inr (.inr (.inr (fun _ => none)))))) := by rw [ew_3, List.getElem?_set_ne (by omega)]; exact hf2__s___19_
  have hf3_tr : TrAt w_3 (s + 20) hill0 (fun _ => 0) 0 := TrAt.mono hf2_tr (fun k h8 h9 => by rw [ew_3, List.getElem?_set_ne (by omega)])
  have hf3_tx : TxAt w_3 (s + 25) [] 0 0 (fun _ => (4, 0, 0, 0)) := TxAt.mono hf2_tx (fun k h8 h9 => by rw [ew_3, List.getElem?_set_ne (by omega)])
  have hf3__s___40_ : w_3[(s + 40)]? = some (mT []) := by rw [ew_3, List.getElem?_set_ne (by omega)]; exact hP_2
  
  exact kk X w_3 hB hl_3 hw_3 hf3_s hf3_low hf3_st1 hf3_st7 hf3_st13 hf3__s___19_ hf3_tr hf3_tx hf3__s___40_
set_option maxRecDepth 100000 in
set_option maxHeartbeats 4000000 in
theorem cn_contest {d : Nat} {w : mW} {s : Nat}  (hl_0 : w.length = s + 1) (hk : w[s]? = some (mO 9 [.null, .null, .null, .int 0, .null, .int 0, .int 0, .null, .null, .int 0, .int 0, .null])) (hw_0 : mLowW w.length w) (hmax : s < 900000)  : SpN (d + 3) yX8_init cX8_init 2 none [.ref s] w 90 1043 (fun v w9 => v = none ∧ Gn w w9 s 88 ∧ CtAt w9 s sv0 [] (-1) (-1) none [] []) := by
  refine SpN.of (by decide +kernel) (Nat.le_of_ble_eq_true rfl) (fun X hC hnl hE hR hN hNm => ?_)
  have hC : Cx X RX8 cX8_init (d + 3) 90 1043 := hC
  have hB := NB.mk hC hnl hE hR hN hNm
  show Wp X 0 0 w [(0, .ref s)] [] 0
  obtain ⟨hC, hnl, hE, hR, hN, hNm⟩ := id hB
  refine r_aload_n hC dX8_init_0 rfl (j := 0) rfl ?_
  refine r_objI hC oX8_init_1 (Nat.le_of_ble_eq_true rfl) ?_
  refine hx_1 (d := d) (w0 := w) hmax hl_0 rfl hB hl_0 hw_0 hk (fun k _ => rfl) (by omega) (by omega) (fun X w_1 hB hl_1 hw_1 g1_0 g1_1 g1_2 => ?_)
  refine hx_2 (d := d) (w0 := w) hmax hl_0 rfl hB hl_1 hw_1 g1_0 g1_1 g1_2 (by omega) (by omega) (fun X w_2 hB hl_2 hw_2 g2_0 g2_1 g2_2 g2_3 => ?_)
  refine hx_3 (d := d) (w0 := w) hmax hl_0 rfl hB hl_2 hw_2 g2_0 g2_1 g2_2 g2_3 (by omega) (by omega) (fun X w_3 hB hl_3 hw_3 g3_0 g3_1 g3_2 g3_3 g3_4 => ?_)
  refine hx_4 (d := d) (w0 := w) hmax hl_0 rfl hB hl_3 hw_3 g3_0 g3_1 g3_2 g3_3 g3_4 (by omega) (by omega) (fun X w_4 hB hl_4 hw_4 g4_0 g4_1 g4_2 g4_3 g4_4 g4_5 => ?_)
  refine hx_5 (d := d) (w0 := w) hmax hl_0 rfl hB hl_4 hw_4 g4_0 g4_1 g4_2 g4_3 g4_4 g4_5 (by omega) (by omega) (fun X w_5 hB hl_5 hw_5 g5_0 g5_1 g5_2 g5_3 g5_4 g5_5 g5_6 => ?_)
  refine hx_6 (d := d) (w0 := w) hmax hl_0 rfl hB hl_5 hw_5 g5_0 g5_1 g5_2 g5_3 g5_4 g5_5 g5_6 (by omega) (by omega) (fun X w_6 hB hl_6 hw_6 g6_0 g6_1 g6_2 g6_3 g6_4 g6_5 g6_6 g6_7 => ?_)
  refine hx_7 (d := d) (w0 := w) hmax hl_0 rfl hB hl_6 hw_6 g6_0 g6_1 g6_2 g6_3 g6_4 g6_5 g6_6 g6_7 (by omega) (by omega) (fun X w_7 hB hl_7 hw_7 g7_0 g7_1 g7_2 g7_3 g7_4 g7_5 g7_6 g7_7 => ?_)
  refine hx_8 (d := d) (w0 := w) hmax hl_0 rfl hB hl_7 hw_7 g7_0 g7_1 g7_2 g7_3 g7_4 g7_5 g7_6 g7_7 (by omega) (by omega) (fun X w_8 hB hl_8 hw_8 g8_0 g8_1 g8_2 g8_3 g8_4 g8_5 g8_6 g8_7 g8_8 => ?_)
  obtain ⟨hC, hnl, hE, hR, hN, hNm⟩ := id hB
  refine r_iconst hC dX8_init_89 (v := 0) (by decide) ?_
  refine r_istore_n hC dX8_init_90 rfl (by rw [hnl]; decide) (L' := [(1, .int 0), (0, .ref s)]) rfl ?_
  refine r_locals [1, 0] (L' := [(0, .ref s), (1, .int 0)]) rfl ?_
  exact hs_all (d := d) hl_0 hmax rfl 8 0 X w_8 _ _ rfl (by omega) (by omega) hB hl_8 hw_8 g8_0 (by rw [hsF_0]; exact g8_5) ⟨g8_2, g8_3, g8_4, g8_6, g8_7, g8_8, fun i hi => absurd hi (Nat.not_lt_zero i), g8_1⟩
end CT
