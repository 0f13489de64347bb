section CT
/-- what a walk in a maker of things stands on -/
def NB (X : mC) (own : String) (cc : ByteArray) (d mc ms nl n0 : Nat) (P : Option Value → mW → Prop) (ret : Option FieldType) (nm : String) : Prop := Cx X own cc d mc ms ∧ mNL X = nl ∧ mEndN X n0 mc ms P ∧ mRet X ret ∧ mNoTab X ∧ mNam X nm
theorem NB.mk {X : mC} {own : String} {cc : ByteArray} {d mc ms nl n0 : Nat} {P : Option Value → mW → Prop} {ret : Option FieldType} {nm : String} (h1 : Cx X own cc d mc ms) (h2 : mNL X = nl) (h3 : mEndN X n0 mc ms P) (h4 : mRet X ret) (h5 : mNoTab X) (h6 : mNam X nm) : NB X own cc d mc ms nl n0 P ret nm := ⟨h1, h2, h3, h4, h5, h6⟩
theorem NB.tie {X X1 : mC} {own : String} {cc : ByteArray} {d mc ms nl n0 n : Nat} {P : Option Value → mW → Prop} {ret : Option FieldType} {nm : String} (h : NB X own cc d mc ms nl n0 P ret nm) (hT : mTie n X X1) (hn : n0 ≤ n) : NB X1 own cc d mc ms nl n0 P ret nm :=
  ⟨Cx.tie hT h.1, (mNL.tie hT).trans h.2.1, mEndN.tie hT hn h.2.2.1, mRet.tie hT h.2.2.2.1, mNoTab.tie hT h.2.2.2.2.1, mNam.tie hT h.2.2.2.2.2⟩
/-- the world has grown by n things behind the thing at s, the last of w; what stood before it is as it was -/
def Gn (w w' : mW) (s n : Nat) : Prop := w'.length = w.length + n ∧ mLowW w'.length w' ∧ ∀ k, k < s → w'[k]? = w[k]?
theorem n_putI' {X : mC} {own : String} {cc : ByteArray} {d mc ms k n pc : Nat} {w : mW} {L : List (Nat × Value)} {st : List Value} (hC : Cx X own cc d mc ms) (hNm : mNam X "<init>") {ci j a : Nat} {fs : List Value} {v : Value} {ty : FieldType} (hf : mPutI own cc pc ci j ty) (hw : w[a]? = some (mO ci fs)) (hl9 : j < fs.length) (hn : ∀ ad, narrow ty (trV ad v) = trV ad v) (hfit : ∀ ad, fits ty (trV ad v) = true) (kk : ∀ w1, w1 = w.set a (mO ci (fs.set j v)) → Wp X k n w1 L st (pc + 3)) : Wp X k n w L (v :: .ref a :: st) pc := n_putI hC hNm hf hw hl9 hn hfit (kk _ rfl)
theorem Wp.wid {X : mC} {k n k' n' pc : Nat} {w : mW} {L : List (Nat × Value)} {st : List Value} (h1 : k ≤ k') (h2 : n ≤ n') (kk : Wp X k' n' w L st pc) : Wp X k n w L st pc := by
  obtain ⟨p, l, e, R, s, m, args, below, meth, c, Q, D, dt, ad, A, nL⟩ := X
  intro ws H locs ls hp hP hD hS hl
  exact W.widen h1 h2 (kk ws H locs ls hp hP hD hS hl)
def hill0 : hv := (fun _ => 0, fun _ => -1, 3, 0, 0)
def sv0 : sv := (hill0, fun _ => 0, fun _ => 0, 0, 0, 0, 0, 0, 0)
theorem HillAt.mono {w w' : mW} {h a b : Nat} {x : hv} (H : HillAt w h a b x) (e1 : w'[h]? = w[h]?) (e2 : w'[a]? = w[a]?) (e3 : w'[b]? = w[b]?) : HillAt w' h a b x := ⟨e1.trans H.1, e2.trans H.2.1, e3.trans H.2.2⟩
theorem StAt.mono {w w' : mW} {s : Nat} {y : sv} (H : StAt w s y) (h : ∀ k, s ≤ k → k ≤ s + 5 → w'[k]? = w[k]?) : StAt w' s y := ⟨(h _ (by omega) (by omega)).trans H.1, H.2.1.mono (h _ (by omega) (by omega)) (h _ (by omega) (by omega)) (h _ (by omega) (by omega)), (h _ (by omega) (by omega)).trans H.2.2.1, (h _ (by omega) (by omega)).trans H.2.2.2⟩
theorem TrAt.mono {w w' : mW} {t : Nat} {x : hv} {q : Nat → Int32} {n : Nat} (H : TrAt w t x q n) (h : ∀ k, t ≤ k → k ≤ t + 4 → w'[k]? = w[k]?) : TrAt w' t x q n := ⟨(h _ (by omega) (by omega)).trans H.1, H.2.1.mono (h _ (by omega) (by omega)) (h _ (by omega) (by omega)) (h _ (by omega) (by omega)), (h _ (by omega) (by omega)).trans H.2.2⟩
/-- the commands that a text's reader fills: c of them -/
def cmF (t c : Nat) : Nat → Option Nat := fun i => if i < c then some (t + 3 + i) else none
def cmC (c : cmdT) : mE := mO 4 [.ref (1000020 + c.1), .int c.2.1, .int c.2.2.1, .int c.2.2.2]
def TxAt (w : mW) (t : Nat) (tx : List Nat) (cn ps : Int32) (cs : Nat → cmdT) : Prop := w[t]? = some (mO 5 [.ref (t + 1), .ref (t + 2), .int cn, .int ps]) ∧ w[t + 1]? = some (mT tx) ∧ w[t + 2]? = some (.inl (4, 12, .inr (.inr (.inr (.inr (cmF t 12)))))) ∧ ∀ i, i < 12 → w[t + 3 + i]? = some (cmC (cs i))
theorem TxAt.mono {w w' : mW} {t : Nat} {tx : List Nat} {cn ps : Int32} {cs : Nat → cmdT} (H : TxAt w t tx cn ps cs) (h : ∀ k, t ≤ k → k ≤ t + 14 → w'[k]? = w[k]?) : TxAt w' t tx cn ps cs := ⟨(h _ (by omega) (by omega)).trans H.1, (h _ (by omega) (by omega)).trans H.2.1, (h _ (by omega) (by omega)).trans H.2.2.1, fun i hi => (h _ (by omega) (by omega)).trans (H.2.2.2 i hi)⟩
theorem st_init' {d k : Nat} {w : mW} (hl_0 : w.length = k + 1) (hk : w[k]? = some (mO 1 [.null, .int 0, .int 0, .int 0])) (hw : mLowW w.length w) (hmax : k < 900000) : SpN (d + 1) yJ4_init_da8c8 cJ4_init_da8c8 1 none [.ref k] w 1 16 (fun v w9 => v = none ∧ Gn w w9 k 0 ∧ w9[k]? = some (mT [])) :=
  (st_init (d := d) hk hw (by omega)).imp (fun v w' h => by
    obtain ⟨rfl, rfl⟩ := h
    exact ⟨rfl, ⟨List.length_set, by rw [List.length_set]; exact hw.set trivial, fun i hi => List.getElem?_set_ne (by omega)⟩, List.getElem?_set_self (lt_of_get hk)⟩)
/-- owners: the first c are nobody -/
def ownF (c j : Nat) : Int32 := if j < c then -1 else 0
theorem ownF_upd {c : Nat} : upd (ownF c) c (-1) = ownF (c + 1) := by
  funext j
  by_cases h : j = c
  · subst h
    rw [pk_us]
    exact (if_pos (Nat.lt_succ_self j)).symm
  · rw [pk_un h]
    unfold ownF
    by_cases q : j < c
    · rw [if_pos q, if_pos (by omega)]
    · rw [if_neg q, if_neg (by omega)]
set_option maxRecDepth 100000 in
set_option maxHeartbeats 4000000 in
theorem hi_all {X : mC} {d mc ms k n h b : Nat} {a : Value} {w0 : mW} {sl : Int32} (hC : Cx X RX4 cX4_init d mc ms) (hnl : mNL X = 2) (hh : w0[h]? = some (mO 6 [a, .ref b, .int sl, .int 0, .int 0])) (hbl : b < w0.length) (hhb : h ≠ b) (kk : ∀ w', w' = w0.set b (mI 0 25 (ownF 25)) → Wp X k n w' [(0, .ref h), (1, .int (nI 25))] [] 27) : ∀ (i9 c : Nat) (w : mW), c + i9 = 25 → w = w0.set b (mI 0 25 (ownF c)) → Wp X k n w [(0, .ref h), (1, .int (nI c))] [] 27 := by
  intro i9
  induction i9 with
  | zero =>
    intro c w h9 e9
    obtain rfl : c = 25 := by omega
    exact kk w e9
  | succ i9 ih =>
    intro c w h9 e9
    have hc : c < 25 := by omega
    have hh1 : w[h]? = some (mO 6 [a, .ref b, .int sl, .int 0, .int 0]) := by rw [e9, List.getElem?_set_ne (Ne.symm hhb)]; exact hh
    have hb1 : w[b]? = some (mI 0 25 (ownF c)) := by rw [e9]; exact List.getElem?_set_self hbl
    refine r_iload_n hC dX4_init_27 rfl (j := 1) rfl ?_
    refine r_bipush hC dX4_init_28 (v := 25) (by decide) ?_
    refine r_icmp_ge hC dX4_init_30 (tgt := 46) (by decide) (fun h => absurd h (lit_ge rfl hc (by decide))) (fun _ => ?_)
    refine r_aload_n hC dX4_init_33 rfl (j := 0) rfl ?_
    refine r_get hC gX4_init_34 hh1 (v := .ref b) rfl ?_
    refine r_iload_n hC dX4_init_37 rfl (j := 1) rfl ?_
    refine r_iconst hC dX4_init_38 (v := (-1)) (by decide) ?_
    refine r_iast' hC dX4_init_39 (j := c) hb1 (mIx_nI hc (by decide)) (fun w_1 ew_1 => ?_)
    refine r_iinc hC dX4_init_40 (j := 1) rfl (v := nI (c + 1)) (nI_succ c).symm (by rw [hnl]; decide) (L' := [(1, .int (nI (c + 1))), (0, .ref h)]) rfl ?_
    refine r_goto hC dX4_init_43 (tgt := 27) (by decide) ?_
    refine r_locals [1, 0] (L' := [(0, .ref h), (1, .int (nI (c + 1)))]) rfl ?_
    exact ih (c + 1) w_1 (by omega) (by rw [ew_1, ownF_upd, e9, List.set_set])
theorem ownF_0 : ownF 0 = (fun _ => 0) := funext fun j => if_neg (Nat.not_lt_zero j)
theorem ownF_25 : ∀ j, j < 25 → (fun _ => -1 : Nat → Int32) j = ownF 25 j := fun j hj => (if_pos hj).symm
set_option maxRecDepth 100000 in
set_option maxHeartbeats 4000000 in
theorem cn_hill {d : Nat} {w : mW} {s : Nat}  (hl_0 : w.length = s + 1) (hk : w[s]? = some (mO 6 [.null, .null, .int 0, .int 0, .int 0])) (hw_0 : mLowW w.length w) (hmax : s < 900000)  : SpN d yX4_init cX4_init 2 none [.ref s] w 2 51 (fun v w9 => v = none ∧ Gn w w9 s 2 ∧ HillAt w9 s (s + 1) (s + 2) hill0) := by
  refine SpN.of (by decide +kernel) (Nat.le_of_ble_eq_true rfl) (fun X hC hnl hE hR hN hNm => ?_)
  have hC : Cx X RX4 cX4_init d 2 51 := hC
  have hB := NB.mk hC hnl hE hR hN hNm
  show Wp X 0 0 w [(0, .ref s)] [] 0
  obtain ⟨hC, hnl, hE, hR, hN, hNm⟩ := id hB
  refine r_aload_n hC dX4_init_0 rfl (j := 0) rfl ?_
  refine r_objI hC oX4_init_1 (Nat.le_of_ble_eq_true rfl) ?_
  refine r_aload_n hC dX4_init_4 rfl (j := 0) rfl ?_
  refine r_bipush hC dX4_init_5 (v := 26) (by decide) ?_
  refine n_newa hC (atype := .int) (ty := .int) (t := 0) (N := 26) (a0 := (26, .inl (fun _ => 0))) ac_int rfl (fun _ => rfl) (fun _ => rfl) (fun _ => rfl) (by decide) (by decide) (by decide) dX4_init_7 hw_0 (by rw [hl_0]; omega) (by omega) (by omega) ⟨(Or.inl (by omega)), trivial⟩ ⟨(Or.inl (by omega)), trivial⟩ (fun X hT => ?_)
  have hB := hB.tie hT (by rw [hl_0]; omega)
  clear hT
  obtain ⟨hC, hnl, hE, hR, hN, hNm⟩ := id hB
  obtain ⟨w_1, ew_1⟩ : ∃ z, z = w ++ [(mI 0 26 (fun _ => 0))] := ⟨_, rfl⟩
  have hl_1 : w_1.length = (s + 2) := by rw [ew_1, List.length_append, hl_0]; rfl
  have hw_1 : mLowW w_1.length w_1 := by rw [hl_1, ew_1]; exact (mLowW.mono (by rw [hl_0]; omega) hw_0).app (mLowW.cons trivial mLowW.nil)
  have hf1_s : w_1[s]? = some (mO 6 [.null, .null, .int 0, .int 0, .int 0]) := by rw [ew_1, List.getElem?_append_left (lt_of_get hk)]; exact hk
  have hf1__s___1_ : w_1[(s + 1)]? = some (mI 0 26 (fun _ => 0)) := by rw [ew_1, List.getElem?_append_right (by rw [hl_0]; exact Nat.le_refl _), hl_0, Nat.sub_self]; rfl
  rw [← ew_1, hl_0]
  show Wp X (0 + 1) (0 + 26) w_1 [(0, .ref s)] [.ref (s + 1), .ref s] _
  refine n_putI' hC hNm pX4_init_9 hf1_s (Nat.le_of_ble_eq_true rfl) (fun _ => rfl) (fun _ => rfl) (fun w_2 ew_2 => ?_)
  replace ew_2 : w_2 = (w_1).set (s) (mO 6 [.ref (s + 1), .null, .int 0, .int 0, .int 0]) := ew_2
  have hl_2 : w_2.length = (s + 2) := by rw [ew_2, List.length_set, hl_1]
  have hw_2 : mLowW w_2.length w_2 := by rw [hl_2, ew_2]; exact mLowW.set (by rw [← hl_1]; exact hw_1) ⟨(Or.inl (by omega)), trivial, trivial, trivial, trivial, trivial⟩
  have hf2_s : w_2[s]? = some (mO 6 [.ref (s + 1), .null, .int 0, .int 0, .int 0]) := by rw [ew_2]; exact List.getElem?_set_self (lt_of_get hf1_s)
  have hf2__s___1_ : w_2[(s + 1)]? = some (mI 0 26 (fun _ => 0)) := by rw [ew_2, List.getElem?_set_ne (by omega)]; exact hf1__s___1_
  refine r_aload_n hC dX4_init_12 rfl (j := 0) rfl ?_
  refine r_bipush hC dX4_init_13 (v := 25) (by decide) ?_
  refine n_newa hC (atype := .int) (ty := .int) (t := 0) (N := 25) (a0 := (25, .inl (fun _ => 0))) ac_int rfl (fun _ => rfl) (fun _ => rfl) (fun _ => rfl) (by decide) (by decide) (by decide) dX4_init_15 hw_2 (by rw [hl_2]; omega) (by omega) (by omega) ⟨(Or.inl (by omega)), trivial⟩ ⟨(Or.inl (by omega)), trivial⟩ (fun X hT => ?_)
  have hB := hB.tie hT (by rw [hl_2]; omega)
  clear hT
  obtain ⟨hC, hnl, hE, hR, hN, hNm⟩ := id hB
  obtain ⟨w_3, ew_3⟩ : ∃ z, z = w_2 ++ [(mI 0 25 (fun _ => 0))] := ⟨_, rfl⟩
  have hl_3 : w_3.length = (s + 3) := by rw [ew_3, List.length_append, hl_2]; rfl
  have hw_3 : mLowW w_3.length w_3 := by rw [hl_3, ew_3]; exact (mLowW.mono (by rw [hl_2]; omega) hw_2).app (mLowW.cons trivial mLowW.nil)
  have hf3_s : w_3[s]? = some (mO 6 [.ref (s + 1), .null, .int 0, .int 0, .int 0]) := by rw [ew_3, List.getElem?_append_left (lt_of_get hf2_s)]; exact hf2_s
  have hf3__s___1_ : w_3[(s + 1)]? = some (mI 0 26 (fun _ => 0)) := by rw [ew_3, List.getElem?_append_left (lt_of_get hf2__s___1_)]; exact hf2__s___1_
  have hf3__s___2_ : w_3[(s + 2)]? = some (mI 0 25 (fun _ => 0)) := by rw [ew_3, List.getElem?_append_right (by rw [hl_2]; exact Nat.le_refl _), hl_2, Nat.sub_self]; rfl
  rw [← ew_3, hl_2]
  show Wp X ((0 + 1) + 1) ((0 + 26) + 25) w_3 [(0, .ref s)] [.ref (s + 2), .ref s] _
  refine n_putI' hC hNm pX4_init_17 hf3_s (Nat.le_of_ble_eq_true rfl) (fun _ => rfl) (fun _ => rfl) (fun w_4 ew_4 => ?_)
  replace ew_4 : w_4 = (w_3).set (s) (mO 6 [.ref (s + 1), .ref (s + 2), .int 0, .int 0, .int 0]) := ew_4
  have hl_4 : w_4.length = (s + 3) := by rw [ew_4, List.length_set, hl_3]
  have hw_4 : mLowW w_4.length w_4 := by rw [hl_4, ew_4]; exact mLowW.set (by rw [← hl_3]; exact hw_3) ⟨(Or.inl (by omega)), (Or.inl (by omega)), trivial, trivial, trivial, trivial⟩
  have hf4_s : w_4[s]? = some (mO 6 [.ref (s + 1), .ref (s + 2), .int 0, .int 0, .int 0]) := by rw [ew_4]; exact List.getElem?_set_self (lt_of_get hf3_s)
  have hf4__s___1_ : w_4[(s + 1)]? = some (mI 0 26 (fun _ => 0)) := by rw [ew_4, List.getElem?_set_ne (by omega)]; exact hf3__s___1_
  have hf4__s___2_ : w_4[(s + 2)]? = some (mI 0 25 (fun _ => 0)) := by rw [ew_4, List.getElem?_set_ne (by omega)]; exact hf3__s___2_
  refine r_aload_n hC dX4_init_20 rfl (j := 0) rfl ?_
  refine r_iconst hC dX4_init_21 (v := 3) (by decide) ?_
  refine r_put' hC pX4_init_22 hf4_s (Nat.le_of_ble_eq_true rfl) (fun _ => rfl) (fun _ => rfl) (fun w_5 ew_5 => ?_)
  replace ew_5 : w_5 = (w_4).set (s) (mO 6 [.ref (s + 1), .ref (s + 2), .int 3, .int 0, .int 0]) := ew_5
  have hl_5 : w_5.length = (s + 3) := by rw [ew_5, List.length_set, hl_4]
  have hw_5 : mLowW w_5.length w_5 := by rw [hl_5, ew_5]; exact mLowW.set (by rw [← hl_4]; exact hw_4) ⟨(Or.inl (by omega)), (Or.inl (by omega)), trivial, trivial, trivial, trivial⟩
  have hf5_s : w_5[s]? = some (mO 6 [.ref (s + 1), .ref (s + 2), .int 3, .int 0, .int 0]) := by rw [ew_5]; exact List.getElem?_set_self (lt_of_get hf4_s)
  have hf5__s___1_ : w_5[(s + 1)]? = some (mI 0 26 (fun _ => 0)) := by rw [ew_5, List.getElem?_set_ne (by omega)]; exact hf4__s___1_
  have hf5__s___2_ : w_5[(s + 2)]? = some (mI 0 25 (fun _ => 0)) := by rw [ew_5, List.getElem?_set_ne (by omega)]; exact hf4__s___2_
  refine r_iconst hC dX4_init_25 (v := 0) (by decide) ?_
  refine r_istore_n hC dX4_init_26 rfl (by rw [hnl]; decide) (L' := [(1, .int 0), (0, .ref s)]) rfl ?_
  refine r_locals [1, 0] (L' := [(0, .ref s), (1, .int 0)]) rfl ?_
  refine hi_all (b := s + 2) (h := s) hC hnl hf5_s (by rw [hl_5]; omega) (by omega) (fun w9 e9 => ?_) 25 0 w_5 rfl (by rw [ownF_0]; exact (set_same hf5__s___2_).symm)
  obtain ⟨w_6, ew_6⟩ : ∃ z, z = w9 := ⟨_, rfl⟩
  rw [← ew_6] at e9 ⊢
  clear ew_6
  have ew_6 := e9
  replace ew_6 : w_6 = (w_5).set ((s + 2)) (mI 0 25 (ownF 25)) := ew_6
  have hl_6 : w_6.length = (s + 3) := by rw [ew_6, List.length_set, hl_5]
  have hw_6 : mLowW w_6.length w_6 := by rw [hl_6, ew_6]; exact mLowW.set (by rw [← hl_5]; exact hw_5) trivial
  have hf6_s : w_6[s]? = some (mO 6 [.ref (s + 1), .ref (s + 2), .int 3, .int 0, .int 0]) := by rw [ew_6, List.getElem?_set_ne (by omega)]; exact hf5_s
  have hf6__s___1_ : w_6[(s + 1)]? = some (mI 0 26 (fun _ => 0)) := by rw [ew_6, List.getElem?_set_ne (by omega)]; exact hf5__s___1_
  have hf6__s___2_ : w_6[(s + 2)]? = some (mI 0 25 (ownF 25)) := by rw [ew_6]; exact List.getElem?_set_self (lt_of_get hf5__s___2_)
  refine r_iload_n hC dX4_init_27 rfl (j := 1) rfl ?_
  refine r_bipush hC dX4_init_28 (v := 25) (by decide) ?_
  refine r_icmp_ge hC dX4_init_30 (tgt := 46) (by decide) (fun _ => ?_) (fun h => absurd (lit_le rfl (Nat.le_refl 25) (by decide)) h)
  refine r_arrEq hf6__s___2_ ownF_25 ?_
  obtain ⟨w_7, ew_7⟩ : ∃ z, z = w_6.set (s + 2) (mI 0 25 (fun _ => -1)) := ⟨_, rfl⟩
  rw [← ew_7]
  replace ew_7 : w_7 = (w_6).set ((s + 2)) (mI 0 25 (fun _ => -1)) := ew_7
  have hl_7 : w_7.length = (s + 3) := by rw [ew_7, List.length_set, hl_6]
  have hw_7 : mLowW w_7.length w_7 := by rw [hl_7, ew_7]; exact mLowW.set (by rw [← hl_6]; exact hw_6) trivial
  have hf7_s : w_7[s]? = some (mO 6 [.ref (s + 1), .ref (s + 2), .int 3, .int 0, .int 0]) := by rw [ew_7, List.getElem?_set_ne (by omega)]; exact hf6_s
  have hf7__s___1_ : w_7[(s + 1)]? = some (mI 0 26 (fun _ => 0)) := by rw [ew_7, List.getElem?_set_ne (by omega)]; exact hf6__s___1_
  have hf7__s___2_ : w_7[(s + 2)]? = some (mI 0 25 (fun _ => -1)) := by rw [ew_7]; exact List.getElem?_set_self (lt_of_get hf6__s___2_)
  refine n_vret hC hE hR dX4_init_46 (by omega) (by omega) (by rw [hl_7]; omega) ?_
  exact ⟨rfl, ⟨by rw [hl_7]; omega, hw_7, fun k h9 => by rw [ew_7, List.getElem?_set_ne (by omega), ew_6, List.getElem?_set_ne (by omega), ew_5, List.getElem?_set_ne (by omega), ew_4, List.getElem?_set_ne (by omega), ew_3, List.getElem?_append_left (by rw [hl_2]; omega), ew_2, List.getElem?_set_ne (by omega), ew_1, List.getElem?_append_left (by rw [hl_0]; omega)]⟩, hf7_s, hf7__s___1_, hf7__s___2_⟩
set_option maxRecDepth 100000 in
set_option maxHeartbeats 4000000 in
theorem cn_state {d : Nat} {w : mW} {s : Nat}  (hl_0 : w.length = s + 1) (hk : w[s]? = some (mO 7 [.null, .null, .null, .int 0, .int 0, .int 0, .int 0, .int 0, .int 0])) (hw_0 : mLowW w.length w) (hmax : s < 900000)  : SpN (d + 1) yX6_init cX6_init 1 none [.ref s] w 5 68 (fun v w9 => v = none ∧ Gn w w9 s 5 ∧ StAt w9 s sv0) := by
  refine SpN.of (by decide +kernel) (Nat.le_of_ble_eq_true rfl) (fun X hC hnl hE hR hN hNm => ?_)
  have hC : Cx X RX6 cX6_init (d + 1) 5 68 := hC
  have hB := NB.mk hC hnl hE hR hN hNm
  show Wp X 0 0 w [(0, .ref s)] [] 0
  obtain ⟨hC, hnl, hE, hR, hN, hNm⟩ := id hB
  refine r_aload_n hC dX6_init_0 rfl (j := 0) rfl ?_
  refine r_objI hC oX6_init_1 (Nat.le_of_ble_eq_true rfl) ?_
  refine r_aload_n hC dX6_init_4 rfl (j := 0) rfl ?_
  refine n_new hC nX6_init_5 (fun _ => rfl) hw_0 (by rw [hl_0]; omega) (by omega) (by omega) ⟨(Or.inl (by omega)), trivial⟩ ⟨(Or.inl (by omega)), trivial⟩ (fun X hT => ?_)
  have hB := hB.tie hT (by rw [hl_0]; omega)
  clear hT
  obtain ⟨hC, hnl, hE, hR, hN, hNm⟩ := id hB
  obtain ⟨w_1, ew_1⟩ : ∃ z, z = w ++ [(mO 6 [.null, .null, .int 0, .int 0, .int 0])] := ⟨_, rfl⟩
  have hl_1 : w_1.length = (s + 2) := by rw [ew_1, List.length_append, hl_0]; rfl
  have hw_1 : mLowW w_1.length w_1 := by rw [hl_1, ew_1]; exact (mLowW.mono (by rw [hl_0]; omega) hw_0).app (mLowW.cons ⟨trivial, trivial, trivial, trivial, trivial, trivial⟩ mLowW.nil)
  have hf1_s : w_1[s]? = some (mO 7 [.null, .null, .null, .int 0, .int 0, .int 0, .int 0, .int 0, .int 0]) := by rw [ew_1, List.getElem?_append_left (lt_of_get hk)]; exact hk
  have hf1__s___1_ : w_1[(s + 1)]? = some (mO 6 [.null, .null, .int 0, .int 0, .int 0]) := by rw [ew_1, List.getElem?_append_right (by rw [hl_0]; exact Nat.le_refl _), hl_0, Nat.sub_self]; rfl
  rw [← ew_1, hl_0]
  show Wp X (0 + 1) (0 + 5) w_1 [(0, .ref s)] [.ref (s + 1), .ref s] _
  refine r_dup hC dX6_init_8 rfl ?_
  refine n_callI hC (vs := []) vX6_init_9 (cn_hill (d := d) (s := s + 1) hl_1 hf1__s___1_ hw_1 (by omega)) rfl (by omega) (by omega) (by omega) (Nat.le_of_ble_eq_true rfl) ⟨(Or.inl (by omega)), trivial⟩ ⟨(Or.inl (by omega)), (Or.inl (by omega)), trivial⟩ (fun v_2 w_2 X hT hP_2 hlen_2 => ?_)
  have hB := hB.tie hT (by rw [hl_1]; omega)
  clear hT
  obtain ⟨hC, hnl, hE, hR, hN, hNm⟩ := id hB
  obtain ⟨rfl, ⟨hl_2, hw_2, hk_2⟩, hP_2⟩ := hP_2
  rw [hl_1] at hl_2
  replace hl_2 : w_2.length = (s + 4) := by omega
  have hf2_s : w_2[s]? = some (mO 7 [.null, .null, .null, .int 0, .int 0, .int 0, .int 0, .int 0, .int 0]) := by rw [hk_2 s (by omega)]; exact hf1_s
  show Wp X ((0 + 1) + 2) ((0 + 5) + 51) w_2 [(0, .ref s)] [.ref (s + 1), .ref s] 12
  refine n_putI' hC hNm pX6_init_12 hf2_s (Nat.le_of_ble_eq_true rfl) (fun _ => rfl) (fun _ => rfl) (fun w_3 ew_3 => ?_)
  replace ew_3 : w_3 = (w_2).set (s) (mO 7 [.ref (s + 1), .null, .null, .int 0, .int 0, .int 0, .int 0, .int 0, .int 0]) := ew_3
  have hl_3 : w_3.length = (s + 4) := by rw [ew_3, List.length_set, hl_2]
  have hw_3 : mLowW w_3.length w_3 := by rw [hl_3, ew_3]; exact mLowW.set (by rw [← hl_2]; exact hw_2) ⟨(Or.inl (by omega)), trivial, trivial, trivial, trivial, trivial, trivial, trivial, trivial, trivial⟩
  have hf3_s : w_3[s]? = some (mO 7 [.ref (s + 1), .null, .null, .int 0, .int 0, .int 0, .int 0, .int 0, .int 0]) := by rw [ew_3]; exact List.getElem?_set_self (lt_of_get hf2_s)
  have hf3__s___1_ : w_3[(s + 1)]? = some (mO 6 [.ref (s + 2), .ref (s + 3), .int 3, .int 0, .int 0]) := by rw [ew_3, List.getElem?_set_ne (by omega)]; exact hP_2.1
  have hf3__s___2_ : w_3[(s + 2)]? = some (mI 0 26 (fun _ => 0)) := by rw [ew_3, List.getElem?_set_ne (by omega)]; exact hP_2.2.1
  have hf3__s___3_ : w_3[(s + 3)]? = some (mI 0 25 (fun _ => -1)) := by rw [ew_3, List.getElem?_set_ne (by omega)]; exact hP_2.2.2
  refine r_aload_n hC dX6_init_15 rfl (j := 0) rfl ?_
  refine r_iconst hC dX6_init_16 (v := 4) (by decide) ?_
  refine n_newa hC (atype := .int) (ty := .int) (t := 0) (N := 4) (a0 := (4, .inl (fun _ => 0))) ac_int rfl (fun _ => rfl) (fun _ => rfl) (fun _ => rfl) (by decide) (by decide) (by decide) dX6_init_17 hw_3 (by rw [hl_3]; omega) (by omega) (by omega) ⟨(Or.inl (by omega)), trivial⟩ ⟨(Or.inl (by omega)), trivial⟩ (fun X hT => ?_)
  have hB := hB.tie hT (by rw [hl_3]; omega)
  clear hT
  obtain ⟨hC, hnl, hE, hR, hN, hNm⟩ := id hB
  obtain ⟨w_4, ew_4⟩ : ∃ z, z = w_3 ++ [(mI 0 4 (fun _ => 0))] := ⟨_, rfl⟩
  have hl_4 : w_4.length = (s + 5) := by rw [ew_4, List.length_append, hl_3]; rfl
  have hw_4 : mLowW w_4.length w_4 := by rw [hl_4, ew_4]; exact (mLowW.mono (by rw [hl_3]; omega) hw_3).app (mLowW.cons trivial mLowW.nil)
  have hf4_s : w_4[s]? = some (mO 7 [.ref (s + 1), .null, .null, .int 0, .int 0, .int 0, .int 0, .int 0, .int 0]) := by rw [ew_4, List.getElem?_append_left (lt_of_get hf3_s)]; exact hf3_s
  have hf4__s___1_ : w_4[(s + 1)]? = some (mO 6 [.ref (s + 2), .ref (s + 3), .int 3, .int 0, .int 0]) := by rw [ew_4, List.getElem?_append_left (lt_of_get hf3__s___1_)]; exact hf3__s___1_
  have hf4__s___2_ : w_4[(s + 2)]? = some (mI 0 26 (fun _ => 0)) := by rw [ew_4, List.getElem?_append_left (lt_of_get hf3__s___2_)]; exact hf3__s___2_
  have hf4__s___3_ : w_4[(s + 3)]? = some (mI 0 25 (fun _ => -1)) := by rw [ew_4, List.getElem?_append_left (lt_of_get hf3__s___3_)]; exact hf3__s___3_
  have hf4__s___4_ : w_4[(s + 4)]? = some (mI 0 4 (fun _ => 0)) := by rw [ew_4, List.getElem?_append_right (by rw [hl_3]; exact Nat.le_refl _), hl_3, Nat.sub_self]; rfl
  rw [← ew_4, hl_3]
  show Wp X (((0 + 1) + 2) + 1) (((0 + 5) + 51) + 4) w_4 [(0, .ref s)] [.ref (s + 4), .ref s] _
  refine n_putI' hC hNm pX6_init_19 hf4_s (Nat.le_of_ble_eq_true rfl) (fun _ => rfl) (fun _ => rfl) (fun w_5 ew_5 => ?_)
  replace ew_5 : w_5 = (w_4).set (s) (mO 7 [.ref (s + 1), .ref (s + 4), .null, .int 0, .int 0, .int 0, .int 0, .int 0, .int 0]) := ew_5
  have hl_5 : w_5.length = (s + 5) := by rw [ew_5, List.length_set, hl_4]
  have hw_5 : mLowW w_5.length w_5 := by rw [hl_5, ew_5]; exact mLowW.set (by rw [← hl_4]; exact hw_4) ⟨(Or.inl (by omega)), (Or.inl (by omega)), trivial, trivial, trivial, trivial, trivial, trivial, trivial, trivial⟩
  have hf5_s : w_5[s]? = some (mO 7 [.ref (s + 1), .ref (s + 4), .null, .int 0, .int 0, .int 0, .int 0, .int 0, .int 0]) := by rw [ew_5]; exact List.getElem?_set_self (lt_of_get hf4_s)
  have hf5__s___1_ : w_5[(s + 1)]? = some (mO 6 [.ref (s + 2), .ref (s + 3), .int 3, .int 0, .int 0]) := by rw [ew_5, List.getElem?_set_ne (by omega)]; exact hf4__s___1_
  have hf5__s___2_ : w_5[(s + 2)]? = some (mI 0 26 (fun _ => 0)) := by rw [ew_5, List.getElem?_set_ne (by omega)]; exact hf4__s___2_
  have hf5__s___3_ : w_5[(s + 3)]? = some (mI 0 25 (fun _ => -1)) := by rw [ew_5, List.getElem?_set_ne (by omega)]; exact hf4__s___3_
  have hf5__s___4_ : w_5[(s + 4)]? = some (mI 0 4 (fun _ => 0)) := by rw [ew_5, List.getElem?_set_ne (by omega)]; exact hf4__s___4_
  refine r_aload_n hC dX6_init_22 rfl (j := 0) rfl ?_
  refine r_iconst hC dX6_init_23 (v := 4) (by decide) ?_
  refine n_newa hC (atype := .int) (ty := .int) (t := 0) (N := 4) (a0 := (4, .inl (fun _ => 0))) ac_int rfl (fun _ => rfl) (fun _ => rfl) (fun _ => rfl) (by decide) (by decide) (by decide) dX6_init_24 hw_5 (by rw [hl_5]; omega) (by omega) (by omega) ⟨(Or.inl (by omega)), trivial⟩ ⟨(Or.inl (by omega)), trivial⟩ (fun X hT => ?_)
  have hB := hB.tie hT (by rw [hl_5]; omega)
  clear hT
  obtain ⟨hC, hnl, hE, hR, hN, hNm⟩ := id hB
  obtain ⟨w_6, ew_6⟩ : ∃ z, z = w_5 ++ [(mI 0 4 (fun _ => 0))] := ⟨_, rfl⟩
  have hl_6 : w_6.length = (s + 6) := by rw [ew_6, List.length_append, hl_5]; rfl
  have hw_6 : mLowW w_6.length w_6 := by rw [hl_6, ew_6]; exact (mLowW.mono (by rw [hl_5]; omega) hw_5).app (mLowW.cons trivial mLowW.nil)
  have hf6_s : w_6[s]? = some (mO 7 [.ref (s + 1), .ref (s + 4), .null, .int 0, .int 0, .int 0, .int 0, .int 0, .int 0]) := by rw [ew_6, List.getElem?_append_left (lt_of_get hf5_s)]; exact hf5_s
  have hf6__s___1_ : w_6[(s + 1)]? = some (mO 6 [.ref (s + 2), .ref (s + 3), .int 3, .int 0, .int 0]) := by rw [ew_6, List.getElem?_append_left (lt_of_get hf5__s___1_)]; exact hf5__s___1_
  have hf6__s___2_ : w_6[(s + 2)]? = some (mI 0 26 (fun _ => 0)) := by rw [ew_6, List.getElem?_append_left (lt_of_get hf5__s___2_)]; exact hf5__s___2_
  have hf6__s___3_ : w_6[(s + 3)]? = some (mI 0 25 (fun _ => -1)) := by rw [ew_6, List.getElem?_append_left (lt_of_get hf5__s___3_)]; exact hf5__s___3_
  have hf6__s___4_ : w_6[(s + 4)]? = some (mI 0 4 (fun _ => 0)) := by rw [ew_6, List.getElem?_append_left (lt_of_get hf5__s___4_)]; exact hf5__s___4_
  have hf6__s___5_ : w_6[(s + 5)]? = some (mI 0 4 (fun _ => 0)) := by rw [ew_6, List.getElem?_append_right (by rw [hl_5]; exact Nat.le_refl _), hl_5, Nat.sub_self]; rfl
  rw [← ew_6, hl_5]
  show Wp X ((((0 + 1) + 2) + 1) + 1) ((((0 + 5) + 51) + 4) + 4) w_6 [(0, .ref s)] [.ref (s + 5), .ref s] _
  refine n_putI' hC hNm pX6_init_26 hf6_s (Nat.le_of_ble_eq_true rfl) (fun _ => rfl) (fun _ => rfl) (fun w_7 ew_7 => ?_)
  replace ew_7 : w_7 = (w_6).set (s) (mO 7 [.ref (s + 1), .ref (s + 4), .ref (s + 5), .int 0, .int 0, .int 0, .int 0, .int 0, .int 0]) := ew_7
  have hl_7 : w_7.length = (s + 6) := by rw [ew_7, List.length_set, hl_6]
  have hw_7 : mLowW w_7.length w_7 := by rw [hl_7, ew_7]; exact mLowW.set (by rw [← hl_6]; exact hw_6) ⟨(Or.inl (by omega)), (Or.inl (by omega)), (Or.inl (by omega)), trivial, trivial, trivial, trivial, trivial, trivial, trivial⟩
  have hf7_s : w_7[s]? = some (mO 7 [.ref (s + 1), .ref (s + 4), .ref (s + 5), .int 0, .int 0, .int 0, .int 0, .int 0, .int 0]) := by rw [ew_7]; exact List.getElem?_set_self (lt_of_get hf6_s)
  have hf7__s___1_ : w_7[(s + 1)]? = some (mO 6 [.ref (s + 2), .ref (s + 3), .int 3, .int 0, .int 0]) := by rw [ew_7, List.getElem?_set_ne (by omega)]; exact hf6__s___1_
  have hf7__s___2_ : w_7[(s + 2)]? = some (mI 0 26 (fun _ => 0)) := by rw [ew_7, List.getElem?_set_ne (by omega)]; exact hf6__s___2_
  have hf7__s___3_ : w_7[(s + 3)]? = some (mI 0 25 (fun _ => -1)) := by rw [ew_7, List.getElem?_set_ne (by omega)]; exact hf6__s___3_
  have hf7__s___4_ : w_7[(s + 4)]? = some (mI 0 4 (fun _ => 0)) := by rw [ew_7, List.getElem?_set_ne (by omega)]; exact hf6__s___4_
  have hf7__s___5_ : w_7[(s + 5)]? = some (mI 0 4 (fun _ => 0)) := by rw [ew_7, List.getElem?_set_ne (by omega)]; exact hf6__s___5_
  refine n_vret hC hE hR dX6_init_29 (by omega) (by omega) (by rw [hl_7]; omega) ?_
  exact ⟨rfl, ⟨by rw [hl_7]; omega, hw_7, fun k h9 => by rw [ew_7, List.getElem?_set_ne (by omega), ew_6, List.getElem?_append_left (by rw [hl_5]; omega), ew_5, List.getElem?_set_ne (by omega), ew_4, List.getElem?_append_left (by rw [hl_3]; omega), ew_3, List.getElem?_set_ne (by omega), hk_2 k (by omega), ew_1, List.getElem?_append_left (by rw [hl_0]; omega)]⟩, hf7_s, ⟨hf7__s___1_, hf7__s___2_, hf7__s___3_⟩, hf7__s___4_, hf7__s___5_⟩
set_option maxRecDepth 100000 in
set_option maxHeartbeats 4000000 in
theorem cn_trial {d : Nat} {w : mW} {s : Nat}  (hl_0 : w.length = s + 1) (hk : w[s]? = some (mO 8 [.null, .null, .int 0])) (hw_0 : mLowW w.length w) (hmax : s < 900000)  : SpN (d + 1) yX7_init cX7_init 1 none [.ref s] w 4 81 (fun v w9 => v = none ∧ Gn w w9 s 4 ∧ TrAt w9 s hill0 (fun _ => 0) 0) := by
  refine SpN.of (by decide +kernel) (Nat.le_of_ble_eq_true rfl) (fun X hC hnl hE hR hN hNm => ?_)
  have hC : Cx X RX7 cX7_init (d + 1) 4 81 := hC
  have hB := NB.mk hC hnl hE hR hN hNm
  show Wp X 0 0 w [(0, .ref s)] [] 0
  obtain ⟨hC, hnl, hE, hR, hN, hNm⟩ := id hB
  refine r_aload_n hC dX7_init_0 rfl (j := 0) rfl ?_
  refine r_objI hC oX7_init_1 (Nat.le_of_ble_eq_true rfl) ?_
  refine r_aload_n hC dX7_init_4 rfl (j := 0) rfl ?_
  refine n_new hC nX7_init_5 (fun _ => rfl) hw_0 (by rw [hl_0]; omega) (by omega) (by omega) ⟨(Or.inl (by omega)), trivial⟩ ⟨(Or.inl (by omega)), trivial⟩ (fun X hT => ?_)
  have hB := hB.tie hT (by rw [hl_0]; omega)
  clear hT
  obtain ⟨hC, hnl, hE, hR, hN, hNm⟩ := id hB
  obtain ⟨w_1, ew_1⟩ : ∃ z, z = w ++ [(mO 6 [.null, .null, .int 0, .int 0, .int 0])] := ⟨_, rfl⟩
  have hl_1 : w_1.length = (s + 2) := by rw [ew_1, List.length_append, hl_0]; rfl
  have hw_1 : mLowW w_1.length w_1 := by rw [hl_1, ew_1]; exact (mLowW.mono (by rw [hl_0]; omega) hw_0).app (mLowW.cons ⟨trivial, trivial, trivial, trivial, trivial, trivial⟩ mLowW.nil)
  have hf1_s : w_1[s]? = some (mO 8 [.null, .null, .int 0]) := by rw [ew_1, List.getElem?_append_left (lt_of_get hk)]; exact hk
  have hf1__s___1_ : w_1[(s + 1)]? = some (mO 6 [.null, .null, .int 0, .int 0, .int 0]) := by rw [ew_1, List.getElem?_append_right (by rw [hl_0]; exact Nat.le_refl _), hl_0, Nat.sub_self]; rfl
  rw [← ew_1, hl_0]
  show Wp X (0 + 1) (0 + 5) w_1 [(0, .ref s)] [.ref (s + 1), .ref s] _
  refine r_dup hC dX7_init_8 rfl ?_
  refine n_callI hC (vs := []) vX7_init_9 (cn_hill (d := d) (s := s + 1) hl_1 hf1__s___1_ hw_1 (by omega)) rfl (by omega) (by omega) (by omega) (Nat.le_of_ble_eq_true rfl) ⟨(Or.inl (by omega)), trivial⟩ ⟨(Or.inl (by omega)), (Or.inl (by omega)), trivial⟩ (fun v_2 w_2 X hT hP_2 hlen_2 => ?_)
  have hB := hB.tie hT (by rw [hl_1]; omega)
  clear hT
  obtain ⟨hC, hnl, hE, hR, hN, hNm⟩ := id hB
  obtain ⟨rfl, ⟨hl_2, hw_2, hk_2⟩, hP_2⟩ := hP_2
  rw [hl_1] at hl_2
  replace hl_2 : w_2.length = (s + 4) := by omega
  have hf2_s : w_2[s]? = some (mO 8 [.null, .null, .int 0]) := by rw [hk_2 s (by omega)]; exact hf1_s
  show Wp X ((0 + 1) + 2) ((0 + 5) + 51) w_2 [(0, .ref s)] [.ref (s + 1), .ref s] 12
  refine n_putI' hC hNm pX7_init_12 hf2_s (Nat.le_of_ble_eq_true rfl) (fun _ => rfl) (fun _ => rfl) (fun w_3 ew_3 => ?_)
  replace ew_3 : w_3 = (w_2).set (s) (mO 8 [.ref (s + 1), .null, .int 0]) := ew_3
  have hl_3 : w_3.length = (s + 4) := by rw [ew_3, List.length_set, hl_2]
  have hw_3 : mLowW w_3.length w_3 := by rw [hl_3, ew_3]; exact mLowW.set (by rw [← hl_2]; exact hw_2) ⟨(Or.inl (by omega)), trivial, trivial, trivial⟩
  have hf3_s : w_3[s]? = some (mO 8 [.ref (s + 1), .null, .int 0]) := by rw [ew_3]; exact List.getElem?_set_self (lt_of_get hf2_s)
  have hf3__s___1_ : w_3[(s + 1)]? = some (mO 6 [.ref (s + 2), .ref (s + 3), .int 3, .int 0, .int 0]) := by rw [ew_3, List.getElem?_set_ne (by omega)]; exact hP_2.1
  have hf3__s___2_ : w_3[(s + 2)]? = some (mI 0 26 (fun _ => 0)) := by rw [ew_3, List.getElem?_set_ne (by omega)]; exact hP_2.2.1
  have hf3__s___3_ : w_3[(s + 3)]? = some (mI 0 25 (fun _ => -1)) := by rw [ew_3, List.getElem?_set_ne (by omega)]; exact hP_2.2.2
  refine r_aload_n hC dX7_init_15 rfl (j := 0) rfl ?_
  refine r_bipush hC dX7_init_16 (v := 25) (by decide) ?_
  refine n_newa hC (atype := .int) (ty := .int) (t := 0) (N := 25) (a0 := (25, .inl (fun _ => 0))) ac_int rfl (fun _ => rfl) (fun _ => rfl) (fun _ => rfl) (by decide) (by decide) (by decide) dX7_init_18 hw_3 (by rw [hl_3]; omega) (by omega) (by omega) ⟨(Or.inl (by omega)), trivial⟩ ⟨(Or.inl (by omega)), trivial⟩ (fun X hT => ?_)
  have hB := hB.tie hT (by rw [hl_3]; omega)
  clear hT
  obtain ⟨hC, hnl, hE, hR, hN, hNm⟩ := id hB
  obtain ⟨w_4, ew_4⟩ : ∃ z, z = w_3 ++ [(mI 0 25 (fun _ => 0))] := ⟨_, rfl⟩
  have hl_4 : w_4.length = (s + 5) := by rw [ew_4, List.length_append, hl_3]; rfl
  have hw_4 : mLowW w_4.length w_4 := by rw [hl_4, ew_4]; exact (mLowW.mono (by rw [hl_3]; omega) hw_3).app (mLowW.cons trivial mLowW.nil)
  have hf4_s : w_4[s]? = some (mO 8 [.ref (s + 1), .null, .int 0]) := by rw [ew_4, List.getElem?_append_left (lt_of_get hf3_s)]; exact hf3_s
  have hf4__s___1_ : w_4[(s + 1)]? = some (mO 6 [.ref (s + 2), .ref (s + 3), .int 3, .int 0, .int 0]) := by rw [ew_4, List.getElem?_append_left (lt_of_get hf3__s___1_)]; exact hf3__s___1_
  have hf4__s___2_ : w_4[(s + 2)]? = some (mI 0 26 (fun _ => 0)) := by rw [ew_4, List.getElem?_append_left (lt_of_get hf3__s___2_)]; exact hf3__s___2_
  have hf4__s___3_ : w_4[(s + 3)]? = some (mI 0 25 (fun _ => -1)) := by rw [ew_4, List.getElem?_append_left (lt_of_get hf3__s___3_)]; exact hf3__s___3_
  have hf4__s___4_ : w_4[(s + 4)]? = some (mI 0 25 (fun _ => 0)) := by rw [ew_4, List.getElem?_append_right (by rw [hl_3]; exact Nat.le_refl _), hl_3, Nat.sub_self]; rfl
  rw [← ew_4, hl_3]
  show Wp X (((0 + 1) + 2) + 1) (((0 + 5) + 51) + 25) w_4 [(0, .ref s)] [.ref (s + 4), .ref s] _
  refine n_putI' hC hNm pX7_init_20 hf4_s (Nat.le_of_ble_eq_true rfl) (fun _ => rfl) (fun _ => rfl) (fun w_5 ew_5 => ?_)
  replace ew_5 : w_5 = (w_4).set (s) (mO 8 [.ref (s + 1), .ref (s + 4), .int 0]) := ew_5
  have hl_5 : w_5.length = (s + 5) := by rw [ew_5, List.length_set, hl_4]
  have hw_5 : mLowW w_5.length w_5 := by rw [hl_5, ew_5]; exact mLowW.set (by rw [← hl_4]; exact hw_4) ⟨(Or.inl (by omega)), (Or.inl (by omega)), trivial, trivial⟩
  have hf5_s : w_5[s]? = some (mO 8 [.ref (s + 1), .ref (s + 4), .int 0]) := by rw [ew_5]; exact List.getElem?_set_self (lt_of_get hf4_s)
  have hf5__s___1_ : w_5[(s + 1)]? = some (mO 6 [.ref (s + 2), .ref (s + 3), .int 3, .int 0, .int 0]) := by rw [ew_5, List.getElem?_set_ne (by omega)]; exact hf4__s___1_
  have hf5__s___2_ : w_5[(s + 2)]? = some (mI 0 26 (fun _ => 0)) := by rw [ew_5, List.getElem?_set_ne (by omega)]; exact hf4__s___2_
  have hf5__s___3_ : w_5[(s + 3)]? = some (mI 0 25 (fun _ => -1)) := by rw [ew_5, List.getElem?_set_ne (by omega)]; exact hf4__s___3_
  have hf5__s___4_ : w_5[(s + 4)]? = some (mI 0 25 (fun _ => 0)) := by rw [ew_5, List.getElem?_set_ne (by omega)]; exact hf4__s___4_
  refine n_vret hC hE hR dX7_init_23 (by omega) (by omega) (by rw [hl_5]; omega) ?_
  exact ⟨rfl, ⟨by rw [hl_5]; omega, hw_5, fun k h9 => by rw [ew_5, List.getElem?_set_ne (by omega), ew_4, List.getElem?_append_left (by rw [hl_3]; omega), ew_3, List.getElem?_set_ne (by omega), hk_2 k (by omega), ew_1, List.getElem?_append_left (by rw [hl_0]; omega)]⟩, hf5_s, ⟨hf5__s___1_, hf5__s___2_, hf5__s___3_⟩, hf5__s___4_⟩
theorem gZ_k4 : ("HillContest$Keyword", "SKIP", "LHillContest$Keyword;", Value.ref 1000024) ∈ gZs := List.mem_of_getElem? (i := 15) rfl
set_option maxRecDepth 100000 in
set_option maxHeartbeats 4000000 in
theorem cn_cmd {d : Nat} {w : mW} {s : Nat}  (hl_0 : w.length = s + 1) (hk : w[s]? = some (mO 4 [.null, .int 0, .int 0, .int 0])) (hw_0 : mLowW w.length w) (hmax : s < 900000)  : SpN d yX1_init cX1_init 1 none [.ref s] w 0 0 (fun v w9 => v = none ∧ Gn w w9 s 0 ∧ w9[s]? = some (cmC (4, 0, 0, 0))) := by
  refine SpN.of (by decide +kernel) (Nat.le_of_ble_eq_true rfl) (fun X hC hnl hE hR hN hNm => ?_)
  have hC : Cx X RX1 cX1_init d 0 0 := hC
  have hB := NB.mk hC hnl hE hR hN hNm
  show Wp X 0 0 w [(0, .ref s)] [] 0
  obtain ⟨hC, hnl, hE, hR, hN, hNm⟩ := id hB
  refine r_aload_n hC dX1_init_0 rfl (j := 0) rfl ?_
  refine r_objI hC oX1_init_1 (Nat.le_of_ble_eq_true rfl) ?_
  refine r_aload_n hC dX1_init_4 rfl (j := 0) rfl ?_
  refine r_gets hC sX1_init_5 (v := .ref 1000024) gZ_k4 ?_
  refine r_put' hC pX1_init_8 hk (Nat.le_of_ble_eq_true rfl) (fun _ => rfl) (fun _ => rfl) (fun w_1 ew_1 => ?_)
  replace ew_1 : w_1 = (w).set (s) (mO 4 [.ref 1000024, .int 0, .int 0, .int 0]) := ew_1
  have hl_1 : w_1.length = (s + 1) := by rw [ew_1, List.length_set, hl_0]
  have hw_1 : mLowW w_1.length w_1 := by rw [hl_1, ew_1]; exact mLowW.set (by rw [← hl_0]; exact hw_0) ⟨(Or.inr (by decide)), trivial, trivial, trivial, trivial⟩
  have hf1_s : w_1[s]? = some (mO 4 [.ref 1000024, .int 0, .int 0, .int 0]) := by rw [ew_1]; exact List.getElem?_set_self (lt_of_get hk)
  refine n_vret hC hE hR dX1_init_11 (by omega) (by omega) (by rw [hl_1]; omega) ?_
  exact ⟨rfl, ⟨by rw [hl_1]; omega, hw_1, fun k h9 => by rw [ew_1, List.getElem?_set_ne (by omega)]⟩, hf1_s⟩
theorem cmF_up {t c : Nat} : va_up (cmF t c) c (some (t + 3 + c)) = cmF t (c + 1) := by
  funext q
  unfold va_up cmF
  by_cases z : q = c
  · subst z
    simp
  · by_cases z2 : q < c
    · have z3 : q < c + 1 := by omega
      simp [z, z2, z3]
    · have z3 : ¬ q < c + 1 := by omega
      simp [z, z2, z3]
theorem cmF_lt {t c i b : Nat} (h : cmF t c i = some b) : b < t + 3 + c := by
  unfold cmF at h
  split at h
  · have := Option.some.inj h; omega
  · cases h
theorem cmF_0 {t : Nat} : cmF t 0 = (fun _ => none) := funext fun j => if_neg (Nat.not_lt_zero j)
/-- what a reader's maker has made before its c-th command -/
def TxPre (w0 w : mW) (s c : Nat) : Prop := (∀ i, i < c → w[s + 3 + i]? = some (cmC (4, 0, 0, 0))) ∧ w[s + 1]? = some (mT []) ∧ ∀ k, k < s → w[k]? = w0[k]?
theorem TxPre.mono {w0 w w' : mW} {s c : Nat} (H : TxPre w0 w s c) (h : ∀ k, k < s + 3 + c → (k ≠ s ∧ k ≠ s + 2) → w'[k]? = w[k]?) : TxPre w0 w' s c := ⟨fun i hi => (h _ (by omega) (by omega)).trans (H.1 i hi), (h _ (by omega) (by omega)).trans H.2.1, fun k hk => (h _ (by omega) (by omega)).trans (H.2.2 k hk)⟩
theorem TxPre.step {w0 w : mW} {s c : Nat} (H : TxPre w0 w s c) (h : w[s + 3 + c]? = some (cmC (4, 0, 0, 0))) : TxPre w0 w s (c + 1) := ⟨fun i hi => by
  rcases Nat.lt_or_ge i c with z | z
  · exact H.1 i z
  · obtain rfl : i = c := by omega
    exact h, H.2⟩
set_option maxRecDepth 100000 in
set_option maxHeartbeats 4000000 in
theorem tx_all {d s n0 : Nat} {w0 : mW} (h0 : w0.length = s + 1) (hmax : s < 900000) (hn0 : n0 = w0.length) : ∀ (i9 c : Nat) (X : mC) (w : mW) (k n : Nat), c + i9 = 12 → k + i9 ≤ 15 → n + 4 * i9 ≤ 80 → NB X RX2 cX2_init (d + 2) 15 80 2 n0 (fun v w9 => v = none ∧ Gn w0 w9 s 14 ∧ TxAt w9 s [] 0 0 (fun _ => (4, 0, 0, 0))) none "<init>" → w.length = s + 3 + c → mLowW w.length w → w[s]? = some (mO 5 [.ref (s + 1), .ref (s + 2), .int 0, .int 0]) → w[s + 2]? = some (.inl (4, 12, .inr (.inr (.inr (.inr (cmF s c)))))) → TxPre w0 w s c → Wp X k n w [(0, .ref s), (1, .int (nI c))] [] 26 := by
  intro i9
  induction i9 with
  | zero =>
    intro c X w k n h9 hk9 hn9 hB hl hw hs hq hT
    obtain rfl : c = 12 := by omega
    obtain ⟨hC, hnl, hE, hR, hN, hNm⟩ := id hB
    refine r_iload_n hC dX2_init_26 rfl (j := 1) rfl ?_
    refine r_bipush hC dX2_init_27 (v := 12) (by decide) ?_
    refine r_icmp_ge hC dX2_init_29 (tgt := 51) (by decide) (fun _ => ?_) (fun h => absurd (by decide) h)
    refine r_locals [] (L' := []) rfl ?_
    refine n_vret hC hE hR dX2_init_51 (by omega) (by omega) (by omega) ?_
    exact ⟨rfl, ⟨by omega, hw, fun k hk => hT.2.2 k hk⟩, hs, hT.2.1, hq, hT.1⟩
  | succ i9 ih =>
    intro c X w k n h9 hk9 hn9 hB hl hw_0 hs hq hT
    have hc : c < 12 := by omega
    obtain ⟨z, ez⟩ : ∃ z, z = s + 3 + c := ⟨_, rfl⟩
    have hl_0 : w.length = z := hl.trans ez.symm
    obtain ⟨hC, hnl, hE, hR, hN, hNm⟩ := id hB
    refine r_iload_n hC dX2_init_26 rfl (j := 1) rfl ?_
    refine r_bipush hC dX2_init_27 (v := 12) (by decide) ?_
    refine r_icmp_ge hC dX2_init_29 (tgt := 51) (by decide) (fun h => absurd h (fun h : (12 : Int32) ≤ nI c => absurd ((nI_leI (a := 12) (b := c) (by decide) (by omega)).mp h) (by omega))) (fun _ => ?_)
    refine r_aload_n hC dX2_init_32 rfl (j := 0) rfl ?_
    refine r_get hC gX2_init_33 hs (v := .ref (s + 2)) rfl ?_
    refine r_iload_n hC dX2_init_36 rfl (j := 1) rfl ?_
    refine n_new hC nX2_init_37 (fun _ => rfl) hw_0 (by rw [hl_0]; omega) (by omega) (by omega) ⟨(Or.inl (by omega)), trivial, trivial⟩ ⟨trivial, (Or.inl (by omega)), trivial⟩ (fun X hT => ?_)
    have hB := hB.tie hT (by rw [hl_0]; omega)
    clear hT
    obtain ⟨hC, hnl, hE, hR, hN, hNm⟩ := id hB
    obtain ⟨w_1, ew_1⟩ : ∃ z, z = w ++ [(mO 4 [.null, .int 0, .int 0, .int 0])] := ⟨_, rfl⟩
    have hl_1 : w_1.length = (z + 1) := by rw [ew_1, List.length_append, hl_0]; rfl
    have hw_1 : mLowW w_1.length w_1 := by rw [hl_1, ew_1]; exact (mLowW.mono (by rw [hl_0]; omega) hw_0).app (mLowW.cons ⟨trivial, trivial, trivial, trivial, trivial⟩ mLowW.nil)
    have hf1_s : w_1[s]? = some (mO 5 [.ref (s + 1), .ref (s + 2), .int 0, .int 0]) := by rw [ew_1, List.getElem?_append_left (lt_of_get hs)]; exact hs
    have hf1__s___2_ : w_1[(s + 2)]? = some (.inl (4, 12, .inr (.inr (.inr (.inr (cmF s c)))))) := by rw [ew_1, List.getElem?_append_left (lt_of_get hq)]; exact hq
    have hf1_pre : TxPre w0 w_1 s c := TxPre.mono hT (fun k h8 h9 => by rw [ew_1, List.getElem?_append_left (by rw [hl_0]; omega)])
    have hf1_z : w_1[z]? = some (mO 4 [.null, .int 0, .int 0, .int 0]) := by rw [ew_1, List.getElem?_append_right (by rw [hl_0]; exact Nat.le_refl _), hl_0, Nat.sub_self]; rfl
    rw [← ew_1, hl_0]
    show Wp X (k + 1) (n + 4) w_1 [(0, .ref s), (1, .int (nI c))] [.ref z, .int (nI c), .ref (s + 2)] _
    refine r_dup hC dX2_init_40 rfl ?_
    refine n_callIN hC (vs := []) vX2_init_41 (cn_cmd (d := d + 1) (s := z) hl_1 hf1_z hw_1 (by omega)) rfl (by omega) (by omega) (by omega) (Nat.le_of_ble_eq_true rfl) ⟨(Or.inl (by omega)), trivial, trivial⟩ ⟨(Or.inl (by omega)), trivial, (Or.inl (by omega)), trivial⟩ (fun v_2 w_2 X hT hP_2 hlen_2 => ?_)
    have hB := hB.tie hT (by rw [hl_1]; omega)
    clear hT
    obtain ⟨hC, hnl, hE, hR, hN, hNm⟩ := id hB
    obtain ⟨rfl, ⟨hl_2, hw_2, hk_2⟩, hP_2⟩ := hP_2
    rw [hl_1] at hl_2
    have hf2_s : w_2[s]? = some (mO 5 [.ref (s + 1), .ref (s + 2), .int 0, .int 0]) := by rw [hk_2 s (by omega)]; exact hf1_s
    have hf2__s___2_ : w_2[(s + 2)]? = some (.inl (4, 12, .inr (.inr (.inr (.inr (cmF s c)))))) := by rw [hk_2 (s + 2) (by omega)]; exact hf1__s___2_
    have hf2_pre : TxPre w0 w_2 s c := TxPre.mono hf1_pre (fun k h8 h9 => by rw [hk_2 k (by omega)])
    show Wp X ((k + 1) + 0) ((n + 4) + 0) w_2 [(0, .ref s), (1, .int (nI c))] [.ref z, .int (nI c), .ref (s + 2)] 44
    refine r_aast hC (j := c) dX2_init_44 hf2__s___2_ (fun _ => rfl) hP_2 rfl (mIx_nI (by omega) (by decide)) (fun w_3 ew_3 => ?_)
    rw [ez, cmF_up] at ew_3
    replace ew_3 : w_3 = (w_2).set ((s + 2)) (.inl (4, 12, .inr (.inr (.inr (.inr (cmF s (c + 1))))))) := ew_3
    have hl_3 : w_3.length = (z + 1) := by rw [ew_3, List.length_set, hl_2]
    have hw_3 : mLowW w_3.length w_3 := by rw [hl_3, ew_3]; exact mLowW.set (by rw [← hl_2]; exact hw_2) (fun i b e => Or.inl (by have := cmF_lt e; omega))
    have hf3_s : w_3[s]? = some (mO 5 [.ref (s + 1), .ref (s + 2), .int 0, .int 0]) := by rw [ew_3, List.getElem?_set_ne (by omega)]; exact hf2_s
    have hf3__s___2_ : w_3[(s + 2)]? = some (.inl (4, 12, .inr (.inr (.inr (.inr (cmF s (c + 1))))))) := by rw [ew_3]; exact List.getElem?_set_self (lt_of_get hf2__s___2_)
    have hf3_pre : TxPre w0 w_3 s c := TxPre.mono hf2_pre (fun k h8 h9 => by rw [ew_3, List.getElem?_set_ne (by omega)])
    have hf3_z : w_3[z]? = some (mO 4 [.ref 1000024, .int 0, .int 0, .int 0]) := by rw [ew_3, List.getElem?_set_ne (by omega)]; exact hP_2
    refine r_iinc hC dX2_init_45 (j := 1) rfl (v := nI (c + 1)) (nI_succ c).symm (by rw [hnl]; decide) (L' := [(1, .int (nI (c + 1))), (0, .ref s)]) rfl ?_
    refine r_goto hC dX2_init_48 (tgt := 26) (by decide) ?_
    refine r_locals [1, 0] (L' := [(0, .ref s), (1, .int (nI (c + 1)))]) rfl ?_
    exact ih (c + 1) X w_3 _ _ (by omega) (by omega) (by omega) hB (by rw [hl_3, ez]; omega) hw_3 hf3_s hf3__s___2_ (TxPre.step hf3_pre (by rw [← ez]; exact hf3_z))
set_option maxRecDepth 100000 in
set_option maxHeartbeats 4000000 in
theorem cn_text {d : Nat} {w : mW} {s : Nat}  (hl_0 : w.length = s + 1) (hk : w[s]? = some (mO 5 [.null, .null, .int 0, .int 0])) (hw_0 : mLowW w.length w) (hmax : s < 900000)  : SpN (d + 2) yX2_init cX2_init 2 none [.ref s] w 15 80 (fun v w9 => v = none ∧ Gn w w9 s 14 ∧ TxAt w9 s [] 0 0 (fun _ => (4, 0, 0, 0))) := by
  refine SpN.of (by decide +kernel) (Nat.le_of_ble_eq_true rfl) (fun X hC hnl hE hR hN hNm => ?_)
  have hC : Cx X RX2 cX2_init (d + 2) 15 80 := hC
  have hB := NB.mk hC hnl hE hR hN hNm
  show Wp X 0 0 w [(0, .ref s)] [] 0
  obtain ⟨hC, hnl, hE, hR, hN, hNm⟩ := id hB
  refine r_aload_n hC dX2_init_0 rfl (j := 0) rfl ?_
  refine r_objI hC oX2_init_1 (Nat.le_of_ble_eq_true rfl) ?_
  refine r_aload_n hC dX2_init_4 rfl (j := 0) rfl ?_
  refine n_new hC nX2_init_5 (fun _ => rfl) hw_0 (by rw [hl_0]; omega) (by omega) (by omega) ⟨(Or.inl (by omega)), trivial⟩ ⟨(Or.inl (by omega)), trivial⟩ (fun X hT => ?_)
  have hB := hB.tie hT (by rw [hl_0]; omega)
  clear hT
  obtain ⟨hC, hnl, hE, hR, hN, hNm⟩ := id hB
  obtain ⟨w_1, ew_1⟩ : ∃ z, z = w ++ [(mO 1 [.null, .int 0, .int 0, .int 0])] := ⟨_, rfl⟩
  have hl_1 : w_1.length = (s + 2) := by rw [ew_1, List.length_append, hl_0]; rfl
  have hw_1 : mLowW w_1.length w_1 := by rw [hl_1, ew_1]; exact (mLowW.mono (by rw [hl_0]; omega) hw_0).app (mLowW.cons ⟨trivial, trivial, trivial, trivial, trivial⟩ mLowW.nil)
  have hf1_s : w_1[s]? = some (mO 5 [.null, .null, .int 0, .int 0]) := by rw [ew_1, List.getElem?_append_left (lt_of_get hk)]; exact hk
  have hf1__s___1_ : w_1[(s + 1)]? = some (mO 1 [.null, .int 0, .int 0, .int 0]) := by rw [ew_1, List.getElem?_append_right (by rw [hl_0]; exact Nat.le_refl _), hl_0, Nat.sub_self]; rfl
  rw [← ew_1, hl_0]
  show Wp X (0 + 1) (0 + 4) w_1 [(0, .ref s)] [.ref (s + 1), .ref s] _
  refine r_dup hC dX2_init_8 rfl ?_
  refine n_callI hC (vs := []) vX2_init_9 (st_init' (d := d) (k := s + 1) hl_1 hf1__s___1_ hw_1 (by omega)) rfl (by omega) (by omega) (by omega) (Nat.le_of_ble_eq_true rfl) ⟨(Or.inl (by omega)), trivial⟩ ⟨(Or.inl (by omega)), (Or.inl (by omega)), trivial⟩ (fun v_2 w_2 X hT hP_2 hlen_2 => ?_)
  have hB := hB.tie hT (by rw [hl_1]; omega)
  clear hT
  obtain ⟨hC, hnl, hE, hR, hN, hNm⟩ := id hB
  obtain ⟨rfl, ⟨hl_2, hw_2, hk_2⟩, hP_2⟩ := hP_2
  rw [hl_1] at hl_2
  have hf2_s : w_2[s]? = some (mO 5 [.null, .null, .int 0, .int 0]) := by rw [hk_2 s (by omega)]; exact hf1_s
  show Wp X ((0 + 1) + 1) ((0 + 4) + 16) w_2 [(0, .ref s)] [.ref (s + 1), .ref s] 12
  refine n_putI' hC hNm pX2_init_12 hf2_s (Nat.le_of_ble_eq_true rfl) (fun _ => rfl) (fun _ => rfl) (fun w_3 ew_3 => ?_)
  replace ew_3 : w_3 = (w_2).set (s) (mO 5 [.ref (s + 1), .null, .int 0, .int 0]) := ew_3
  have hl_3 : w_3.length = (s + 2) := by rw [ew_3, List.length_set, hl_2]
  have hw_3 : mLowW w_3.length w_3 := by rw [hl_3, ew_3]; exact mLowW.set (by rw [← hl_2]; exact hw_2) ⟨(Or.inl (by omega)), trivial, trivial, trivial, trivial⟩
  have hf3_s : w_3[s]? = some (mO 5 [.ref (s + 1), .null, .int 0, .int 0]) := by rw [ew_3]; exact List.getElem?_set_self (lt_of_get hf2_s)
  have hf3__s___1_ : w_3[(s + 1)]? = some (mT []) := by rw [ew_3, List.getElem?_set_ne (by omega)]; exact hP_2
  refine r_aload_n hC dX2_init_15 rfl (j := 0) rfl ?_
  refine r_bipush hC dX2_init_16 (v := 12) (by decide) ?_
  refine n_newq hC (C := RX1) (t := 4) (N := 12) clX2_18 ao_X1 (fun _ => rfl) (by decide) (by decide) (by decide) dX2_init_18 hw_3 (by rw [hl_3]; omega) (by omega) (by omega) ⟨(Or.inl (by omega)), trivial⟩ ⟨(Or.inl (by omega)), trivial⟩ (fun X hT => ?_)
  have hB := hB.tie hT (by rw [hl_3]; omega)
  clear hT
  obtain ⟨hC, hnl, hE, hR, hN, hNm⟩ := id hB
  obtain ⟨w_4, ew_4⟩ : ∃ z, z = w_3 ++ [(.inl (4, 12, .inr (.inr (.inr (.inr (fun _ => none))))))] := ⟨_, rfl⟩
  have hl_4 : w_4.length = (s + 3) := by rw [ew_4, List.length_append, hl_3]; rfl
  have hw_4 : mLowW w_4.length w_4 := by rw [hl_4, ew_4]; exact (mLowW.mono (by rw [hl_3]; omega) hw_3).app (mLowW.cons (fun i b e => by cases e) mLowW.nil)
  have hf4_s : w_4[s]? = some (mO 5 [.ref (s + 1), .null, .int 0, .int 0]) := by rw [ew_4, List.getElem?_append_left (lt_of_get hf3_s)]; exact hf3_s
  have hf4__s___1_ : w_4[(s + 1)]? = some (mT []) := by rw [ew_4, List.getElem?_append_left (lt_of_get hf3__s___1_)]; exact hf3__s___1_
  have hf4__s___2_ : w_4[(s + 2)]? = some (.inl (4, 12, .inr (.inr (.inr (.inr (fun _ => none)))))) := by rw [ew_4, List.getElem?_append_right (by rw [hl_3]; exact Nat.le_refl _), hl_3, Nat.sub_self]; rfl
  rw [← ew_4, hl_3]
  show Wp X (((0 + 1) + 1) + 1) (((0 + 4) + 16) + 12) w_4 [(0, .ref s)] [.ref (s + 2), .ref s] _
  refine n_putI' hC hNm pX2_init_21 hf4_s (Nat.le_of_ble_eq_true rfl) (fun _ => rfl) (fun _ => rfl) (fun w_5 ew_5 => ?_)
  replace ew_5 : w_5 = (w_4).set (s) (mO 5 [.ref (s + 1), .ref (s + 2), .int 0, .int 0]) := ew_5
  have hl_5 : w_5.length = (s + 3) := by rw [ew_5, List.length_set, hl_4]
  have hw_5 : mLowW w_5.length w_5 := by rw [hl_5, ew_5]; exact mLowW.set (by rw [← hl_4]; exact hw_4) ⟨(Or.inl (by omega)), (Or.inl (by omega)), trivial, trivial, trivial⟩
  have hf5_s : w_5[s]? = some (mO 5 [.ref (s + 1), .ref (s + 2), .int 0, .int 0]) := by rw [ew_5]; exact List.getElem?_set_self (lt_of_get hf4_s)
  have hf5__s___1_ : w_5[(s + 1)]? = some (mT []) := by rw [ew_5, List.getElem?_set_ne (by omega)]; exact hf4__s___1_
  have hf5__s___2_ : w_5[(s + 2)]? = some (.inl (4, 12, .inr (.inr (.inr (.inr (fun _ => none)))))) := by rw [ew_5, List.getElem?_set_ne (by omega)]; exact hf4__s___2_
  refine r_iconst hC dX2_init_24 (v := 0) (by decide) ?_
  refine r_istore_n hC dX2_init_25 rfl (by rw [hnl]; decide) (L' := [(1, .int 0), (0, .ref s)]) rfl ?_
  refine r_locals [1, 0] (L' := [(0, .ref s), (1, .int 0)]) rfl ?_
  exact tx_all (d := d) hl_0 hmax rfl 12 0 X w_5 _ _ rfl (by omega) (by omega) hB hl_5 hw_5 hf5_s (by rw [cmF_0]; exact hf5__s___2_) ⟨fun i hi => absurd hi (Nat.not_lt_zero i), hf5__s___1_, fun k h9 => by rw [ew_5, List.getElem?_set_ne (by omega), ew_4, List.getElem?_append_left (by rw [hl_3]; omega), ew_3, List.getElem?_set_ne (by omega), hk_2 k (by omega), ew_1, List.getElem?_append_left (by rw [hl_0]; omega)]⟩
/-- the states of the history: c of them -/
def hsF (x c : Nat) : Nat → Option Nat := fun i => if i < c then some (x + 41 + 6 * i) else none
theorem hsF_lt {t c i b : Nat} (h : hsF t c i = some b) : b < t + 41 + 6 * c := by
  unfold hsF at h
  split at h
  · have := Option.some.inj h; omega
  · cases h
theorem hsF_0 {t : Nat} : hsF t 0 = (fun _ => none) := funext fun j => if_neg (Nat.not_lt_zero j)
theorem hsF_up {t c : Nat} : va_up (hsF t c) c (some (t + 41 + 6 * c)) = hsF t (c + 1) := by
  funext q
  unfold va_up hsF
  by_cases z : q = c
  · subst z
    simp
  · by_cases z2 : q < c
    · have z3 : q < c + 1 := by omega
      simp [z, z2, z3]
    · have z3 : ¬ q < c + 1 := by omega
      simp [z, z2, z3]
/-- what the contest's maker has made before the c-th state of its history -/
def HcPre (w0 w : mW) (s c : Nat) : Prop := StAt w (s + 1) sv0 ∧ StAt w (s + 7) sv0 ∧ StAt w (s + 13) sv0 ∧ TrAt w (s + 20) hill0 (fun _ => 0) 0 ∧ TxAt w (s + 25) [] 0 0 (fun _ => (4, 0, 0, 0)) ∧ w[s + 40]? = some (mT []) ∧ (∀ i, i < c → StAt w (s + 41 + 6 * i) sv0) ∧ ∀ k, k < s → w[k]? = w0[k]?
theorem HcPre.mono {w0 w w' : mW} {s c : Nat} (H : HcPre w0 w s c) (h : ∀ k, k < s + 41 + 6 * c → (k ≠ s ∧ k ≠ s + 19) → w'[k]? = w[k]?) : HcPre w0 w' s c := by
  obtain ⟨h1, h2, h3, h4, h5, h6, h7, h8⟩ := H
  exact ⟨h1.mono (fun k _ _ => h k (by omega) (by omega)), h2.mono (fun k _ _ => h k (by omega) (by omega)), h3.mono (fun k _ _ => h k (by omega) (by omega)), h4.mono (fun k _ _ => h k (by omega) (by omega)), h5.mono (fun k _ _ => h k (by omega) (by omega)), (h _ (by omega) (by omega)).trans h6, fun i hi => (h7 i hi).mono (fun k _ _ => h k (by omega) (by omega)), fun k hk => (h k (by omega) (by omega)).trans (h8 k hk)⟩
theorem HcPre.step {w0 w : mW} {s c : Nat} (H : HcPre w0 w s c) (h : StAt w (s + 41 + 6 * c) sv0) : HcPre w0 w s (c + 1) := by
  obtain ⟨h1, h2, h3, h4, h5, h6, h7, h8⟩ := H
  refine ⟨h1, h2, h3, h4, h5, h6, fun i hi => ?_, h8⟩
  rcases Nat.lt_or_ge i c with z | z
  · exact h7 i z
  · obtain rfl : i = c := by omega
    exact h
/-- the class's contest at x: its state, the states that can come back (the newest last), error position, failed command, snapshot, buffer, line -/
def CtAt (w : mW) (x : Nat) (y : sv) (l : List sv) (ea fa : Int32) (so : Option sv) (tx ln : List Nat) : Prop :=
  ∃ (ol : Nat) (hs : Nat → sv) (yb ys : sv) (hx : hv) (q : Nat → Int32) (qn : Nat) (cn ps : Int32) (cs : Nat → cmdT),
    w[x]? = some (mO 9 [.ref (x + 1), .ref (x + 7), .ref (x + 13), .int (bI so.isSome), .ref (x + 19), .int (nI ol), .int (nI l.length), .ref (x + 20), .ref (x + 25), .int ea, .int fa, .ref (x + 40)]) ∧ StAt w (x + 1) y ∧ StAt w (x + 7) yb ∧ StAt w (x + 13) ys ∧ w[x + 19]? = some (.inl (3, 8, .inr (.inr (.inr (.inr (hsF x 8)))))) ∧ TrAt w (x + 20) hx q qn ∧ TxAt w (x + 25) tx cn ps cs ∧ w[x + 40]? = some (mT ln) ∧ (∀ i, i < 8 → StAt w (x + 41 + 6 * i) (hs i)) ∧ ol < 8 ∧ l.length ≤ 8 ∧ (∀ i z, l[i]? = some z → hs ((ol + i) % 8) = z) ∧ ∀ z, so = some z → ys = z
set_option maxRecDepth 100000 in
set_option maxHeartbeats 4000000 in
theorem hs_all {d s n0 : Nat} {w0 : mW} (h0 : w0.length = s + 1) (hmax : s < 900000) (hn0 : n0 = w0.length) : ∀ (i9 c : Nat) (X : mC) (w : mW) (k n : Nat), c + i9 = 8 → k + 6 * i9 ≤ 90 → n + 77 * i9 ≤ 1043 → NB X RX8 cX8_init (d + 3) 90 1043 2 n0 (fun v w9 => v = none ∧ Gn w0 w9 s 88 ∧ CtAt w9 s sv0 [] (-1) (-1) none [] []) none "<init>" → w.length = s + 41 + 6 * c → mLowW w.length w → w[s]? = some (mO 9 [.ref (s + 1), .ref (s + 7), .ref (s + 13), .int 0, .ref (s + 19), .int 0, .int 0, .ref (s + 20), .ref (s + 25), .int (-1), .int (-1), .ref (s + 40)]) → w[s + 19]? = some (.inl (3, 8, .inr (.inr (.inr (.inr (hsF s c)))))) → HcPre w0 w s c → Wp X k n w [(0, .ref s), (1, .int (nI c))] [] 91 := by
  intro i9
  induction i9 with
  | zero =>
    intro c X w k n h9 hk9 hn9 hB hl hw hs hq hT
    obtain rfl : c = 8 := by omega
    obtain ⟨hC, hnl, hE, hR, hN, hNm⟩ := id hB
    refine r_iload_n hC dX8_init_91 rfl (j := 1) rfl ?_
    refine r_bipush hC dX8_init_92 (v := 8) (by decide) ?_
    refine r_icmp_ge hC dX8_init_94 (tgt := 116) (by decide) (fun _ => ?_) (fun h => absurd (by decide) h)
    refine r_locals [] (L' := []) rfl ?_
    refine n_vret hC hE hR dX8_init_116 (by omega) (by omega) (by omega) ?_
    obtain ⟨h1, h2, h3, h4, h5, h6, h7, h8⟩ := hT
    exact ⟨rfl, ⟨by omega, hw, h8⟩, 0, fun _ => sv0, sv0, sv0, hill0, fun _ => 0, 0, 0, 0, fun _ => (4, 0, 0, 0), hs, h1, h2, h3, hq, h4, h5, h6, h7, by decide, by decide, fun i z e => by simp at e, fun z e => by cases e⟩
  | succ i9 ih =>
    intro c X w k n h9 hk9 hn9 hB hl hw_0 hs hq hT
    have hc : c < 8 := by omega
    obtain ⟨z, ez⟩ : ∃ z, z = s + 41 + 6 * c := ⟨_, rfl⟩
    have hl_0 : w.length = z := hl.trans ez.symm
    obtain ⟨hC, hnl, hE, hR, hN, hNm⟩ := id hB
    refine r_iload_n hC dX8_init_91 rfl (j := 1) rfl ?_
    refine r_bipush hC dX8_init_92 (v := 8) (by decide) ?_
    refine r_icmp_ge hC dX8_init_94 (tgt := 116) (by decide) (fun h => absurd h (fun h : (8 : Int32) ≤ nI c => absurd ((nI_leI (a := 8) (b := c) (by decide) (by omega)).mp h) (by omega))) (fun _ => ?_)
    refine r_aload_n hC dX8_init_97 rfl (j := 0) rfl ?_
    refine r_get hC gX8_init_98 hs (v := .ref (s + 19)) rfl ?_
    refine r_iload_n hC dX8_init_101 rfl (j := 1) rfl ?_
    refine n_new hC nX8_init_102 (fun _ => rfl) hw_0 (by rw [hl_0]; omega) (by omega) (by omega) ⟨(Or.inl (by omega)), trivial, trivial⟩ ⟨trivial, (Or.inl (by omega)), trivial⟩ (fun X hT => ?_)
    have hB := hB.tie hT (by rw [hl_0]; omega)
    clear hT
    obtain ⟨hC, hnl, hE, hR, hN, hNm⟩ := id hB
    obtain ⟨w_1, ew_1⟩ : ∃ z, z = w ++ [(mO 7 [.null, .null, .null, .int 0, .int 0, .int 0, .int 0, .int 0, .int 0])] := ⟨_, rfl⟩
    have hl_1 : w_1.length = (z + 1) := by rw [ew_1, List.length_append, hl_0]; rfl
    have hw_1 : mLowW w_1.length w_1 := by rw [hl_1, ew_1]; exact (mLowW.mono (by rw [hl_0]; omega) hw_0).app (mLowW.cons ⟨trivial, trivial, trivial, trivial, trivial, trivial, trivial, trivial, trivial, trivial⟩ mLowW.nil)
    have hf1_s : w_1[s]? = some (mO 9 [.ref (s + 1), .ref (s + 7), .ref (s + 13), .int 0, .ref (s + 19), .int 0, .int 0, .ref (s + 20), .ref (s + 25), .int (-1), .int (-1), .ref (s + 40)]) := by rw [ew_1, List.getElem?_append_left (lt_of_get hs)]; exact hs
    have hf1__s___19_ : w_1[(s + 19)]? = some (.inl (3, 8, .inr (.inr (.inr (.inr (hsF s c)))))) := by rw [ew_1, List.getElem?_append_left (lt_of_get hq)]; exact hq
    have hf1_pre : HcPre w0 w_1 s c := HcPre.mono hT (fun k h8 h9 => by rw [ew_1, List.getElem?_append_left (by rw [hl_0]; omega)])
    have hf1_z : w_1[z]? = some (mO 7 [.null, .null, .null, .int 0, .int 0, .int 0, .int 0, .int 0, .int 0]) := by rw [ew_1, List.getElem?_append_right (by rw [hl_0]; exact Nat.le_refl _), hl_0, Nat.sub_self]; rfl
    rw [← ew_1, hl_0]
    show Wp X (k + 1) (n + 9) w_1 [(0, .ref s), (1, .int (nI c))] [.ref z, .int (nI c), .ref (s + 19)] _
    refine r_dup hC dX8_init_105 rfl ?_
    refine n_callIN hC (vs := []) vX8_init_106 (cn_state (d := d + 1) (s := z) hl_1 hf1_z hw_1 (by omega)) rfl (by omega) (by omega) (by omega) (Nat.le_of_ble_eq_true rfl) ⟨(Or.inl (by omega)), trivial, trivial⟩ ⟨(Or.inl (by omega)), trivial, (Or.inl (by omega)), trivial⟩ (fun v_2 w_2 X hT hP_2 hlen_2 => ?_)
    have hB := hB.tie hT (by rw [hl_1]; omega)
    clear hT
    obtain ⟨hC, hnl, hE, hR, hN, hNm⟩ := id hB
    obtain ⟨rfl, ⟨hl_2, hw_2, hk_2⟩, hP_2⟩ := hP_2
    rw [hl_1] at hl_2
    replace hl_2 : w_2.length = (z + 6) := by omega
    have hf2_s : w_2[s]? = some (mO 9 [.ref (s + 1), .ref (s + 7), .ref (s + 13), .int 0, .ref (s + 19), .int 0, .int 0, .ref (s + 20), .ref (s + 25), .int (-1), .int (-1), .ref (s + 40)]) := by rw [hk_2 s (by omega)]; exact hf1_s
    have hf2__s___19_ : w_2[(s + 19)]? = some (.inl (3, 8, .inr (.inr (.inr (.inr (hsF s c)))))) := by rw [hk_2 (s + 19) (by omega)]; exact hf1__s___19_
    have hf2_pre : HcPre w0 w_2 s c := HcPre.mono hf1_pre (fun k h8 h9 => by rw [hk_2 k (by omega)])
    show Wp X ((k + 1) + 5) ((n + 9) + 68) w_2 [(0, .ref s), (1, .int (nI c))] [.ref z, .int (nI c), .ref (s + 19)] 109
    have hz9 : w_2[z]? = some (mO 7 _) := hP_2.1
    refine r_aast hC (j := c) dX8_init_109 hf2__s___19_ (fun _ => rfl) hz9 rfl (mIx_nI (by omega) (by decide)) (fun w_3 ew_3 => ?_)
    rw [ez, hsF_up] at ew_3
    replace ew_3 : w_3 = (w_2).set ((s + 19)) (.inl (3, 8, .inr (.inr (.inr (.inr (hsF s (c + 1))))))) := ew_3
    have hl_3 : w_3.length = (z + 6) := by rw [ew_3, List.length_set, hl_2]
    have hw_3 : mLowW w_3.length w_3 := by rw [hl_3, ew_3]; exact mLowW.set (by rw [← hl_2]; exact hw_2) (fun i b e => Or.inl (by have := hsF_lt e; omega))
    have hf3_s : w_3[s]? = some (mO 9 [.ref (s + 1), .ref (s + 7), .ref (s + 13), .int 0, .ref (s + 19), .int 0, .int 0, .ref (s + 20), .ref (s + 25), .int (-1), .int (-1), .ref (s + 40)]) := by rw [ew_3, List.getElem?_set_ne (by omega)]; exact hf2_s
    have hf3__s___19_ : w_3[(s + 19)]? = some (.inl (3, 8, .inr (.inr (.inr (.inr (hsF s (c + 1))))))) := by rw [ew_3]; exact List.getElem?_set_self (lt_of_get hf2__s___19_)
    have hf3_pre : HcPre w0 w_3 s c := HcPre.mono hf2_pre (fun k h8 h9 => by rw [ew_3, List.getElem?_set_ne (by omega)])
    have hf3_stz : StAt w_3 z sv0 := StAt.mono hP_2 (fun k h8 h9 => by rw [ew_3, List.getElem?_set_ne (by omega)])
    refine r_iinc hC dX8_init_110 (j := 1) rfl (v := nI (c + 1)) (nI_succ c).symm (by rw [hnl]; decide) (L' := [(1, .int (nI (c + 1))), (0, .ref s)]) rfl ?_
    refine r_goto hC dX8_init_113 (tgt := 91) (by decide) ?_
    refine r_locals [1, 0] (L' := [(0, .ref s), (1, .int (nI (c + 1)))]) rfl ?_
    exact ih (c + 1) X w_3 _ _ (by omega) (by omega) (by omega) hB (by rw [hl_3, ez]; omega) hw_3 hf3_s hf3__s___19_ (HcPre.step hf3_pre (by rw [← ez]; exact hf3_stz))
set_option maxRecDepth 100000 in
set_option maxHeartbeats 4000000 in
theorem cn_contest {d : Nat} {w : mW} {s : Nat}  (hl_0 : w.length = s + 1) (hk : w[s]? = some (mO 9 [.null, .null, .null, .int 0, .null, .int 0, .int 0, .null, .null, .int 0, .int 0, .null])) (hw_0 : mLowW w.length w) (hmax : s < 900000)  : SpN (d + 3) yX8_init cX8_init 2 none [.ref s] w 90 1043 (fun v w9 => v = none ∧ Gn w w9 s 88 ∧ CtAt w9 s sv0 [] (-1) (-1) none [] []) := by
  refine SpN.of (by decide +kernel) (Nat.le_of_ble_eq_true rfl) (fun X hC hnl hE hR hN hNm => ?_)
  have hC : Cx X RX8 cX8_init (d + 3) 90 1043 := hC
  have hB := NB.mk hC hnl hE hR hN hNm
  show Wp X 0 0 w [(0, .ref s)] [] 0
  obtain ⟨hC, hnl, hE, hR, hN, hNm⟩ := id hB
  refine r_aload_n hC dX8_init_0 rfl (j := 0) rfl ?_
  refine r_objI hC oX8_init_1 (Nat.le_of_ble_eq_true rfl) ?_
  refine r_aload_n hC dX8_init_4 rfl (j := 0) rfl ?_
  refine n_new hC nX8_init_5 (fun _ => rfl) hw_0 (by rw [hl_0]; omega) (by omega) (by omega) ⟨(Or.inl (by omega)), trivial⟩ ⟨(Or.inl (by omega)), trivial⟩ (fun X hT => ?_)
  have hB := hB.tie hT (by rw [hl_0]; omega)
  clear hT
  obtain ⟨hC, hnl, hE, hR, hN, hNm⟩ := id hB
  obtain ⟨w_1, ew_1⟩ : ∃ z, z = w ++ [(mO 7 [.null, .null, .null, .int 0, .int 0, .int 0, .int 0, .int 0, .int 0])] := ⟨_, rfl⟩
  have hl_1 : w_1.length = (s + 2) := by rw [ew_1, List.length_append, hl_0]; rfl
  have hw_1 : mLowW w_1.length w_1 := by rw [hl_1, ew_1]; exact (mLowW.mono (by rw [hl_0]; omega) hw_0).app (mLowW.cons ⟨trivial, trivial, trivial, trivial, trivial, trivial, trivial, trivial, trivial, trivial⟩ mLowW.nil)
  have hf1_s : w_1[s]? = some (mO 9 [.null, .null, .null, .int 0, .null, .int 0, .int 0, .null, .null, .int 0, .int 0, .null]) := by rw [ew_1, List.getElem?_append_left (lt_of_get hk)]; exact hk
  have hf1__s___1_ : w_1[(s + 1)]? = some (mO 7 [.null, .null, .null, .int 0, .int 0, .int 0, .int 0, .int 0, .int 0]) := by rw [ew_1, List.getElem?_append_right (by rw [hl_0]; exact Nat.le_refl _), hl_0, Nat.sub_self]; rfl
  rw [← ew_1, hl_0]
  show Wp X (0 + 1) (0 + 9) w_1 [(0, .ref s)] [.ref (s + 1), .ref s] _
  refine r_dup hC dX8_init_8 rfl ?_
  refine n_callIN hC (vs := []) vX8_init_9 (cn_state (d := d + 1) (s := s + 1) hl_1 hf1__s___1_ hw_1 (by omega)) rfl (by omega) (by omega) (by omega) (Nat.le_of_ble_eq_true rfl) ⟨(Or.inl (by omega)), trivial⟩ ⟨(Or.inl (by omega)), (Or.inl (by omega)), trivial⟩ (fun v_2 w_2 X hT hP_2 hlen_2 => ?_)
  have hB := hB.tie hT (by rw [hl_1]; omega)
  clear hT
  obtain ⟨hC, hnl, hE, hR, hN, hNm⟩ := id hB
  obtain ⟨rfl, ⟨hl_2, hw_2, hk_2⟩, hP_2⟩ := hP_2
  rw [hl_1] at hl_2
  replace hl_2 : w_2.length = (s + 7) := by omega
  have hf2_s : w_2[s]? = some (mO 9 [.null, .null, .null, .int 0, .null, .int 0, .int 0, .null, .null, .int 0, .int 0, .null]) := by rw [hk_2 s (by omega)]; exact hf1_s
  show Wp X ((0 + 1) + 5) ((0 + 9) + 68) w_2 [(0, .ref s)] [.ref (s + 1), .ref s] 12
  refine n_putI' hC hNm pX8_init_12 hf2_s (Nat.le_of_ble_eq_true rfl) (fun _ => rfl) (fun _ => rfl) (fun w_3 ew_3 => ?_)
  replace ew_3 : w_3 = (w_2).set (s) (mO 9 [.ref (s + 1), .null, .null, .int 0, .null, .int 0, .int 0, .null, .null, .int 0, .int 0, .null]) := ew_3
  have hl_3 : w_3.length = (s + 7) := by rw [ew_3, List.length_set, hl_2]
  have hw_3 : mLowW w_3.length w_3 := by rw [hl_3, ew_3]; exact mLowW.set (by rw [← hl_2]; exact hw_2) ⟨(Or.inl (by omega)), trivial, trivial, trivial, trivial, trivial, trivial, trivial, trivial, trivial, trivial, trivial, trivial⟩
  have hf3_s : w_3[s]? = some (mO 9 [.ref (s + 1), .null, .null, .int 0, .null, .int 0, .int 0, .null, .null, .int 0, .int 0, .null]) := by rw [ew_3]; exact List.getElem?_set_self (lt_of_get hf2_s)
  have hf3_st1 : StAt w_3 (s + 1) sv0 := StAt.mono hP_2 (fun k h8 h9 => by rw [ew_3, List.getElem?_set_ne (by omega)])
  refine r_aload_n hC dX8_init_15 rfl (j := 0) rfl ?_
  refine n_new hC nX8_init_16 (fun _ => rfl) hw_3 (by rw [hl_3]; omega) (by omega) (by omega) ⟨(Or.inl (by omega)), trivial⟩ ⟨(Or.inl (by omega)), trivial⟩ (fun X hT => ?_)
  have hB := hB.tie hT (by rw [hl_3]; omega)
  clear hT
  obtain ⟨hC, hnl, hE, hR, hN, hNm⟩ := id hB
  obtain ⟨w_4, ew_4⟩ : ∃ z, z = w_3 ++ [(mO 7 [.null, .null, .null, .int 0, .int 0, .int 0, .int 0, .int 0, .int 0])] := ⟨_, rfl⟩
  have hl_4 : w_4.length = (s + 8) := by rw [ew_4, List.length_append, hl_3]; rfl
  have hw_4 : mLowW w_4.length w_4 := by rw [hl_4, ew_4]; exact (mLowW.mono (by rw [hl_3]; omega) hw_3).app (mLowW.cons ⟨trivial, trivial, trivial, trivial, trivial, trivial, trivial, trivial, trivial, trivial⟩ mLowW.nil)
  have hf4_s : w_4[s]? = some (mO 9 [.ref (s + 1), .null, .null, .int 0, .null, .int 0, .int 0, .null, .null, .int 0, .int 0, .null]) := by rw [ew_4, List.getElem?_append_left (lt_of_get hf3_s)]; exact hf3_s
  have hf4_st1 : StAt w_4 (s + 1) sv0 := StAt.mono hf3_st1 (fun k h8 h9 => by rw [ew_4, List.getElem?_append_left (by rw [hl_3]; omega)])
  have hf4__s___7_ : w_4[(s + 7)]? = some (mO 7 [.null, .null, .null, .int 0, .int 0, .int 0, .int 0, .int 0, .int 0]) := by rw [ew_4, List.getElem?_append_right (by rw [hl_3]; exact Nat.le_refl _), hl_3, Nat.sub_self]; rfl
  rw [← ew_4, hl_3]
  show Wp X (((0 + 1) + 5) + 1) (((0 + 9) + 68) + 9) w_4 [(0, .ref s)] [.ref (s + 7), .ref s] _
  refine r_dup hC dX8_init_19 rfl ?_
  refine n_callIN hC (vs := []) vX8_init_20 (cn_state (d := d + 1) (s := s + 7) hl_4 hf4__s___7_ hw_4 (by omega)) rfl (by omega) (by omega) (by omega) (Nat.le_of_ble_eq_true rfl) ⟨(Or.inl (by omega)), trivial⟩ ⟨(Or.inl (by omega)), (Or.inl (by omega)), trivial⟩ (fun v_5 w_5 X hT hP_5 hlen_5 => ?_)
  have hB := hB.tie hT (by rw [hl_4]; omega)
  clear hT
  obtain ⟨hC, hnl, hE, hR, hN, hNm⟩ := id hB
  obtain ⟨rfl, ⟨hl_5, hw_5, hk_5⟩, hP_5⟩ := hP_5
  rw [hl_4] at hl_5
  replace hl_5 : w_5.length = (s + 13) := by omega
  have hf5_s : w_5[s]? = some (mO 9 [.ref (s + 1), .null, .null, .int 0, .null, .int 0, .int 0, .null, .null, .int 0, .int 0, .null]) := by rw [hk_5 s (by omega)]; exact hf4_s
  have hf5_st1 : StAt w_5 (s + 1) sv0 := StAt.mono hf4_st1 (fun k h8 h9 => by rw [hk_5 k (by omega)])
  show Wp X ((((0 + 1) + 5) + 1) + 5) ((((0 + 9) + 68) + 9) + 68) w_5 [(0, .ref s)] [.ref (s + 7), .ref s] 23
  refine n_putI' hC hNm pX8_init_23 hf5_s (Nat.le_of_ble_eq_true rfl) (fun _ => rfl) (fun _ => rfl) (fun w_6 ew_6 => ?_)
  replace ew_6 : w_6 = (w_5).set (s) (mO 9 [.ref (s + 1), .ref (s + 7), .null, .int 0, .null, .int 0, .int 0, .null, .null, .int 0, .int 0, .null]) := ew_6
  have hl_6 : w_6.length = (s + 13) := by rw [ew_6, List.length_set, hl_5]
  have hw_6 : mLowW w_6.length w_6 := by rw [hl_6, ew_6]; exact mLowW.set (by rw [← hl_5]; exact hw_5) ⟨(Or.inl (by omega)), (Or.inl (by omega)), trivial, trivial, trivial, trivial, trivial, trivial, trivial, trivial, trivial, trivial, trivial⟩
  have hf6_s : w_6[s]? = some (mO 9 [.ref (s + 1), .ref (s + 7), .null, .int 0, .null, .int 0, .int 0, .null, .null, .int 0, .int 0, .null]) := by rw [ew_6]; exact List.getElem?_set_self (lt_of_get hf5_s)
  have hf6_st1 : StAt w_6 (s + 1) sv0 := StAt.mono hf5_st1 (fun k h8 h9 => by rw [ew_6, List.getElem?_set_ne (by omega)])
  have hf6_st7 : StAt w_6 (s + 7) sv0 := StAt.mono hP_5 (fun k h8 h9 => by rw [ew_6, List.getElem?_set_ne (by omega)])
  refine r_aload_n hC dX8_init_26 rfl (j := 0) rfl ?_
  refine n_new hC nX8_init_27 (fun _ => rfl) hw_6 (by rw [hl_6]; omega) (by omega) (by omega) ⟨(Or.inl (by omega)), trivial⟩ ⟨(Or.inl (by omega)), trivial⟩ (fun X hT => ?_)
  have hB := hB.tie hT (by rw [hl_6]; omega)
  clear hT
  obtain ⟨hC, hnl, hE, hR, hN, hNm⟩ := id hB
  obtain ⟨w_7, ew_7⟩ : ∃ z, z = w_6 ++ [(mO 7 [.null, .null, .null, .int 0, .int 0, .int 0, .int 0, .int 0, .int 0])] := ⟨_, rfl⟩
  have hl_7 : w_7.length = (s + 14) := by rw [ew_7, List.length_append, hl_6]; rfl
  have hw_7 : mLowW w_7.length w_7 := by rw [hl_7, ew_7]; exact (mLowW.mono (by rw [hl_6]; omega) hw_6).app (mLowW.cons ⟨trivial, trivial, trivial, trivial, trivial, trivial, trivial, trivial, trivial, trivial⟩ mLowW.nil)
  have hf7_s : w_7[s]? = some (mO 9 [.ref (s + 1), .ref (s + 7), .null, .int 0, .null, .int 0, .int 0, .null, .null, .int 0, .int 0, .null]) := by rw [ew_7, List.getElem?_append_left (lt_of_get hf6_s)]; exact hf6_s
  have hf7_st1 : StAt w_7 (s + 1) sv0 := StAt.mono hf6_st1 (fun k h8 h9 => by rw [ew_7, List.getElem?_append_left (by rw [hl_6]; omega)])
  have hf7_st7 : StAt w_7 (s + 7) sv0 := StAt.mono hf6_st7 (fun k h8 h9 => by rw [ew_7, List.getElem?_append_left (by rw [hl_6]; omega)])
  have hf7__s___13_ : w_7[(s + 13)]? = some (mO 7 [.null, .null, .null, .int 0, .int 0, .int 0, .int 0, .int 0, .int 0]) := by rw [ew_7, List.getElem?_append_right (by rw [hl_6]; exact Nat.le_refl _), hl_6, Nat.sub_self]; rfl
  rw [← ew_7, hl_6]
  show Wp X (((((0 + 1) + 5) + 1) + 5) + 1) (((((0 + 9) + 68) + 9) + 68) + 9) w_7 [(0, .ref s)] [.ref (s + 13), .ref s] _
  refine r_dup hC dX8_init_30 rfl ?_
  refine n_callIN hC (vs := []) vX8_init_31 (cn_state (d := d + 1) (s := s + 13) hl_7 hf7__s___13_ hw_7 (by omega)) rfl (by omega) (by omega) (by omega) (Nat.le_of_ble_eq_true rfl) ⟨(Or.inl (by omega)), trivial⟩ ⟨(Or.inl (by omega)), (Or.inl (by omega)), trivial⟩ (fun v_8 w_8 X hT hP_8 hlen_8 => ?_)
  have hB := hB.tie hT (by rw [hl_7]; omega)
  clear hT
  obtain ⟨hC, hnl, hE, hR, hN, hNm⟩ := id hB
  obtain ⟨rfl, ⟨hl_8, hw_8, hk_8⟩, hP_8⟩ := hP_8
  rw [hl_7] at hl_8
  replace hl_8 : w_8.length = (s + 19) := by omega
  have hf8_s : w_8[s]? = some (mO 9 [.ref (s + 1), .ref (s + 7), .null, .int 0, .null, .int 0, .int 0, .null, .null, .int 0, .int 0, .null]) := by rw [hk_8 s (by omega)]; exact hf7_s
  have hf8_st1 : StAt w_8 (s + 1) sv0 := StAt.mono hf7_st1 (fun k h8 h9 => by rw [hk_8 k (by omega)])
  have hf8_st7 : StAt w_8 (s + 7) sv0 := StAt.mono hf7_st7 (fun k h8 h9 => by rw [hk_8 k (by omega)])
  show Wp X ((((((0 + 1) + 5) + 1) + 5) + 1) + 5) ((((((0 + 9) + 68) + 9) + 68) + 9) + 68) w_8 [(0, .ref s)] [.ref (s + 13), .ref s] 34
  refine n_putI' hC hNm pX8_init_34 hf8_s (Nat.le_of_ble_eq_true rfl) (fun _ => rfl) (fun _ => rfl) (fun w_9 ew_9 => ?_)
  replace ew_9 : w_9 = (w_8).set (s) (mO 9 [.ref (s + 1), .ref (s + 7), .ref (s + 13), .int 0, .null, .int 0, .int 0, .null, .null, .int 0, .int 0, .null]) := ew_9
  have hl_9 : w_9.length = (s + 19) := by rw [ew_9, List.length_set, hl_8]
  have hw_9 : mLowW w_9.length w_9 := by rw [hl_9, ew_9]; exact mLowW.set (by rw [← hl_8]; exact hw_8) ⟨(Or.inl (by omega)), (Or.inl (by omega)), (Or.inl (by omega)), trivial, trivial, trivial, trivial, trivial, trivial, trivial, trivial, trivial, trivial⟩
  have hf9_s : w_9[s]? = some (mO 9 [.ref (s + 1), .ref (s + 7), .ref (s + 13), .int 0, .null, .int 0, .int 0, .null, .null, .int 0, .int 0, .null]) := by rw [ew_9]; exact List.getElem?_set_self (lt_of_get hf8_s)
  have hf9_st1 : StAt w_9 (s + 1) sv0 := StAt.mono hf8_st1 (fun k h8 h9 => by rw [ew_9, List.getElem?_set_ne (by omega)])
  have hf9_st7 : StAt w_9 (s + 7) sv0 := StAt.mono hf8_st7 (fun k h8 h9 => by rw [ew_9, List.getElem?_set_ne (by omega)])
  have hf9_st13 : StAt w_9 (s + 13) sv0 := StAt.mono hP_8 (fun k h8 h9 => by rw [ew_9, List.getElem?_set_ne (by omega)])
  refine r_aload_n hC dX8_init_37 rfl (j := 0) rfl ?_
  refine r_bipush hC dX8_init_38 (v := 8) (by decide) ?_
  refine n_newq hC (C := RX6) (t := 3) (N := 8) clX8_7 ao_X6 (fun _ => rfl) (by decide) (by decide) (by decide) dX8_init_40 hw_9 (by rw [hl_9]; omega) (by omega) (by omega) ⟨(Or.inl (by omega)), trivial⟩ ⟨(Or.inl (by omega)), trivial⟩ (fun X hT => ?_)
  have hB := hB.tie hT (by rw [hl_9]; omega)
  clear hT
  obtain ⟨hC, hnl, hE, hR, hN, hNm⟩ := id hB
  obtain ⟨w_10, ew_10⟩ : ∃ z, z = w_9 ++ [(.inl (3, 8, .inr (.inr (.inr (.inr (fun _ => none))))))] := ⟨_, rfl⟩
  have hl_10 : w_10.length = (s + 20) := by rw [ew_10, List.length_append, hl_9]; rfl
  have hw_10 : mLowW w_10.length w_10 := by rw [hl_10, ew_10]; exact (mLowW.mono (by rw [hl_9]; omega) hw_9).app (mLowW.cons (fun i b e => by cases e) mLowW.nil)
  have hf10_s : w_10[s]? = some (mO 9 [.ref (s + 1), .ref (s + 7), .ref (s + 13), .int 0, .null, .int 0, .int 0, .null, .null, .int 0, .int 0, .null]) := by rw [ew_10, List.getElem?_append_left (lt_of_get hf9_s)]; exact hf9_s
  have hf10_st1 : StAt w_10 (s + 1) sv0 := StAt.mono hf9_st1 (fun k h8 h9 => by rw [ew_10, List.getElem?_append_left (by rw [hl_9]; omega)])
  have hf10_st7 : StAt w_10 (s + 7) sv0 := StAt.mono hf9_st7 (fun k h8 h9 => by rw [ew_10, List.getElem?_append_left (by rw [hl_9]; omega)])
  have hf10_st13 : StAt w_10 (s + 13) sv0 := StAt.mono hf9_st13 (fun k h8 h9 => by rw [ew_10, List.getElem?_append_left (by rw [hl_9]; omega)])
  have hf10__s___19_ : w_10[(s + 19)]? = some (.inl (3, 8, .inr (.inr (.inr (.inr (fun _ => none)))))) := by rw [ew_10, List.getElem?_append_right (by rw [hl_9]; exact Nat.le_refl _), hl_9, Nat.sub_self]; rfl
  rw [← ew_10, hl_9]
  show Wp X (((((((0 + 1) + 5) + 1) + 5) + 1) + 5) + 1) (((((((0 + 9) + 68) + 9) + 68) + 9) + 68) + 8) w_10 [(0, .ref s)] [.ref (s + 19), .ref s] _
  refine n_putI' hC hNm pX8_init_43 hf10_s (Nat.le_of_ble_eq_true rfl) (fun _ => rfl) (fun _ => rfl) (fun w_11 ew_11 => ?_)
  replace ew_11 : w_11 = (w_10).set (s) (mO 9 [.ref (s + 1), .ref (s + 7), .ref (s + 13), .int 0, .ref (s + 19), .int 0, .int 0, .null, .null, .int 0, .int 0, .null]) := ew_11
  have hl_11 : w_11.length = (s + 20) := by rw [ew_11, List.length_set, hl_10]
  have hw_11 : mLowW w_11.length w_11 := by rw [hl_11, ew_11]; exact mLowW.set (by rw [← hl_10]; exact hw_10) ⟨(Or.inl (by omega)), (Or.inl (by omega)), (Or.inl (by omega)), trivial, (Or.inl (by omega)), trivial, trivial, trivial, trivial, trivial, trivial, trivial, trivial⟩
  have hf11_s : w_11[s]? = some (mO 9 [.ref (s + 1), .ref (s + 7), .ref (s + 13), .int 0, .ref (s + 19), .int 0, .int 0, .null, .null, .int 0, .int 0, .null]) := by rw [ew_11]; exact List.getElem?_set_self (lt_of_get hf10_s)
  have hf11_st1 : StAt w_11 (s + 1) sv0 := StAt.mono hf10_st1 (fun k h8 h9 => by rw [ew_11, List.getElem?_set_ne (by omega)])
  have hf11_st7 : StAt w_11 (s + 7) sv0 := StAt.mono hf10_st7 (fun k h8 h9 => by rw [ew_11, List.getElem?_set_ne (by omega)])
  have hf11_st13 : StAt w_11 (s + 13) sv0 := StAt.mono hf10_st13 (fun k h8 h9 => by rw [ew_11, List.getElem?_set_ne (by omega)])
  have hf11__s___19_ : w_11[(s + 19)]? = some (.inl (3, 8, .inr (.inr (.inr (.inr (fun _ => none)))))) := by rw [ew_11, List.getElem?_set_ne (by omega)]; exact hf10__s___19_
  refine r_aload_n hC dX8_init_46 rfl (j := 0) rfl ?_
  refine n_new hC nX8_init_47 (fun _ => rfl) hw_11 (by rw [hl_11]; omega) (by omega) (by omega) ⟨(Or.inl (by omega)), trivial⟩ ⟨(Or.inl (by omega)), trivial⟩ (fun X hT => ?_)
  have hB := hB.tie hT (by rw [hl_11]; omega)
  clear hT
  obtain ⟨hC, hnl, hE, hR, hN, hNm⟩ := id hB
  obtain ⟨w_12, ew_12⟩ : ∃ z, z = w_11 ++ [(mO 8 [.null, .null, .int 0])] := ⟨_, rfl⟩
  have hl_12 : w_12.length = (s + 21) := by rw [ew_12, List.length_append, hl_11]; rfl
  have hw_12 : mLowW w_12.length w_12 := by rw [hl_12, ew_12]; exact (mLowW.mono (by rw [hl_11]; omega) hw_11).app (mLowW.cons ⟨trivial, trivial, trivial, trivial⟩ mLowW.nil)
  have hf12_s : w_12[s]? = some (mO 9 [.ref (s + 1), .ref (s + 7), .ref (s + 13), .int 0, .ref (s + 19), .int 0, .int 0, .null, .null, .int 0, .int 0, .null]) := by rw [ew_12, List.getElem?_append_left (lt_of_get hf11_s)]; exact hf11_s
  have hf12_st1 : StAt w_12 (s + 1) sv0 := StAt.mono hf11_st1 (fun k h8 h9 => by rw [ew_12, List.getElem?_append_left (by rw [hl_11]; omega)])
  have hf12_st7 : StAt w_12 (s + 7) sv0 := StAt.mono hf11_st7 (fun k h8 h9 => by rw [ew_12, List.getElem?_append_left (by rw [hl_11]; omega)])
  have hf12_st13 : StAt w_12 (s + 13) sv0 := StAt.mono hf11_st13 (fun k h8 h9 => by rw [ew_12, List.getElem?_append_left (by rw [hl_11]; omega)])
  have hf12__s___19_ : w_12[(s + 19)]? = some (.inl (3, 8, .inr (.inr (.inr (.inr (fun _ => none)))))) := by rw [ew_12, List.getElem?_append_left (lt_of_get hf11__s___19_)]; exact hf11__s___19_
  have hf12__s___20_ : w_12[(s + 20)]? = some (mO 8 [.null, .null, .int 0]) := by rw [ew_12, List.getElem?_append_right (by rw [hl_11]; exact Nat.le_refl _), hl_11, Nat.sub_self]; rfl
  rw [← ew_12, hl_11]
  show Wp X ((((((((0 + 1) + 5) + 1) + 5) + 1) + 5) + 1) + 1) ((((((((0 + 9) + 68) + 9) + 68) + 9) + 68) + 8) + 3) w_12 [(0, .ref s)] [.ref (s + 20), .ref s] _
  refine r_dup hC dX8_init_50 rfl ?_
  refine n_callIN hC (vs := []) vX8_init_51 (cn_trial (d := d + 1) (s := s + 20) hl_12 hf12__s___20_ hw_12 (by omega)) rfl (by omega) (by omega) (by omega) (Nat.le_of_ble_eq_true rfl) ⟨(Or.inl (by omega)), trivial⟩ ⟨(Or.inl (by omega)), (Or.inl (by omega)), trivial⟩ (fun v_13 w_13 X hT hP_13 hlen_13 => ?_)
  have hB := hB.tie hT (by rw [hl_12]; omega)
  clear hT
  obtain ⟨hC, hnl, hE, hR, hN, hNm⟩ := id hB
  obtain ⟨rfl, ⟨hl_13, hw_13, hk_13⟩, hP_13⟩ := hP_13
  rw [hl_12] at hl_13
  replace hl_13 : w_13.length = (s + 25) := by omega
  have hf13_s : w_13[s]? = some (mO 9 [.ref (s + 1), .ref (s + 7), .ref (s + 13), .int 0, .ref (s + 19), .int 0, .int 0, .null, .null, .int 0, .int 0, .null]) := by rw [hk_13 s (by omega)]; exact hf12_s
  have hf13_st1 : StAt w_13 (s + 1) sv0 := StAt.mono hf12_st1 (fun k h8 h9 => by rw [hk_13 k (by omega)])
  have hf13_st7 : StAt w_13 (s + 7) sv0 := StAt.mono hf12_st7 (fun k h8 h9 => by rw [hk_13 k (by omega)])
  have hf13_st13 : StAt w_13 (s + 13) sv0 := StAt.mono hf12_st13 (fun k h8 h9 => by rw [hk_13 k (by omega)])
  have hf13__s___19_ : w_13[(s + 19)]? = some (.inl (3, 8, .inr (.inr (.inr (.inr (fun _ => none)))))) := by rw [hk_13 (s + 19) (by omega)]; exact hf12__s___19_
  show Wp X (((((((((0 + 1) + 5) + 1) + 5) + 1) + 5) + 1) + 1) + 4) (((((((((0 + 9) + 68) + 9) + 68) + 9) + 68) + 8) + 3) + 81) w_13 [(0, .ref s)] [.ref (s + 20), .ref s] 54
  refine n_putI' hC hNm pX8_init_54 hf13_s (Nat.le_of_ble_eq_true rfl) (fun _ => rfl) (fun _ => rfl) (fun w_14 ew_14 => ?_)
  replace ew_14 : w_14 = (w_13).set (s) (mO 9 [.ref (s + 1), .ref (s + 7), .ref (s + 13), .int 0, .ref (s + 19), .int 0, .int 0, .ref (s + 20), .null, .int 0, .int 0, .null]) := ew_14
  have hl_14 : w_14.length = (s + 25) := by rw [ew_14, List.length_set, hl_13]
  have hw_14 : mLowW w_14.length w_14 := by rw [hl_14, ew_14]; exact mLowW.set (by rw [← hl_13]; exact hw_13) ⟨(Or.inl (by omega)), (Or.inl (by omega)), (Or.inl (by omega)), trivial, (Or.inl (by omega)), trivial, trivial, (Or.inl (by omega)), trivial, trivial, trivial, trivial, trivial⟩
  have hf14_s : w_14[s]? = some (mO 9 [.ref (s + 1), .ref (s + 7), .ref (s + 13), .int 0, .ref (s + 19), .int 0, .int 0, .ref (s + 20), .null, .int 0, .int 0, .null]) := by rw [ew_14]; exact List.getElem?_set_self (lt_of_get hf13_s)
  have hf14_st1 : StAt w_14 (s + 1) sv0 := StAt.mono hf13_st1 (fun k h8 h9 => by rw [ew_14, List.getElem?_set_ne (by omega)])
  have hf14_st7 : StAt w_14 (s + 7) sv0 := StAt.mono hf13_st7 (fun k h8 h9 => by rw [ew_14, List.getElem?_set_ne (by omega)])
  have hf14_st13 : StAt w_14 (s + 13) sv0 := StAt.mono hf13_st13 (fun k h8 h9 => by rw [ew_14, List.getElem?_set_ne (by omega)])
  have hf14__s___19_ : w_14[(s + 19)]? = some (.inl (3, 8, .inr (.inr (.inr (.inr (fun _ => none)))))) := by rw [ew_14, List.getElem?_set_ne (by omega)]; exact hf13__s___19_
  have hf14_tr : TrAt w_14 (s + 20) hill0 (fun _ => 0) 0 := TrAt.mono hP_13 (fun k h8 h9 => by rw [ew_14, List.getElem?_set_ne (by omega)])
  refine r_aload_n hC dX8_init_57 rfl (j := 0) rfl ?_
  refine n_new hC nX8_init_58 (fun _ => rfl) hw_14 (by rw [hl_14]; omega) (by omega) (by omega) ⟨(Or.inl (by omega)), trivial⟩ ⟨(Or.inl (by omega)), trivial⟩ (fun X hT => ?_)
  have hB := hB.tie hT (by rw [hl_14]; omega)
  clear hT
  obtain ⟨hC, hnl, hE, hR, hN, hNm⟩ := id hB
  obtain ⟨w_15, ew_15⟩ : ∃ z, z = w_14 ++ [(mO 5 [.null, .null, .int 0, .int 0])] := ⟨_, rfl⟩
  have hl_15 : w_15.length = (s + 26) := by rw [ew_15, List.length_append, hl_14]; rfl
  have hw_15 : mLowW w_15.length w_15 := by rw [hl_15, ew_15]; exact (mLowW.mono (by rw [hl_14]; omega) hw_14).app (mLowW.cons ⟨trivial, trivial, trivial, trivial, trivial⟩ mLowW.nil)
  have hf15_s : w_15[s]? = some (mO 9 [.ref (s + 1), .ref (s + 7), .ref (s + 13), .int 0, .ref (s + 19), .int 0, .int 0, .ref (s + 20), .null, .int 0, .int 0, .null]) := by rw [ew_15, List.getElem?_append_left (lt_of_get hf14_s)]; exact hf14_s
  have hf15_st1 : StAt w_15 (s + 1) sv0 := StAt.mono hf14_st1 (fun k h8 h9 => by rw [ew_15, List.getElem?_append_left (by rw [hl_14]; omega)])
  have hf15_st7 : StAt w_15 (s + 7) sv0 := StAt.mono hf14_st7 (fun k h8 h9 => by rw [ew_15, List.getElem?_append_left (by rw [hl_14]; omega)])
  have hf15_st13 : StAt w_15 (s + 13) sv0 := StAt.mono hf14_st13 (fun k h8 h9 => by rw [ew_15, List.getElem?_append_left (by rw [hl_14]; omega)])
  have hf15__s___19_ : w_15[(s + 19)]? = some (.inl (3, 8, .inr (.inr (.inr (.inr (fun _ => none)))))) := by rw [ew_15, List.getElem?_append_left (lt_of_get hf14__s___19_)]; exact hf14__s___19_
  have hf15_tr : TrAt w_15 (s + 20) hill0 (fun _ => 0) 0 := TrAt.mono hf14_tr (fun k h8 h9 => by rw [ew_15, List.getElem?_append_left (by rw [hl_14]; omega)])
  have hf15__s___25_ : w_15[(s + 25)]? = some (mO 5 [.null, .null, .int 0, .int 0]) := by rw [ew_15, List.getElem?_append_right (by rw [hl_14]; exact Nat.le_refl _), hl_14, Nat.sub_self]; rfl
  rw [← ew_15, hl_14]
  show Wp X ((((((((((0 + 1) + 5) + 1) + 5) + 1) + 5) + 1) + 1) + 4) + 1) ((((((((((0 + 9) + 68) + 9) + 68) + 9) + 68) + 8) + 3) + 81) + 4) w_15 [(0, .ref s)] [.ref (s + 25), .ref s] _
  refine r_dup hC dX8_init_61 rfl ?_
  refine n_callI hC (vs := []) vX8_init_62 (cn_text (d := d) (s := s + 25) hl_15 hf15__s___25_ hw_15 (by omega)) rfl (by omega) (by omega) (by omega) (Nat.le_of_ble_eq_true rfl) ⟨(Or.inl (by omega)), trivial⟩ ⟨(Or.inl (by omega)), (Or.inl (by omega)), trivial⟩ (fun v_16 w_16 X hT hP_16 hlen_16 => ?_)
  have hB := hB.tie hT (by rw [hl_15]; omega)
  clear hT
  obtain ⟨hC, hnl, hE, hR, hN, hNm⟩ := id hB
  obtain ⟨rfl, ⟨hl_16, hw_16, hk_16⟩, hP_16⟩ := hP_16
  rw [hl_15] at hl_16
  replace hl_16 : w_16.length = (s + 40) := by omega
  have hf16_s : w_16[s]? = some (mO 9 [.ref (s + 1), .ref (s + 7), .ref (s + 13), .int 0, .ref (s + 19), .int 0, .int 0, .ref (s + 20), .null, .int 0, .int 0, .null]) := by rw [hk_16 s (by omega)]; exact hf15_s
  have hf16_st1 : StAt w_16 (s + 1) sv0 := StAt.mono hf15_st1 (fun k h8 h9 => by rw [hk_16 k (by omega)])
  have hf16_st7 : StAt w_16 (s + 7) sv0 := StAt.mono hf15_st7 (fun k h8 h9 => by rw [hk_16 k (by omega)])
  have hf16_st13 : StAt w_16 (s + 13) sv0 := StAt.mono hf15_st13 (fun k h8 h9 => by rw [hk_16 k (by omega)])
  have hf16__s___19_ : w_16[(s + 19)]? = some (.inl (3, 8, .inr (.inr (.inr (.inr (fun _ => none)))))) := by rw [hk_16 (s + 19) (by omega)]; exact hf15__s___19_
  have hf16_tr : TrAt w_16 (s + 20) hill0 (fun _ => 0) 0 := TrAt.mono hf15_tr (fun k h8 h9 => by rw [hk_16 k (by omega)])
  show Wp X (((((((((((0 + 1) + 5) + 1) + 5) + 1) + 5) + 1) + 1) + 4) + 1) + 15) (((((((((((0 + 9) + 68) + 9) + 68) + 9) + 68) + 8) + 3) + 81) + 4) + 80) w_16 [(0, .ref s)] [.ref (s + 25), .ref s] 65
  refine n_putI' hC hNm pX8_init_65 hf16_s (Nat.le_of_ble_eq_true rfl) (fun _ => rfl) (fun _ => rfl) (fun w_17 ew_17 => ?_)
  replace ew_17 : w_17 = (w_16).set (s) (mO 9 [.ref (s + 1), .ref (s + 7), .ref (s + 13), .int 0, .ref (s + 19), .int 0, .int 0, .ref (s + 20), .ref (s + 25), .int 0, .int 0, .null]) := ew_17
  have hl_17 : w_17.length = (s + 40) := by rw [ew_17, List.length_set, hl_16]
  have hw_17 : mLowW w_17.length w_17 := by rw [hl_17, ew_17]; exact mLowW.set (by rw [← hl_16]; exact hw_16) ⟨(Or.inl (by omega)), (Or.inl (by omega)), (Or.inl (by omega)), trivial, (Or.inl (by omega)), trivial, trivial, (Or.inl (by omega)), (Or.inl (by omega)), trivial, trivial, trivial, trivial⟩
  have hf17_s : w_17[s]? = some (mO 9 [.ref (s + 1), .ref (s + 7), .ref (s + 13), .int 0, .ref (s + 19), .int 0, .int 0, .ref (s + 20), .ref (s + 25), .int 0, .int 0, .null]) := by rw [ew_17]; exact List.getElem?_set_self (lt_of_get hf16_s)
  have hf17_st1 : StAt w_17 (s + 1) sv0 := StAt.mono hf16_st1 (fun k h8 h9 => by rw [ew_17, List.getElem?_set_ne (by omega)])
  have hf17_st7 : StAt w_17 (s + 7) sv0 := StAt.mono hf16_st7 (fun k h8 h9 => by rw [ew_17, List.getElem?_set_ne (by omega)])
  have hf17_st13 : StAt w_17 (s + 13) sv0 := StAt.mono hf16_st13 (fun k h8 h9 => by rw [ew_17, List.getElem?_set_ne (by omega)])
  have hf17__s___19_ : w_17[(s + 19)]? = some (.inl (3, 8, .inr (.inr (.inr (.inr (fun _ => none)))))) := by rw [ew_17, List.getElem?_set_ne (by omega)]; exact hf16__s___19_
  have hf17_tr : TrAt w_17 (s + 20) hill0 (fun _ => 0) 0 := TrAt.mono hf16_tr (fun k h8 h9 => by rw [ew_17, List.getElem?_set_ne (by omega)])
  have hf17_tx : TxAt w_17 (s + 25) [] 0 0 (fun _ => (4, 0, 0, 0)) := TxAt.mono hP_16 (fun k h8 h9 => by rw [ew_17, List.getElem?_set_ne (by omega)])
  refine r_aload_n hC dX8_init_68 rfl (j := 0) rfl ?_
  refine r_iconst hC dX8_init_69 (v := (-1)) (by decide) ?_
  refine r_put' hC pX8_init_70 hf17_s (Nat.le_of_ble_eq_true rfl) (fun _ => rfl) (fun _ => rfl) (fun w_18 ew_18 => ?_)
  replace ew_18 : w_18 = (w_17).set (s) (mO 9 [.ref (s + 1), .ref (s + 7), .ref (s + 13), .int 0, .ref (s + 19), .int 0, .int 0, .ref (s + 20), .ref (s + 25), .int (-1), .int 0, .null]) := ew_18
  have hl_18 : w_18.length = (s + 40) := by rw [ew_18, List.length_set, hl_17]
  have hw_18 : mLowW w_18.length w_18 := by rw [hl_18, ew_18]; exact mLowW.set (by rw [← hl_17]; exact hw_17) ⟨(Or.inl (by omega)), (Or.inl (by omega)), (Or.inl (by omega)), trivial, (Or.inl (by omega)), trivial, trivial, (Or.inl (by omega)), (Or.inl (by omega)), trivial, trivial, trivial, trivial⟩
  have hf18_s : w_18[s]? = some (mO 9 [.ref (s + 1), .ref (s + 7), .ref (s + 13), .int 0, .ref (s + 19), .int 0, .int 0, .ref (s + 20), .ref (s + 25), .int (-1), .int 0, .null]) := by rw [ew_18]; exact List.getElem?_set_self (lt_of_get hf17_s)
  have hf18_st1 : StAt w_18 (s + 1) sv0 := StAt.mono hf17_st1 (fun k h8 h9 => by rw [ew_18, List.getElem?_set_ne (by omega)])
  have hf18_st7 : StAt w_18 (s + 7) sv0 := StAt.mono hf17_st7 (fun k h8 h9 => by rw [ew_18, List.getElem?_set_ne (by omega)])
  have hf18_st13 : StAt w_18 (s + 13) sv0 := StAt.mono hf17_st13 (fun k h8 h9 => by rw [ew_18, List.getElem?_set_ne (by omega)])
  have hf18__s___19_ : w_18[(s + 19)]? = some (.inl (3, 8, .inr (.inr (.inr (.inr (fun _ => none)))))) := by rw [ew_18, List.getElem?_set_ne (by omega)]; exact hf17__s___19_
  have hf18_tr : TrAt w_18 (s + 20) hill0 (fun _ => 0) 0 := TrAt.mono hf17_tr (fun k h8 h9 => by rw [ew_18, List.getElem?_set_ne (by omega)])
  have hf18_tx : TxAt w_18 (s + 25) [] 0 0 (fun _ => (4, 0, 0, 0)) := TxAt.mono hf17_tx (fun k h8 h9 => by rw [ew_18, List.getElem?_set_ne (by omega)])
  refine r_aload_n hC dX8_init_73 rfl (j := 0) rfl ?_
  refine r_iconst hC dX8_init_74 (v := (-1)) (by decide) ?_
  refine r_put' hC pX8_init_75 hf18_s (Nat.le_of_ble_eq_true rfl) (fun _ => rfl) (fun _ => rfl) (fun w_19 ew_19 => ?_)
  replace ew_19 : w_19 = (w_18).set (s) (mO 9 [.ref (s + 1), .ref (s + 7), .ref (s + 13), .int 0, .ref (s + 19), .int 0, .int 0, .ref (s + 20), .ref (s + 25), .int (-1), .int (-1), .null]) := ew_19
  have hl_19 : w_19.length = (s + 40) := by rw [ew_19, List.length_set, hl_18]
  have hw_19 : mLowW w_19.length w_19 := by rw [hl_19, ew_19]; exact mLowW.set (by rw [← hl_18]; exact hw_18) ⟨(Or.inl (by omega)), (Or.inl (by omega)), (Or.inl (by omega)), trivial, (Or.inl (by omega)), trivial, trivial, (Or.inl (by omega)), (Or.inl (by omega)), trivial, trivial, trivial, trivial⟩
  have hf19_s : w_19[s]? = some (mO 9 [.ref (s + 1), .ref (s + 7), .ref (s + 13), .int 0, .ref (s + 19), .int 0, .int 0, .ref (s + 20), .ref (s + 25), .int (-1), .int (-1), .null]) := by rw [ew_19]; exact List.getElem?_set_self (lt_of_get hf18_s)
  have hf19_st1 : StAt w_19 (s + 1) sv0 := StAt.mono hf18_st1 (fun k h8 h9 => by rw [ew_19, List.getElem?_set_ne (by omega)])
  have hf19_st7 : StAt w_19 (s + 7) sv0 := StAt.mono hf18_st7 (fun k h8 h9 => by rw [ew_19, List.getElem?_set_ne (by omega)])
  have hf19_st13 : StAt w_19 (s + 13) sv0 := StAt.mono hf18_st13 (fun k h8 h9 => by rw [ew_19, List.getElem?_set_ne (by omega)])
  have hf19__s___19_ : w_19[(s + 19)]? = some (.inl (3, 8, .inr (.inr (.inr (.inr (fun _ => none)))))) := by rw [ew_19, List.getElem?_set_ne (by omega)]; exact hf18__s___19_
  have hf19_tr : TrAt w_19 (s + 20) hill0 (fun _ => 0) 0 := TrAt.mono hf18_tr (fun k h8 h9 => by rw [ew_19, List.getElem?_set_ne (by omega)])
  have hf19_tx : TxAt w_19 (s + 25) [] 0 0 (fun _ => (4, 0, 0, 0)) := TxAt.mono hf18_tx (fun k h8 h9 => by rw [ew_19, List.getElem?_set_ne (by omega)])
  refine r_aload_n hC dX8_init_78 rfl (j := 0) rfl ?_
  refine n_new hC nX8_init_79 (fun _ => rfl) hw_19 (by rw [hl_19]; omega) (by omega) (by omega) ⟨(Or.inl (by omega)), trivial⟩ ⟨(Or.inl (by omega)), trivial⟩ (fun X hT => ?_)
  have hB := hB.tie hT (by rw [hl_19]; omega)
  clear hT
  obtain ⟨hC, hnl, hE, hR, hN, hNm⟩ := id hB
  obtain ⟨w_20, ew_20⟩ : ∃ z, z = w_19 ++ [(mO 1 [.null, .int 0, .int 0, .int 0])] := ⟨_, rfl⟩
  have hl_20 : w_20.length = (s + 41) := by rw [ew_20, List.length_append, hl_19]; rfl
  have hw_20 : mLowW w_20.length w_20 := by rw [hl_20, ew_20]; exact (mLowW.mono (by rw [hl_19]; omega) hw_19).app (mLowW.cons ⟨trivial, trivial, trivial, trivial, trivial⟩ mLowW.nil)
  have hf20_s : w_20[s]? = some (mO 9 [.ref (s + 1), .ref (s + 7), .ref (s + 13), .int 0, .ref (s + 19), .int 0, .int 0, .ref (s + 20), .ref (s + 25), .int (-1), .int (-1), .null]) := by rw [ew_20, List.getElem?_append_left (lt_of_get hf19_s)]; exact hf19_s
  have hf20_st1 : StAt w_20 (s + 1) sv0 := StAt.mono hf19_st1 (fun k h8 h9 => by rw [ew_20, List.getElem?_append_left (by rw [hl_19]; omega)])
  have hf20_st7 : StAt w_20 (s + 7) sv0 := StAt.mono hf19_st7 (fun k h8 h9 => by rw [ew_20, List.getElem?_append_left (by rw [hl_19]; omega)])
  have hf20_st13 : StAt w_20 (s + 13) sv0 := StAt.mono hf19_st13 (fun k h8 h9 => by rw [ew_20, List.getElem?_append_left (by rw [hl_19]; omega)])
  have hf20__s___19_ : w_20[(s + 19)]? = some (.inl (3, 8, .inr (.inr (.inr (.inr (fun _ => none)))))) := by rw [ew_20, List.getElem?_append_left (lt_of_get hf19__s___19_)]; exact hf19__s___19_
  have hf20_tr : TrAt w_20 (s + 20) hill0 (fun _ => 0) 0 := TrAt.mono hf19_tr (fun k h8 h9 => by rw [ew_20, List.getElem?_append_left (by rw [hl_19]; omega)])
  have hf20_tx : TxAt w_20 (s + 25) [] 0 0 (fun _ => (4, 0, 0, 0)) := TxAt.mono hf19_tx (fun k h8 h9 => by rw [ew_20, List.getElem?_append_left (by rw [hl_19]; omega)])
  have hf20__s___40_ : w_20[(s + 40)]? = some (mO 1 [.null, .int 0, .int 0, .int 0]) := by rw [ew_20, List.getElem?_append_right (by rw [hl_19]; exact Nat.le_refl _), hl_19, Nat.sub_self]; rfl
  rw [← ew_20, hl_19]
  show Wp X ((((((((((((0 + 1) + 5) + 1) + 5) + 1) + 5) + 1) + 1) + 4) + 1) + 15) + 1) ((((((((((((0 + 9) + 68) + 9) + 68) + 9) + 68) + 8) + 3) + 81) + 4) + 80) + 4) w_20 [(0, .ref s)] [.ref (s + 40), .ref s] _
  refine r_dup hC dX8_init_82 rfl ?_
  refine n_callI hC (vs := []) vX8_init_83 (st_init' (d := d + 1) (k := s + 40) hl_20 hf20__s___40_ hw_20 (by omega)) rfl (by omega) (by omega) (by omega) (Nat.le_of_ble_eq_true rfl) ⟨(Or.inl (by omega)), trivial⟩ ⟨(Or.inl (by omega)), (Or.inl (by omega)), trivial⟩ (fun v_21 w_21 X hT hP_21 hlen_21 => ?_)
  have hB := hB.tie hT (by rw [hl_20]; omega)
  clear hT
  obtain ⟨hC, hnl, hE, hR, hN, hNm⟩ := id hB
  obtain ⟨rfl, ⟨hl_21, hw_21, hk_21⟩, hP_21⟩ := hP_21
  rw [hl_20] at hl_21
  have hf21_s : w_21[s]? = some (mO 9 [.ref (s + 1), .ref (s + 7), .ref (s + 13), .int 0, .ref (s + 19), .int 0, .int 0, .ref (s + 20), .ref (s + 25), .int (-1), .int (-1), .null]) := by rw [hk_21 s (by omega)]; exact hf20_s
  have hf21_st1 : StAt w_21 (s + 1) sv0 := StAt.mono hf20_st1 (fun k h8 h9 => by rw [hk_21 k (by omega)])
  have hf21_st7 : StAt w_21 (s + 7) sv0 := StAt.mono hf20_st7 (fun k h8 h9 => by rw [hk_21 k (by omega)])
  have hf21_st13 : StAt w_21 (s + 13) sv0 := StAt.mono hf20_st13 (fun k h8 h9 => by rw [hk_21 k (by omega)])
  have hf21__s___19_ : w_21[(s + 19)]? = some (.inl (3, 8, .inr (.inr (.inr (.inr (fun _ => none)))))) := by rw [hk_21 (s + 19) (by omega)]; exact hf20__s___19_
  have hf21_tr : TrAt w_21 (s + 20) hill0 (fun _ => 0) 0 := TrAt.mono hf20_tr (fun k h8 h9 => by rw [hk_21 k (by omega)])
  have hf21_tx : TxAt w_21 (s + 25) [] 0 0 (fun _ => (4, 0, 0, 0)) := TxAt.mono hf20_tx (fun k h8 h9 => by rw [hk_21 k (by omega)])
  show Wp X (((((((((((((0 + 1) + 5) + 1) + 5) + 1) + 5) + 1) + 1) + 4) + 1) + 15) + 1) + 1) (((((((((((((0 + 9) + 68) + 9) + 68) + 9) + 68) + 8) + 3) + 81) + 4) + 80) + 4) + 16) w_21 [(0, .ref s)] [.ref (s + 40), .ref s] 86
  refine n_putI' hC hNm pX8_init_86 hf21_s (Nat.le_of_ble_eq_true rfl) (fun _ => rfl) (fun _ => rfl) (fun w_22 ew_22 => ?_)
  replace ew_22 : w_22 = (w_21).set (s) (mO 9 [.ref (s + 1), .ref (s + 7), .ref (s + 13), .int 0, .ref (s + 19), .int 0, .int 0, .ref (s + 20), .ref (s + 25), .int (-1), .int (-1), .ref (s + 40)]) := ew_22
  have hl_22 : w_22.length = (s + 41) := by rw [ew_22, List.length_set, hl_21]
  have hw_22 : mLowW w_22.length w_22 := by rw [hl_22, ew_22]; exact mLowW.set (by rw [← hl_21]; exact hw_21) ⟨(Or.inl (by omega)), (Or.inl (by omega)), (Or.inl (by omega)), trivial, (Or.inl (by omega)), trivial, trivial, (Or.inl (by omega)), (Or.inl (by omega)), trivial, trivial, (Or.inl (by omega)), trivial⟩
  have hf22_s : w_22[s]? = some (mO 9 [.ref (s + 1), .ref (s + 7), .ref (s + 13), .int 0, .ref (s + 19), .int 0, .int 0, .ref (s + 20), .ref (s + 25), .int (-1), .int (-1), .ref (s + 40)]) := by rw [ew_22]; exact List.getElem?_set_self (lt_of_get hf21_s)
  have hf22_st1 : StAt w_22 (s + 1) sv0 := StAt.mono hf21_st1 (fun k h8 h9 => by rw [ew_22, List.getElem?_set_ne (by omega)])
  have hf22_st7 : StAt w_22 (s + 7) sv0 := StAt.mono hf21_st7 (fun k h8 h9 => by rw [ew_22, List.getElem?_set_ne (by omega)])
  have hf22_st13 : StAt w_22 (s + 13) sv0 := StAt.mono hf21_st13 (fun k h8 h9 => by rw [ew_22, List.getElem?_set_ne (by omega)])
  have hf22__s___19_ : w_22[(s + 19)]? = some (.inl (3, 8, .inr (.inr (.inr (.inr (fun _ => none)))))) := by rw [ew_22, List.getElem?_set_ne (by omega)]; exact hf21__s___19_
  have hf22_tr : TrAt w_22 (s + 20) hill0 (fun _ => 0) 0 := TrAt.mono hf21_tr (fun k h8 h9 => by rw [ew_22, List.getElem?_set_ne (by omega)])
  have hf22_tx : TxAt w_22 (s + 25) [] 0 0 (fun _ => (4, 0, 0, 0)) := TxAt.mono hf21_tx (fun k h8 h9 => by rw [ew_22, List.getElem?_set_ne (by omega)])
  have hf22__s___40_ : w_22[(s + 40)]? = some (mT []) := by rw [ew_22, List.getElem?_set_ne (by omega)]; exact hP_21
  refine r_iconst hC dX8_init_89 (v := 0) (by decide) ?_
  refine r_istore_n hC dX8_init_90 rfl (by rw [hnl]; decide) (L' := [(1, .int 0), (0, .ref s)]) rfl ?_
  refine r_locals [1, 0] (L' := [(0, .ref s), (1, .int 0)]) rfl ?_
  exact hs_all (d := d) hl_0 hmax rfl 8 0 X w_22 _ _ rfl (by omega) (by omega) hB hl_22 hw_22 hf22_s (by rw [hsF_0]; exact hf22__s___19_) ⟨hf22_st1, hf22_st7, hf22_st13, hf22_tr, hf22_tx, hf22__s___40_, fun i hi => absurd hi (Nat.not_lt_zero i), fun k h9 => by rw [ew_22, List.getElem?_set_ne (by omega), hk_21 k (by omega), ew_20, List.getElem?_append_left (by rw [hl_19]; omega), ew_19, List.getElem?_set_ne (by omega), ew_18, List.getElem?_set_ne (by omega), ew_17, List.getElem?_set_ne (by omega), hk_16 k (by omega), ew_15, List.getElem?_append_left (by rw [hl_14]; omega), ew_14, List.getElem?_set_ne (by omega), hk_13 k (by omega), ew_12, List.getElem?_append_left (by rw [hl_11]; omega), ew_11, List.getElem?_set_ne (by omega), ew_10, List.getElem?_append_left (by rw [hl_9]; omega), ew_9, List.getElem?_set_ne (by omega), hk_8 k (by omega), ew_7, List.getElem?_append_left (by rw [hl_6]; omega), ew_6, List.getElem?_set_ne (by omega), hk_5 k (by omega), ew_4, List.getElem?_append_left (by rw [hl_3]; omega), ew_3, List.getElem?_set_ne (by omega), hk_2 k (by omega), ew_1, List.getElem?_append_left (by rw [hl_0]; omega)]⟩
/-- the first c of the words' letters; of the words' places -/
def wdP (c : Nat) : Nat → Int32 := fun j => if j < c then wdF j else 0
def waP (c : Nat) : Nat → Int32 := fun j => if j < c then waF j else 0
theorem pre_up {F : Nat → Int32} {c : Nat} {v : Int32} (h : v = F c) : upd (fun j => if j < c then F j else 0) c v = fun j => if j < c + 1 then F j else 0 := by
  funext j
  by_cases z : j = c
  · subst z
    rw [pk_us, if_pos (Nat.lt_succ_self j), h]
  · rw [pk_un z]
    by_cases q : j < c
    · rw [if_pos q, if_pos (by omega)]
    · rw [if_neg q, if_neg (by omega)]
theorem wdP_0 : wdP 0 = (fun _ => 0) := funext fun j => if_neg (Nat.not_lt_zero j)
theorem waP_0 : waP 0 = (fun _ => 0) := funext fun j => if_neg (Nat.not_lt_zero j)
theorem wdP_up {c : Nat} {v : Int32} (h : v = wdF c) : upd (wdP c) c v = wdP (c + 1) := pre_up h
theorem waP_up {c : Nat} {v : Int32} (h : v = waF c) : upd (waP c) c v = waP (c + 1) := pre_up h
theorem wdP_41 : ∀ j, j < 41 → wdF j = wdP 41 j := fun j hj => (if_pos hj).symm
theorem waP_9 : ∀ j, j < 9 → waF j = waP 9 j := fun j hj => (if_pos hj).symm
theorem enc0 : ∀ j, j < 67 → enc sv0 j = upd (fun _ => 0) 1 3 j := by decide +kernel
set_option maxRecDepth 100000 in
set_option maxHeartbeats 4000000 in
theorem cn_model {d : Nat} {w : mW} {s : Nat}  (hl_0 : w.length = s + 1) (hk : w[s]? = some (mO 10 [.int 0, .int 0, .int 0, .int 0, .int 0, .null, .null, .null, .null, .null, .null, .null, .null, .null, .null, .int 0, .int 0, .int 0, .int 0, .int 0, .int 0])) (hw_0 : mLowW w.length w) (hmax : s < 900000)  : SpN d yX9_init cX9_init 1 none [.ref s] w 10 962 (fun v w9 => v = none ∧ Gn w w9 s 10 ∧ MdAt w9 s 0 sv0 [] (-1) (-1) none (fun _ => 0) 0 (fun _ => 0) 0) := by
  refine SpN.of (by decide +kernel) (Nat.le_of_ble_eq_true rfl) (fun X hC hnl hE hR hN hNm => ?_)
  have hC : Cx X RX9 cX9_init d 10 962 := hC
  have hB := NB.mk hC hnl hE hR hN hNm
  show Wp X 0 0 w [(0, .ref s)] [] 0
  obtain ⟨hC, hnl, hE, hR, hN, hNm⟩ := id hB
  refine r_aload_n hC dX9_init_0 rfl (j := 0) rfl ?_
  refine r_objI hC oX9_init_1 (Nat.le_of_ble_eq_true rfl) ?_
  refine r_aload_n hC dX9_init_4 rfl (j := 0) rfl ?_
  refine r_iconst hC dX9_init_5 (v := (-1)) (by decide) ?_
  refine r_put' hC pX9_init_6 hk (Nat.le_of_ble_eq_true rfl) (fun _ => rfl) (fun _ => rfl) (fun w_1 ew_1 => ?_)
  replace ew_1 : w_1 = (w).set (s) (mO 10 [.int 0, .int 0, .int (-1), .int 0, .int 0, .null, .null, .null, .null, .null, .null, .null, .null, .null, .null, .int 0, .int 0, .int 0, .int 0, .int 0, .int 0]) := ew_1
  have hl_1 : w_1.length = (s + 1) := by rw [ew_1, List.length_set, hl_0]
  have hw_1 : mLowW w_1.length w_1 := by rw [hl_1, ew_1]; exact mLowW.set (by rw [← hl_0]; exact hw_0) ⟨trivial, trivial, trivial, trivial, trivial, trivial, trivial, trivial, trivial, trivial, trivial, trivial, trivial, trivial, trivial, trivial, trivial, trivial, trivial, trivial, trivial, trivial⟩
  have hf1_s : w_1[s]? = some (mO 10 [.int 0, .int 0, .int (-1), .int 0, .int 0, .null, .null, .null, .null, .null, .null, .null, .null, .null, .null, .int 0, .int 0, .int 0, .int 0, .int 0, .int 0]) := by rw [ew_1]; exact List.getElem?_set_self (lt_of_get hk)
  refine r_aload_n hC dX9_init_9 rfl (j := 0) rfl ?_
  refine r_iconst hC dX9_init_10 (v := (-1)) (by decide) ?_
  refine r_put' hC pX9_init_11 hf1_s (Nat.le_of_ble_eq_true rfl) (fun _ => rfl) (fun _ => rfl) (fun w_2 ew_2 => ?_)
  replace ew_2 : w_2 = (w_1).set (s) (mO 10 [.int 0, .int 0, .int (-1), .int (-1), .int 0, .null, .null, .null, .null, .null, .null, .null, .null, .null, .null, .int 0, .int 0, .int 0, .int 0, .int 0, .int 0]) := ew_2
  have hl_2 : w_2.length = (s + 1) := by rw [ew_2, List.length_set, hl_1]
  have hw_2 : mLowW w_2.length w_2 := by rw [hl_2, ew_2]; exact mLowW.set (by rw [← hl_1]; exact hw_1) ⟨trivial, trivial, trivial, trivial, trivial, trivial, trivial, trivial, trivial, trivial, trivial, trivial, trivial, trivial, trivial, trivial, trivial, trivial, trivial, trivial, trivial, trivial⟩
  have hf2_s : w_2[s]? = some (mO 10 [.int 0, .int 0, .int (-1), .int (-1), .int 0, .null, .null, .null, .null, .null, .null, .null, .null, .null, .null, .int 0, .int 0, .int 0, .int 0, .int 0, .int 0]) := by rw [ew_2]; exact List.getElem?_set_self (lt_of_get hf1_s)
  refine r_aload_n hC dX9_init_14 rfl (j := 0) rfl ?_
  refine r_bipush hC dX9_init_15 (v := 67) (by decide) ?_
  refine n_newa hC (atype := .int) (ty := .int) (t := 0) (N := 67) (a0 := (67, .inl (fun _ => 0))) ac_int rfl (fun _ => rfl) (fun _ => rfl) (fun _ => rfl) (by decide) (by decide) (by decide) dX9_init_17 hw_2 (by rw [hl_2]; omega) (by omega) (by omega) ⟨(Or.inl (by omega)), trivial⟩ ⟨(Or.inl (by omega)), trivial⟩ (fun X hT => ?_)
  have hB := hB.tie hT (by rw [hl_2]; omega)
  clear hT
  obtain ⟨hC, hnl, hE, hR, hN, hNm⟩ := id hB
  obtain ⟨w_3, ew_3⟩ : ∃ z, z = w_2 ++ [(mI 0 67 (fun _ => 0))] := ⟨_, rfl⟩
  have hl_3 : w_3.length = (s + 2) := by rw [ew_3, List.length_append, hl_2]; rfl
  have hw_3 : mLowW w_3.length w_3 := by rw [hl_3, ew_3]; exact (mLowW.mono (by rw [hl_2]; omega) hw_2).app (mLowW.cons trivial mLowW.nil)
  have hf3_s : w_3[s]? = some (mO 10 [.int 0, .int 0, .int (-1), .int (-1), .int 0, .null, .null, .null, .null, .null, .null, .null, .null, .null, .null, .int 0, .int 0, .int 0, .int 0, .int 0, .int 0]) := by rw [ew_3, List.getElem?_append_left (lt_of_get hf2_s)]; exact hf2_s
  have hf3__s___1_ : w_3[(s + 1)]? = some (mI 0 67 (fun _ => 0)) := by rw [ew_3, List.getElem?_append_right (by rw [hl_2]; exact Nat.le_refl _), hl_2, Nat.sub_self]; rfl
  rw [← ew_3, hl_2]
  show Wp X (0 + 1) (0 + 67) w_3 [(0, .ref s)] [.ref (s + 1), .ref s] _
  refine n_putI' hC hNm pX9_init_19 hf3_s (Nat.le_of_ble_eq_true rfl) (fun _ => rfl) (fun _ => rfl) (fun w_4 ew_4 => ?_)
  replace ew_4 : w_4 = (w_3).set (s) (mO 10 [.int 0, .int 0, .int (-1), .int (-1), .int 0, .ref (s + 1), .null, .null, .null, .null, .null, .null, .null, .null, .null, .int 0, .int 0, .int 0, .int 0, .int 0, .int 0]) := ew_4
  have hl_4 : w_4.length = (s + 2) := by rw [ew_4, List.length_set, hl_3]
  have hw_4 : mLowW w_4.length w_4 := by rw [hl_4, ew_4]; exact mLowW.set (by rw [← hl_3]; exact hw_3) ⟨trivial, trivial, trivial, trivial, trivial, (Or.inl (by omega)), trivial, trivial, trivial, trivial, trivial, trivial, trivial, trivial, trivial, trivial, trivial, trivial, trivial, trivial, trivial, trivial⟩
  have hf4_s : w_4[s]? = some (mO 10 [.int 0, .int 0, .int (-1), .int (-1), .int 0, .ref (s + 1), .null, .null, .null, .null, .null, .null, .null, .null, .null, .int 0, .int 0, .int 0, .int 0, .int 0, .int 0]) := by rw [ew_4]; exact List.getElem?_set_self (lt_of_get hf3_s)
  have hf4__s___1_ : w_4[(s + 1)]? = some (mI 0 67 (fun _ => 0)) := by rw [ew_4, List.getElem?_set_ne (by omega)]; exact hf3__s___1_
  refine r_aload_n hC dX9_init_22 rfl (j := 0) rfl ?_
  refine r_bipush hC dX9_init_23 (v := 67) (by decide) ?_
  refine n_newa hC (atype := .int) (ty := .int) (t := 0) (N := 67) (a0 := (67, .inl (fun _ => 0))) ac_int rfl (fun _ => rfl) (fun _ => rfl) (fun _ => rfl) (by decide) (by decide) (by decide) dX9_init_25 hw_4 (by rw [hl_4]; omega) (by omega) (by omega) ⟨(Or.inl (by omega)), trivial⟩ ⟨(Or.inl (by omega)), trivial⟩ (fun X hT => ?_)
  have hB := hB.tie hT (by rw [hl_4]; omega)
  clear hT
  obtain ⟨hC, hnl, hE, hR, hN, hNm⟩ := id hB
  obtain ⟨w_5, ew_5⟩ : ∃ z, z = w_4 ++ [(mI 0 67 (fun _ => 0))] := ⟨_, rfl⟩
  have hl_5 : w_5.length = (s + 3) := by rw [ew_5, List.length_append, hl_4]; rfl
  have hw_5 : mLowW w_5.length w_5 := by rw [hl_5, ew_5]; exact (mLowW.mono (by rw [hl_4]; omega) hw_4).app (mLowW.cons trivial mLowW.nil)
  have hf5_s : w_5[s]? = some (mO 10 [.int 0, .int 0, .int (-1), .int (-1), .int 0, .ref (s + 1), .null, .null, .null, .null, .null, .null, .null, .null, .null, .int 0, .int 0, .int 0, .int 0, .int 0, .int 0]) := by rw [ew_5, List.getElem?_append_left (lt_of_get hf4_s)]; exact hf4_s
  have hf5__s___1_ : w_5[(s + 1)]? = some (mI 0 67 (fun _ => 0)) := by rw [ew_5, List.getElem?_append_left (lt_of_get hf4__s___1_)]; exact hf4__s___1_
  have hf5__s___2_ : w_5[(s + 2)]? = some (mI 0 67 (fun _ => 0)) := by rw [ew_5, List.getElem?_append_right (by rw [hl_4]; exact Nat.le_refl _), hl_4, Nat.sub_self]; rfl
  rw [← ew_5, hl_4]
  show Wp X ((0 + 1) + 1) ((0 + 67) + 67) w_5 [(0, .ref s)] [.ref (s + 2), .ref s] _
  refine n_putI' hC hNm pX9_init_27 hf5_s (Nat.le_of_ble_eq_true rfl) (fun _ => rfl) (fun _ => rfl) (fun w_6 ew_6 => ?_)
  replace ew_6 : w_6 = (w_5).set (s) (mO 10 [.int 0, .int 0, .int (-1), .int (-1), .int 0, .ref (s + 1), .ref (s + 2), .null, .null, .null, .null, .null, .null, .null, .null, .int 0, .int 0, .int 0, .int 0, .int 0, .int 0]) := ew_6
  have hl_6 : w_6.length = (s + 3) := by rw [ew_6, List.length_set, hl_5]
  have hw_6 : mLowW w_6.length w_6 := by rw [hl_6, ew_6]; exact mLowW.set (by rw [← hl_5]; exact hw_5) ⟨trivial, trivial, trivial, trivial, trivial, (Or.inl (by omega)), (Or.inl (by omega)), trivial, trivial, trivial, trivial, trivial, trivial, trivial, trivial, trivial, trivial, trivial, trivial, trivial, trivial, trivial⟩
  have hf6_s : w_6[s]? = some (mO 10 [.int 0, .int 0, .int (-1), .int (-1), .int 0, .ref (s + 1), .ref (s + 2), .null, .null, .null, .null, .null, .null, .null, .null, .int 0, .int 0, .int 0, .int 0, .int 0, .int 0]) := by rw [ew_6]; exact List.getElem?_set_self (lt_of_get hf5_s)
  have hf6__s___1_ : w_6[(s + 1)]? = some (mI 0 67 (fun _ => 0)) := by rw [ew_6, List.getElem?_set_ne (by omega)]; exact hf5__s___1_
  have hf6__s___2_ : w_6[(s + 2)]? = some (mI 0 67 (fun _ => 0)) := by rw [ew_6, List.getElem?_set_ne (by omega)]; exact hf5__s___2_
  refine r_aload_n hC dX9_init_30 rfl (j := 0) rfl ?_
  refine r_bipush hC dX9_init_31 (v := 67) (by decide) ?_
  refine n_newa hC (atype := .int) (ty := .int) (t := 0) (N := 67) (a0 := (67, .inl (fun _ => 0))) ac_int rfl (fun _ => rfl) (fun _ => rfl) (fun _ => rfl) (by decide) (by decide) (by decide) dX9_init_33 hw_6 (by rw [hl_6]; omega) (by omega) (by omega) ⟨(Or.inl (by omega)), trivial⟩ ⟨(Or.inl (by omega)), trivial⟩ (fun X hT => ?_)
  have hB := hB.tie hT (by rw [hl_6]; omega)
  clear hT
  obtain ⟨hC, hnl, hE, hR, hN, hNm⟩ := id hB
  obtain ⟨w_7, ew_7⟩ : ∃ z, z = w_6 ++ [(mI 0 67 (fun _ => 0))] := ⟨_, rfl⟩
  have hl_7 : w_7.length = (s + 4) := by rw [ew_7, List.length_append, hl_6]; rfl
  have hw_7 : mLowW w_7.length w_7 := by rw [hl_7, ew_7]; exact (mLowW.mono (by rw [hl_6]; omega) hw_6).app (mLowW.cons trivial mLowW.nil)
  have hf7_s : w_7[s]? = some (mO 10 [.int 0, .int 0, .int (-1), .int (-1), .int 0, .ref (s + 1), .ref (s + 2), .null, .null, .null, .null, .null, .null, .null, .null, .int 0, .int 0, .int 0, .int 0, .int 0, .int 0]) := by rw [ew_7, List.getElem?_append_left (lt_of_get hf6_s)]; exact hf6_s
  have hf7__s___1_ : w_7[(s + 1)]? = some (mI 0 67 (fun _ => 0)) := by rw [ew_7, List.getElem?_append_left (lt_of_get hf6__s___1_)]; exact hf6__s___1_
  have hf7__s___2_ : w_7[(s + 2)]? = some (mI 0 67 (fun _ => 0)) := by rw [ew_7, List.getElem?_append_left (lt_of_get hf6__s___2_)]; exact hf6__s___2_
  have hf7__s___3_ : w_7[(s + 3)]? = some (mI 0 67 (fun _ => 0)) := by rw [ew_7, List.getElem?_append_right (by rw [hl_6]; exact Nat.le_refl _), hl_6, Nat.sub_self]; rfl
  rw [← ew_7, hl_6]
  show Wp X (((0 + 1) + 1) + 1) (((0 + 67) + 67) + 67) w_7 [(0, .ref s)] [.ref (s + 3), .ref s] _
  refine n_putI' hC hNm pX9_init_35 hf7_s (Nat.le_of_ble_eq_true rfl) (fun _ => rfl) (fun _ => rfl) (fun w_8 ew_8 => ?_)
  replace ew_8 : w_8 = (w_7).set (s) (mO 10 [.int 0, .int 0, .int (-1), .int (-1), .int 0, .ref (s + 1), .ref (s + 2), .ref (s + 3), .null, .null, .null, .null, .null, .null, .null, .int 0, .int 0, .int 0, .int 0, .int 0, .int 0]) := ew_8
  have hl_8 : w_8.length = (s + 4) := by rw [ew_8, List.length_set, hl_7]
  have hw_8 : mLowW w_8.length w_8 := by rw [hl_8, ew_8]; exact mLowW.set (by rw [← hl_7]; exact hw_7) ⟨trivial, trivial, trivial, trivial, trivial, (Or.inl (by omega)), (Or.inl (by omega)), (Or.inl (by omega)), trivial, trivial, trivial, trivial, trivial, trivial, trivial, trivial, trivial, trivial, trivial, trivial, trivial, trivial⟩
  have hf8_s : w_8[s]? = some (mO 10 [.int 0, .int 0, .int (-1), .int (-1), .int 0, .ref (s + 1), .ref (s + 2), .ref (s + 3), .null, .null, .null, .null, .null, .null, .null, .int 0, .int 0, .int 0, .int 0, .int 0, .int 0]) := by rw [ew_8]; exact List.getElem?_set_self (lt_of_get hf7_s)
  have hf8__s___1_ : w_8[(s + 1)]? = some (mI 0 67 (fun _ => 0)) := by rw [ew_8, List.getElem?_set_ne (by omega)]; exact hf7__s___1_
  have hf8__s___2_ : w_8[(s + 2)]? = some (mI 0 67 (fun _ => 0)) := by rw [ew_8, List.getElem?_set_ne (by omega)]; exact hf7__s___2_
  have hf8__s___3_ : w_8[(s + 3)]? = some (mI 0 67 (fun _ => 0)) := by rw [ew_8, List.getElem?_set_ne (by omega)]; exact hf7__s___3_
  refine r_aload_n hC dX9_init_38 rfl (j := 0) rfl ?_
  refine r_bipush hC dX9_init_39 (v := 67) (by decide) ?_
  refine n_newa hC (atype := .int) (ty := .int) (t := 0) (N := 67) (a0 := (67, .inl (fun _ => 0))) ac_int rfl (fun _ => rfl) (fun _ => rfl) (fun _ => rfl) (by decide) (by decide) (by decide) dX9_init_41 hw_8 (by rw [hl_8]; omega) (by omega) (by omega) ⟨(Or.inl (by omega)), trivial⟩ ⟨(Or.inl (by omega)), trivial⟩ (fun X hT => ?_)
  have hB := hB.tie hT (by rw [hl_8]; omega)
  clear hT
  obtain ⟨hC, hnl, hE, hR, hN, hNm⟩ := id hB
  obtain ⟨w_9, ew_9⟩ : ∃ z, z = w_8 ++ [(mI 0 67 (fun _ => 0))] := ⟨_, rfl⟩
  have hl_9 : w_9.length = (s + 5) := by rw [ew_9, List.length_append, hl_8]; rfl
  have hw_9 : mLowW w_9.length w_9 := by rw [hl_9, ew_9]; exact (mLowW.mono (by rw [hl_8]; omega) hw_8).app (mLowW.cons trivial mLowW.nil)
  have hf9_s : w_9[s]? = some (mO 10 [.int 0, .int 0, .int (-1), .int (-1), .int 0, .ref (s + 1), .ref (s + 2), .ref (s + 3), .null, .null, .null, .null, .null, .null, .null, .int 0, .int 0, .int 0, .int 0, .int 0, .int 0]) := by rw [ew_9, List.getElem?_append_left (lt_of_get hf8_s)]; exact hf8_s
  have hf9__s___1_ : w_9[(s + 1)]? = some (mI 0 67 (fun _ => 0)) := by rw [ew_9, List.getElem?_append_left (lt_of_get hf8__s___1_)]; exact hf8__s___1_
  have hf9__s___2_ : w_9[(s + 2)]? = some (mI 0 67 (fun _ => 0)) := by rw [ew_9, List.getElem?_append_left (lt_of_get hf8__s___2_)]; exact hf8__s___2_
  have hf9__s___3_ : w_9[(s + 3)]? = some (mI 0 67 (fun _ => 0)) := by rw [ew_9, List.getElem?_append_left (lt_of_get hf8__s___3_)]; exact hf8__s___3_
  have hf9__s___4_ : w_9[(s + 4)]? = some (mI 0 67 (fun _ => 0)) := by rw [ew_9, List.getElem?_append_right (by rw [hl_8]; exact Nat.le_refl _), hl_8, Nat.sub_self]; rfl
  rw [← ew_9, hl_8]
  show Wp X ((((0 + 1) + 1) + 1) + 1) ((((0 + 67) + 67) + 67) + 67) w_9 [(0, .ref s)] [.ref (s + 4), .ref s] _
  refine n_putI' hC hNm pX9_init_43 hf9_s (Nat.le_of_ble_eq_true rfl) (fun _ => rfl) (fun _ => rfl) (fun w_10 ew_10 => ?_)
  replace ew_10 : w_10 = (w_9).set (s) (mO 10 [.int 0, .int 0, .int (-1), .int (-1), .int 0, .ref (s + 1), .ref (s + 2), .ref (s + 3), .ref (s + 4), .null, .null, .null, .null, .null, .null, .int 0, .int 0, .int 0, .int 0, .int 0, .int 0]) := ew_10
  have hl_10 : w_10.length = (s + 5) := by rw [ew_10, List.length_set, hl_9]
  have hw_10 : mLowW w_10.length w_10 := by rw [hl_10, ew_10]; exact mLowW.set (by rw [← hl_9]; exact hw_9) ⟨trivial, trivial, trivial, trivial, trivial, (Or.inl (by omega)), (Or.inl (by omega)), (Or.inl (by omega)), (Or.inl (by omega)), trivial, trivial, trivial, trivial, trivial, trivial, trivial, trivial, trivial, trivial, trivial, trivial, trivial⟩
  have hf10_s : w_10[s]? = some (mO 10 [.int 0, .int 0, .int (-1), .int (-1), .int 0, .ref (s + 1), .ref (s + 2), .ref (s + 3), .ref (s + 4), .null, .null, .null, .null, .null, .null, .int 0, .int 0, .int 0, .int 0, .int 0, .int 0]) := by rw [ew_10]; exact List.getElem?_set_self (lt_of_get hf9_s)
  have hf10__s___1_ : w_10[(s + 1)]? = some (mI 0 67 (fun _ => 0)) := by rw [ew_10, List.getElem?_set_ne (by omega)]; exact hf9__s___1_
  have hf10__s___2_ : w_10[(s + 2)]? = some (mI 0 67 (fun _ => 0)) := by rw [ew_10, List.getElem?_set_ne (by omega)]; exact hf9__s___2_
  have hf10__s___3_ : w_10[(s + 3)]? = some (mI 0 67 (fun _ => 0)) := by rw [ew_10, List.getElem?_set_ne (by omega)]; exact hf9__s___3_
  have hf10__s___4_ : w_10[(s + 4)]? = some (mI 0 67 (fun _ => 0)) := by rw [ew_10, List.getElem?_set_ne (by omega)]; exact hf9__s___4_
  refine r_aload_n hC dX9_init_46 rfl (j := 0) rfl ?_
  refine r_sipush hC dX9_init_47 (v := 536) (by decide) ?_
  refine n_newa hC (atype := .int) (ty := .int) (t := 0) (N := 536) (a0 := (536, .inl (fun _ => 0))) ac_int rfl (fun _ => rfl) (fun _ => rfl) (fun _ => rfl) (by decide) (by decide) (by decide) dX9_init_50 hw_10 (by rw [hl_10]; omega) (by omega) (by omega) ⟨(Or.inl (by omega)), trivial⟩ ⟨(Or.inl (by omega)), trivial⟩ (fun X hT => ?_)
  have hB := hB.tie hT (by rw [hl_10]; omega)
  clear hT
  obtain ⟨hC, hnl, hE, hR, hN, hNm⟩ := id hB
  obtain ⟨w_11, ew_11⟩ : ∃ z, z = w_10 ++ [(mI 0 536 (fun _ => 0))] := ⟨_, rfl⟩
  have hl_11 : w_11.length = (s + 6) := by rw [ew_11, List.length_append, hl_10]; rfl
  have hw_11 : mLowW w_11.length w_11 := by rw [hl_11, ew_11]; exact (mLowW.mono (by rw [hl_10]; omega) hw_10).app (mLowW.cons trivial mLowW.nil)
  have hf11_s : w_11[s]? = some (mO 10 [.int 0, .int 0, .int (-1), .int (-1), .int 0, .ref (s + 1), .ref (s + 2), .ref (s + 3), .ref (s + 4), .null, .null, .null, .null, .null, .null, .int 0, .int 0, .int 0, .int 0, .int 0, .int 0]) := by rw [ew_11, List.getElem?_append_left (lt_of_get hf10_s)]; exact hf10_s
  have hf11__s___1_ : w_11[(s + 1)]? = some (mI 0 67 (fun _ => 0)) := by rw [ew_11, List.getElem?_append_left (lt_of_get hf10__s___1_)]; exact hf10__s___1_
  have hf11__s___2_ : w_11[(s + 2)]? = some (mI 0 67 (fun _ => 0)) := by rw [ew_11, List.getElem?_append_left (lt_of_get hf10__s___2_)]; exact hf10__s___2_
  have hf11__s___3_ : w_11[(s + 3)]? = some (mI 0 67 (fun _ => 0)) := by rw [ew_11, List.getElem?_append_left (lt_of_get hf10__s___3_)]; exact hf10__s___3_
  have hf11__s___4_ : w_11[(s + 4)]? = some (mI 0 67 (fun _ => 0)) := by rw [ew_11, List.getElem?_append_left (lt_of_get hf10__s___4_)]; exact hf10__s___4_
  have hf11__s___5_ : w_11[(s + 5)]? = some (mI 0 536 (fun _ => 0)) := by rw [ew_11, List.getElem?_append_right (by rw [hl_10]; exact Nat.le_refl _), hl_10, Nat.sub_self]; rfl
  rw [← ew_11, hl_10]
  show Wp X (((((0 + 1) + 1) + 1) + 1) + 1) (((((0 + 67) + 67) + 67) + 67) + 536) w_11 [(0, .ref s)] [.ref (s + 5), .ref s] _
  refine n_putI' hC hNm pX9_init_52 hf11_s (Nat.le_of_ble_eq_true rfl) (fun _ => rfl) (fun _ => rfl) (fun w_12 ew_12 => ?_)
  replace ew_12 : w_12 = (w_11).set (s) (mO 10 [.int 0, .int 0, .int (-1), .int (-1), .int 0, .ref (s + 1), .ref (s + 2), .ref (s + 3), .ref (s + 4), .ref (s + 5), .null, .null, .null, .null, .null, .int 0, .int 0, .int 0, .int 0, .int 0, .int 0]) := ew_12
  have hl_12 : w_12.length = (s + 6) := by rw [ew_12, List.length_set, hl_11]
  have hw_12 : mLowW w_12.length w_12 := by rw [hl_12, ew_12]; exact mLowW.set (by rw [← hl_11]; exact hw_11) ⟨trivial, trivial, trivial, trivial, trivial, (Or.inl (by omega)), (Or.inl (by omega)), (Or.inl (by omega)), (Or.inl (by omega)), (Or.inl (by omega)), trivial, trivial, trivial, trivial, trivial, trivial, trivial, trivial, trivial, trivial, trivial, trivial⟩
  have hf12_s : w_12[s]? = some (mO 10 [.int 0, .int 0, .int (-1), .int (-1), .int 0, .ref (s + 1), .ref (s + 2), .ref (s + 3), .ref (s + 4), .ref (s + 5), .null, .null, .null, .null, .null, .int 0, .int 0, .int 0, .int 0, .int 0, .int 0]) := by rw [ew_12]; exact List.getElem?_set_self (lt_of_get hf11_s)
  have hf12__s___1_ : w_12[(s + 1)]? = some (mI 0 67 (fun _ => 0)) := by rw [ew_12, List.getElem?_set_ne (by omega)]; exact hf11__s___1_
  have hf12__s___2_ : w_12[(s + 2)]? = some (mI 0 67 (fun _ => 0)) := by rw [ew_12, List.getElem?_set_ne (by omega)]; exact hf11__s___2_
  have hf12__s___3_ : w_12[(s + 3)]? = some (mI 0 67 (fun _ => 0)) := by rw [ew_12, List.getElem?_set_ne (by omega)]; exact hf11__s___3_
  have hf12__s___4_ : w_12[(s + 4)]? = some (mI 0 67 (fun _ => 0)) := by rw [ew_12, List.getElem?_set_ne (by omega)]; exact hf11__s___4_
  have hf12__s___5_ : w_12[(s + 5)]? = some (mI 0 536 (fun _ => 0)) := by rw [ew_12, List.getElem?_set_ne (by omega)]; exact hf11__s___5_
  refine r_aload_n hC dX9_init_55 rfl (j := 0) rfl ?_
  refine r_bipush hC dX9_init_56 (v := 60) (by decide) ?_
  refine n_newa hC (atype := .int) (ty := .int) (t := 0) (N := 60) (a0 := (60, .inl (fun _ => 0))) ac_int rfl (fun _ => rfl) (fun _ => rfl) (fun _ => rfl) (by decide) (by decide) (by decide) dX9_init_58 hw_12 (by rw [hl_12]; omega) (by omega) (by omega) ⟨(Or.inl (by omega)), trivial⟩ ⟨(Or.inl (by omega)), trivial⟩ (fun X hT => ?_)
  have hB := hB.tie hT (by rw [hl_12]; omega)
  clear hT
  obtain ⟨hC, hnl, hE, hR, hN, hNm⟩ := id hB
  obtain ⟨w_13, ew_13⟩ : ∃ z, z = w_12 ++ [(mI 0 60 (fun _ => 0))] := ⟨_, rfl⟩
  have hl_13 : w_13.length = (s + 7) := by rw [ew_13, List.length_append, hl_12]; rfl
  have hw_13 : mLowW w_13.length w_13 := by rw [hl_13, ew_13]; exact (mLowW.mono (by rw [hl_12]; omega) hw_12).app (mLowW.cons trivial mLowW.nil)
  have hf13_s : w_13[s]? = some (mO 10 [.int 0, .int 0, .int (-1), .int (-1), .int 0, .ref (s + 1), .ref (s + 2), .ref (s + 3), .ref (s + 4), .ref (s + 5), .null, .null, .null, .null, .null, .int 0, .int 0, .int 0, .int 0, .int 0, .int 0]) := by rw [ew_13, List.getElem?_append_left (lt_of_get hf12_s)]; exact hf12_s
  have hf13__s___1_ : w_13[(s + 1)]? = some (mI 0 67 (fun _ => 0)) := by rw [ew_13, List.getElem?_append_left (lt_of_get hf12__s___1_)]; exact hf12__s___1_
  have hf13__s___2_ : w_13[(s + 2)]? = some (mI 0 67 (fun _ => 0)) := by rw [ew_13, List.getElem?_append_left (lt_of_get hf12__s___2_)]; exact hf12__s___2_
  have hf13__s___3_ : w_13[(s + 3)]? = some (mI 0 67 (fun _ => 0)) := by rw [ew_13, List.getElem?_append_left (lt_of_get hf12__s___3_)]; exact hf12__s___3_
  have hf13__s___4_ : w_13[(s + 4)]? = some (mI 0 67 (fun _ => 0)) := by rw [ew_13, List.getElem?_append_left (lt_of_get hf12__s___4_)]; exact hf12__s___4_
  have hf13__s___5_ : w_13[(s + 5)]? = some (mI 0 536 (fun _ => 0)) := by rw [ew_13, List.getElem?_append_left (lt_of_get hf12__s___5_)]; exact hf12__s___5_
  have hf13__s___6_ : w_13[(s + 6)]? = some (mI 0 60 (fun _ => 0)) := by rw [ew_13, List.getElem?_append_right (by rw [hl_12]; exact Nat.le_refl _), hl_12, Nat.sub_self]; rfl
  rw [← ew_13, hl_12]
  show Wp X ((((((0 + 1) + 1) + 1) + 1) + 1) + 1) ((((((0 + 67) + 67) + 67) + 67) + 536) + 60) w_13 [(0, .ref s)] [.ref (s + 6), .ref s] _
  refine n_putI' hC hNm pX9_init_60 hf13_s (Nat.le_of_ble_eq_true rfl) (fun _ => rfl) (fun _ => rfl) (fun w_14 ew_14 => ?_)
  replace ew_14 : w_14 = (w_13).set (s) (mO 10 [.int 0, .int 0, .int (-1), .int (-1), .int 0, .ref (s + 1), .ref (s + 2), .ref (s + 3), .ref (s + 4), .ref (s + 5), .ref (s + 6), .null, .null, .null, .null, .int 0, .int 0, .int 0, .int 0, .int 0, .int 0]) := ew_14
  have hl_14 : w_14.length = (s + 7) := by rw [ew_14, List.length_set, hl_13]
  have hw_14 : mLowW w_14.length w_14 := by rw [hl_14, ew_14]; exact mLowW.set (by rw [← hl_13]; exact hw_13) ⟨trivial, trivial, trivial, trivial, trivial, (Or.inl (by omega)), (Or.inl (by omega)), (Or.inl (by omega)), (Or.inl (by omega)), (Or.inl (by omega)), (Or.inl (by omega)), trivial, trivial, trivial, trivial, trivial, trivial, trivial, trivial, trivial, trivial, trivial⟩
  have hf14_s : w_14[s]? = some (mO 10 [.int 0, .int 0, .int (-1), .int (-1), .int 0, .ref (s + 1), .ref (s + 2), .ref (s + 3), .ref (s + 4), .ref (s + 5), .ref (s + 6), .null, .null, .null, .null, .int 0, .int 0, .int 0, .int 0, .int 0, .int 0]) := by rw [ew_14]; exact List.getElem?_set_self (lt_of_get hf13_s)
  have hf14__s___1_ : w_14[(s + 1)]? = some (mI 0 67 (fun _ => 0)) := by rw [ew_14, List.getElem?_set_ne (by omega)]; exact hf13__s___1_
  have hf14__s___2_ : w_14[(s + 2)]? = some (mI 0 67 (fun _ => 0)) := by rw [ew_14, List.getElem?_set_ne (by omega)]; exact hf13__s___2_
  have hf14__s___3_ : w_14[(s + 3)]? = some (mI 0 67 (fun _ => 0)) := by rw [ew_14, List.getElem?_set_ne (by omega)]; exact hf13__s___3_
  have hf14__s___4_ : w_14[(s + 4)]? = some (mI 0 67 (fun _ => 0)) := by rw [ew_14, List.getElem?_set_ne (by omega)]; exact hf13__s___4_
  have hf14__s___5_ : w_14[(s + 5)]? = some (mI 0 536 (fun _ => 0)) := by rw [ew_14, List.getElem?_set_ne (by omega)]; exact hf13__s___5_
  have hf14__s___6_ : w_14[(s + 6)]? = some (mI 0 60 (fun _ => 0)) := by rw [ew_14, List.getElem?_set_ne (by omega)]; exact hf13__s___6_
  refine r_aload_n hC dX9_init_63 rfl (j := 0) rfl ?_
  refine r_bipush hC dX9_init_64 (v := 40) (by decide) ?_
  refine n_newa hC (atype := .int) (ty := .int) (t := 0) (N := 40) (a0 := (40, .inl (fun _ => 0))) ac_int rfl (fun _ => rfl) (fun _ => rfl) (fun _ => rfl) (by decide) (by decide) (by decide) dX9_init_66 hw_14 (by rw [hl_14]; omega) (by omega) (by omega) ⟨(Or.inl (by omega)), trivial⟩ ⟨(Or.inl (by omega)), trivial⟩ (fun X hT => ?_)
  have hB := hB.tie hT (by rw [hl_14]; omega)
  clear hT
  obtain ⟨hC, hnl, hE, hR, hN, hNm⟩ := id hB
  obtain ⟨w_15, ew_15⟩ : ∃ z, z = w_14 ++ [(mI 0 40 (fun _ => 0))] := ⟨_, rfl⟩
  have hl_15 : w_15.length = (s + 8) := by rw [ew_15, List.length_append, hl_14]; rfl
  have hw_15 : mLowW w_15.length w_15 := by rw [hl_15, ew_15]; exact (mLowW.mono (by rw [hl_14]; omega) hw_14).app (mLowW.cons trivial mLowW.nil)
  have hf15_s : w_15[s]? = some (mO 10 [.int 0, .int 0, .int (-1), .int (-1), .int 0, .ref (s + 1), .ref (s + 2), .ref (s + 3), .ref (s + 4), .ref (s + 5), .ref (s + 6), .null, .null, .null, .null, .int 0, .int 0, .int 0, .int 0, .int 0, .int 0]) := by rw [ew_15, List.getElem?_append_left (lt_of_get hf14_s)]; exact hf14_s
  have hf15__s___1_ : w_15[(s + 1)]? = some (mI 0 67 (fun _ => 0)) := by rw [ew_15, List.getElem?_append_left (lt_of_get hf14__s___1_)]; exact hf14__s___1_
  have hf15__s___2_ : w_15[(s + 2)]? = some (mI 0 67 (fun _ => 0)) := by rw [ew_15, List.getElem?_append_left (lt_of_get hf14__s___2_)]; exact hf14__s___2_
  have hf15__s___3_ : w_15[(s + 3)]? = some (mI 0 67 (fun _ => 0)) := by rw [ew_15, List.getElem?_append_left (lt_of_get hf14__s___3_)]; exact hf14__s___3_
  have hf15__s___4_ : w_15[(s + 4)]? = some (mI 0 67 (fun _ => 0)) := by rw [ew_15, List.getElem?_append_left (lt_of_get hf14__s___4_)]; exact hf14__s___4_
  have hf15__s___5_ : w_15[(s + 5)]? = some (mI 0 536 (fun _ => 0)) := by rw [ew_15, List.getElem?_append_left (lt_of_get hf14__s___5_)]; exact hf14__s___5_
  have hf15__s___6_ : w_15[(s + 6)]? = some (mI 0 60 (fun _ => 0)) := by rw [ew_15, List.getElem?_append_left (lt_of_get hf14__s___6_)]; exact hf14__s___6_
  have hf15__s___7_ : w_15[(s + 7)]? = some (mI 0 40 (fun _ => 0)) := by rw [ew_15, List.getElem?_append_right (by rw [hl_14]; exact Nat.le_refl _), hl_14, Nat.sub_self]; rfl
  rw [← ew_15, hl_14]
  show Wp X (((((((0 + 1) + 1) + 1) + 1) + 1) + 1) + 1) (((((((0 + 67) + 67) + 67) + 67) + 536) + 60) + 40) w_15 [(0, .ref s)] [.ref (s + 7), .ref s] _
  refine n_putI' hC hNm pX9_init_68 hf15_s (Nat.le_of_ble_eq_true rfl) (fun _ => rfl) (fun _ => rfl) (fun w_16 ew_16 => ?_)
  replace ew_16 : w_16 = (w_15).set (s) (mO 10 [.int 0, .int 0, .int (-1), .int (-1), .int 0, .ref (s + 1), .ref (s + 2), .ref (s + 3), .ref (s + 4), .ref (s + 5), .ref (s + 6), .ref (s + 7), .null, .null, .null, .int 0, .int 0, .int 0, .int 0, .int 0, .int 0]) := ew_16
  have hl_16 : w_16.length = (s + 8) := by rw [ew_16, List.length_set, hl_15]
  have hw_16 : mLowW w_16.length w_16 := by rw [hl_16, ew_16]; exact mLowW.set (by rw [← hl_15]; exact hw_15) ⟨trivial, trivial, trivial, trivial, trivial, (Or.inl (by omega)), (Or.inl (by omega)), (Or.inl (by omega)), (Or.inl (by omega)), (Or.inl (by omega)), (Or.inl (by omega)), (Or.inl (by omega)), trivial, trivial, trivial, trivial, trivial, trivial, trivial, trivial, trivial, trivial⟩
  have hf16_s : w_16[s]? = some (mO 10 [.int 0, .int 0, .int (-1), .int (-1), .int 0, .ref (s + 1), .ref (s + 2), .ref (s + 3), .ref (s + 4), .ref (s + 5), .ref (s + 6), .ref (s + 7), .null, .null, .null, .int 0, .int 0, .int 0, .int 0, .int 0, .int 0]) := by rw [ew_16]; exact List.getElem?_set_self (lt_of_get hf15_s)
  have hf16__s___1_ : w_16[(s + 1)]? = some (mI 0 67 (fun _ => 0)) := by rw [ew_16, List.getElem?_set_ne (by omega)]; exact hf15__s___1_
  have hf16__s___2_ : w_16[(s + 2)]? = some (mI 0 67 (fun _ => 0)) := by rw [ew_16, List.getElem?_set_ne (by omega)]; exact hf15__s___2_
  have hf16__s___3_ : w_16[(s + 3)]? = some (mI 0 67 (fun _ => 0)) := by rw [ew_16, List.getElem?_set_ne (by omega)]; exact hf15__s___3_
  have hf16__s___4_ : w_16[(s + 4)]? = some (mI 0 67 (fun _ => 0)) := by rw [ew_16, List.getElem?_set_ne (by omega)]; exact hf15__s___4_
  have hf16__s___5_ : w_16[(s + 5)]? = some (mI 0 536 (fun _ => 0)) := by rw [ew_16, List.getElem?_set_ne (by omega)]; exact hf15__s___5_
  have hf16__s___6_ : w_16[(s + 6)]? = some (mI 0 60 (fun _ => 0)) := by rw [ew_16, List.getElem?_set_ne (by omega)]; exact hf15__s___6_
  have hf16__s___7_ : w_16[(s + 7)]? = some (mI 0 40 (fun _ => 0)) := by rw [ew_16, List.getElem?_set_ne (by omega)]; exact hf15__s___7_
  refine r_aload_n hC dX9_init_71 rfl (j := 0) rfl ?_
  refine r_bipush hC dX9_init_72 (v := 8) (by decide) ?_
  refine n_newa hC (atype := .int) (ty := .int) (t := 0) (N := 8) (a0 := (8, .inl (fun _ => 0))) ac_int rfl (fun _ => rfl) (fun _ => rfl) (fun _ => rfl) (by decide) (by decide) (by decide) dX9_init_74 hw_16 (by rw [hl_16]; omega) (by omega) (by omega) ⟨(Or.inl (by omega)), trivial⟩ ⟨(Or.inl (by omega)), trivial⟩ (fun X hT => ?_)
  have hB := hB.tie hT (by rw [hl_16]; omega)
  clear hT
  obtain ⟨hC, hnl, hE, hR, hN, hNm⟩ := id hB
  obtain ⟨w_17, ew_17⟩ : ∃ z, z = w_16 ++ [(mI 0 8 (fun _ => 0))] := ⟨_, rfl⟩
  have hl_17 : w_17.length = (s + 9) := by rw [ew_17, List.length_append, hl_16]; rfl
  have hw_17 : mLowW w_17.length w_17 := by rw [hl_17, ew_17]; exact (mLowW.mono (by rw [hl_16]; omega) hw_16).app (mLowW.cons trivial mLowW.nil)
  have hf17_s : w_17[s]? = some (mO 10 [.int 0, .int 0, .int (-1), .int (-1), .int 0, .ref (s + 1), .ref (s + 2), .ref (s + 3), .ref (s + 4), .ref (s + 5), .ref (s + 6), .ref (s + 7), .null, .null, .null, .int 0, .int 0, .int 0, .int 0, .int 0, .int 0]) := by rw [ew_17, List.getElem?_append_left (lt_of_get hf16_s)]; exact hf16_s
  have hf17__s___1_ : w_17[(s + 1)]? = some (mI 0 67 (fun _ => 0)) := by rw [ew_17, List.getElem?_append_left (lt_of_get hf16__s___1_)]; exact hf16__s___1_
  have hf17__s___2_ : w_17[(s + 2)]? = some (mI 0 67 (fun _ => 0)) := by rw [ew_17, List.getElem?_append_left (lt_of_get hf16__s___2_)]; exact hf16__s___2_
  have hf17__s___3_ : w_17[(s + 3)]? = some (mI 0 67 (fun _ => 0)) := by rw [ew_17, List.getElem?_append_left (lt_of_get hf16__s___3_)]; exact hf16__s___3_
  have hf17__s___4_ : w_17[(s + 4)]? = some (mI 0 67 (fun _ => 0)) := by rw [ew_17, List.getElem?_append_left (lt_of_get hf16__s___4_)]; exact hf16__s___4_
  have hf17__s___5_ : w_17[(s + 5)]? = some (mI 0 536 (fun _ => 0)) := by rw [ew_17, List.getElem?_append_left (lt_of_get hf16__s___5_)]; exact hf16__s___5_
  have hf17__s___6_ : w_17[(s + 6)]? = some (mI 0 60 (fun _ => 0)) := by rw [ew_17, List.getElem?_append_left (lt_of_get hf16__s___6_)]; exact hf16__s___6_
  have hf17__s___7_ : w_17[(s + 7)]? = some (mI 0 40 (fun _ => 0)) := by rw [ew_17, List.getElem?_append_left (lt_of_get hf16__s___7_)]; exact hf16__s___7_
  have hf17__s___8_ : w_17[(s + 8)]? = some (mI 0 8 (fun _ => 0)) := by rw [ew_17, List.getElem?_append_right (by rw [hl_16]; exact Nat.le_refl _), hl_16, Nat.sub_self]; rfl
  rw [← ew_17, hl_16]
  show Wp X ((((((((0 + 1) + 1) + 1) + 1) + 1) + 1) + 1) + 1) ((((((((0 + 67) + 67) + 67) + 67) + 536) + 60) + 40) + 8) w_17 [(0, .ref s)] [.ref (s + 8), .ref s] _
  refine n_putI' hC hNm pX9_init_76 hf17_s (Nat.le_of_ble_eq_true rfl) (fun _ => rfl) (fun _ => rfl) (fun w_18 ew_18 => ?_)
  replace ew_18 : w_18 = (w_17).set (s) (mO 10 [.int 0, .int 0, .int (-1), .int (-1), .int 0, .ref (s + 1), .ref (s + 2), .ref (s + 3), .ref (s + 4), .ref (s + 5), .ref (s + 6), .ref (s + 7), .ref (s + 8), .null, .null, .int 0, .int 0, .int 0, .int 0, .int 0, .int 0]) := ew_18
  have hl_18 : w_18.length = (s + 9) := by rw [ew_18, List.length_set, hl_17]
  have hw_18 : mLowW w_18.length w_18 := by rw [hl_18, ew_18]; exact mLowW.set (by rw [← hl_17]; exact hw_17) ⟨trivial, trivial, trivial, trivial, trivial, (Or.inl (by omega)), (Or.inl (by omega)), (Or.inl (by omega)), (Or.inl (by omega)), (Or.inl (by omega)), (Or.inl (by omega)), (Or.inl (by omega)), (Or.inl (by omega)), trivial, trivial, trivial, trivial, trivial, trivial, trivial, trivial, trivial⟩
  have hf18_s : w_18[s]? = some (mO 10 [.int 0, .int 0, .int (-1), .int (-1), .int 0, .ref (s + 1), .ref (s + 2), .ref (s + 3), .ref (s + 4), .ref (s + 5), .ref (s + 6), .ref (s + 7), .ref (s + 8), .null, .null, .int 0, .int 0, .int 0, .int 0, .int 0, .int 0]) := by rw [ew_18]; exact List.getElem?_set_self (lt_of_get hf17_s)
  have hf18__s___1_ : w_18[(s + 1)]? = some (mI 0 67 (fun _ => 0)) := by rw [ew_18, List.getElem?_set_ne (by omega)]; exact hf17__s___1_
  have hf18__s___2_ : w_18[(s + 2)]? = some (mI 0 67 (fun _ => 0)) := by rw [ew_18, List.getElem?_set_ne (by omega)]; exact hf17__s___2_
  have hf18__s___3_ : w_18[(s + 3)]? = some (mI 0 67 (fun _ => 0)) := by rw [ew_18, List.getElem?_set_ne (by omega)]; exact hf17__s___3_
  have hf18__s___4_ : w_18[(s + 4)]? = some (mI 0 67 (fun _ => 0)) := by rw [ew_18, List.getElem?_set_ne (by omega)]; exact hf17__s___4_
  have hf18__s___5_ : w_18[(s + 5)]? = some (mI 0 536 (fun _ => 0)) := by rw [ew_18, List.getElem?_set_ne (by omega)]; exact hf17__s___5_
  have hf18__s___6_ : w_18[(s + 6)]? = some (mI 0 60 (fun _ => 0)) := by rw [ew_18, List.getElem?_set_ne (by omega)]; exact hf17__s___6_
  have hf18__s___7_ : w_18[(s + 7)]? = some (mI 0 40 (fun _ => 0)) := by rw [ew_18, List.getElem?_set_ne (by omega)]; exact hf17__s___7_
  have hf18__s___8_ : w_18[(s + 8)]? = some (mI 0 8 (fun _ => 0)) := by rw [ew_18, List.getElem?_set_ne (by omega)]; exact hf17__s___8_
  refine r_aload_n hC dX9_init_79 rfl (j := 0) rfl ?_
  refine r_bipush hC dX9_init_80 (v := 41) (by decide) ?_
  refine n_newa hC (atype := .int) (ty := .int) (t := 0) (N := 41) (a0 := (41, .inl (fun _ => 0))) ac_int rfl (fun _ => rfl) (fun _ => rfl) (fun _ => rfl) (by decide) (by decide) (by decide) dX9_init_82 hw_18 (by rw [hl_18]; omega) (by omega) (by omega) ⟨(Or.inl (by omega)), trivial⟩ ⟨(Or.inl (by omega)), trivial⟩ (fun X hT => ?_)
  have hB := hB.tie hT (by rw [hl_18]; omega)
  clear hT
  obtain ⟨hC, hnl, hE, hR, hN, hNm⟩ := id hB
  obtain ⟨w_19, ew_19⟩ : ∃ z, z = w_18 ++ [(mI 0 41 (fun _ => 0))] := ⟨_, rfl⟩
  have hl_19 : w_19.length = (s + 10) := by rw [ew_19, List.length_append, hl_18]; rfl
  have hw_19 : mLowW w_19.length w_19 := by rw [hl_19, ew_19]; exact (mLowW.mono (by rw [hl_18]; omega) hw_18).app (mLowW.cons trivial mLowW.nil)
  have hf19_s : w_19[s]? = some (mO 10 [.int 0, .int 0, .int (-1), .int (-1), .int 0, .ref (s + 1), .ref (s + 2), .ref (s + 3), .ref (s + 4), .ref (s + 5), .ref (s + 6), .ref (s + 7), .ref (s + 8), .null, .null, .int 0, .int 0, .int 0, .int 0, .int 0, .int 0]) := by rw [ew_19, List.getElem?_append_left (lt_of_get hf18_s)]; exact hf18_s
  have hf19__s___1_ : w_19[(s + 1)]? = some (mI 0 67 (fun _ => 0)) := by rw [ew_19, List.getElem?_append_left (lt_of_get hf18__s___1_)]; exact hf18__s___1_
  have hf19__s___2_ : w_19[(s + 2)]? = some (mI 0 67 (fun _ => 0)) := by rw [ew_19, List.getElem?_append_left (lt_of_get hf18__s___2_)]; exact hf18__s___2_
  have hf19__s___3_ : w_19[(s + 3)]? = some (mI 0 67 (fun _ => 0)) := by rw [ew_19, List.getElem?_append_left (lt_of_get hf18__s___3_)]; exact hf18__s___3_
  have hf19__s___4_ : w_19[(s + 4)]? = some (mI 0 67 (fun _ => 0)) := by rw [ew_19, List.getElem?_append_left (lt_of_get hf18__s___4_)]; exact hf18__s___4_
  have hf19__s___5_ : w_19[(s + 5)]? = some (mI 0 536 (fun _ => 0)) := by rw [ew_19, List.getElem?_append_left (lt_of_get hf18__s___5_)]; exact hf18__s___5_
  have hf19__s___6_ : w_19[(s + 6)]? = some (mI 0 60 (fun _ => 0)) := by rw [ew_19, List.getElem?_append_left (lt_of_get hf18__s___6_)]; exact hf18__s___6_
  have hf19__s___7_ : w_19[(s + 7)]? = some (mI 0 40 (fun _ => 0)) := by rw [ew_19, List.getElem?_append_left (lt_of_get hf18__s___7_)]; exact hf18__s___7_
  have hf19__s___8_ : w_19[(s + 8)]? = some (mI 0 8 (fun _ => 0)) := by rw [ew_19, List.getElem?_append_left (lt_of_get hf18__s___8_)]; exact hf18__s___8_
  have hf19__s___9_ : w_19[(s + 9)]? = some (mI 0 41 (fun _ => 0)) := by rw [ew_19, List.getElem?_append_right (by rw [hl_18]; exact Nat.le_refl _), hl_18, Nat.sub_self]; rfl
  rw [← ew_19, hl_18]
  show Wp X (((((((((0 + 1) + 1) + 1) + 1) + 1) + 1) + 1) + 1) + 1) (((((((((0 + 67) + 67) + 67) + 67) + 536) + 60) + 40) + 8) + 41) w_19 [(0, .ref s)] [.ref (s + 9), .ref s] _
  refine r_dup hC dX9_init_84 rfl ?_
  rw [← wdP_0] at hf19__s___9_
  -- the words
  refine r_iconst hC dX9_init_85 (v := 0) (by decide) ?_
  refine r_bipush hC dX9_init_86 (v := 112) (by decide) ?_
  refine r_iast' hC dX9_init_88 (j := 0) hf19__s___9_ ⟨by decide, by decide, by decide⟩ (fun w_20 ew_20 => ?_)
  rw [wdP_up (by decide)] at ew_20
  replace ew_20 : w_20 = (w_19).set ((s + 9)) (mI 0 41 (wdP 1)) := ew_20
  have hl_20 : w_20.length = (s + 10) := by rw [ew_20, List.length_set, hl_19]
  have hw_20 : mLowW w_20.length w_20 := by rw [hl_20, ew_20]; exact mLowW.set (by rw [← hl_19]; exact hw_19) trivial
  have hf20_s : w_20[s]? = some (mO 10 [.int 0, .int 0, .int (-1), .int (-1), .int 0, .ref (s + 1), .ref (s + 2), .ref (s + 3), .ref (s + 4), .ref (s + 5), .ref (s + 6), .ref (s + 7), .ref (s + 8), .null, .null, .int 0, .int 0, .int 0, .int 0, .int 0, .int 0]) := by rw [ew_20, List.getElem?_set_ne (by omega)]; exact hf19_s
  have hf20__s___1_ : w_20[(s + 1)]? = some (mI 0 67 (fun _ => 0)) := by rw [ew_20, List.getElem?_set_ne (by omega)]; exact hf19__s___1_
  have hf20__s___2_ : w_20[(s + 2)]? = some (mI 0 67 (fun _ => 0)) := by rw [ew_20, List.getElem?_set_ne (by omega)]; exact hf19__s___2_
  have hf20__s___3_ : w_20[(s + 3)]? = some (mI 0 67 (fun _ => 0)) := by rw [ew_20, List.getElem?_set_ne (by omega)]; exact hf19__s___3_
  have hf20__s___4_ : w_20[(s + 4)]? = some (mI 0 67 (fun _ => 0)) := by rw [ew_20, List.getElem?_set_ne (by omega)]; exact hf19__s___4_
  have hf20__s___5_ : w_20[(s + 5)]? = some (mI 0 536 (fun _ => 0)) := by rw [ew_20, List.getElem?_set_ne (by omega)]; exact hf19__s___5_
  have hf20__s___6_ : w_20[(s + 6)]? = some (mI 0 60 (fun _ => 0)) := by rw [ew_20, List.getElem?_set_ne (by omega)]; exact hf19__s___6_
  have hf20__s___7_ : w_20[(s + 7)]? = some (mI 0 40 (fun _ => 0)) := by rw [ew_20, List.getElem?_set_ne (by omega)]; exact hf19__s___7_
  have hf20__s___8_ : w_20[(s + 8)]? = some (mI 0 8 (fun _ => 0)) := by rw [ew_20, List.getElem?_set_ne (by omega)]; exact hf19__s___8_
  have hf20__s___9_ : w_20[(s + 9)]? = some (mI 0 41 (wdP 1)) := by rw [ew_20]; exact List.getElem?_set_self (lt_of_get hf19__s___9_)
  refine r_dup hC dX9_init_89 rfl ?_
  refine r_iconst hC dX9_init_90 (v := 1) (by decide) ?_
  refine r_bipush hC dX9_init_91 (v := 108) (by decide) ?_
  refine r_iast' hC dX9_init_93 (j := 1) hf20__s___9_ ⟨by decide, by decide, by decide⟩ (fun w_21 ew_21 => ?_)
  rw [wdP_up (by decide)] at ew_21
  replace ew_21 : w_21 = (w_20).set ((s + 9)) (mI 0 41 (wdP 2)) := ew_21
  have hl_21 : w_21.length = (s + 10) := by rw [ew_21, List.length_set, hl_20]
  have hw_21 : mLowW w_21.length w_21 := by rw [hl_21, ew_21]; exact mLowW.set (by rw [← hl_20]; exact hw_20) trivial
  have hf21_s : w_21[s]? = some (mO 10 [.int 0, .int 0, .int (-1), .int (-1), .int 0, .ref (s + 1), .ref (s + 2), .ref (s + 3), .ref (s + 4), .ref (s + 5), .ref (s + 6), .ref (s + 7), .ref (s + 8), .null, .null, .int 0, .int 0, .int 0, .int 0, .int 0, .int 0]) := by rw [ew_21, List.getElem?_set_ne (by omega)]; exact hf20_s
  have hf21__s___1_ : w_21[(s + 1)]? = some (mI 0 67 (fun _ => 0)) := by rw [ew_21, List.getElem?_set_ne (by omega)]; exact hf20__s___1_
  have hf21__s___2_ : w_21[(s + 2)]? = some (mI 0 67 (fun _ => 0)) := by rw [ew_21, List.getElem?_set_ne (by omega)]; exact hf20__s___2_
  have hf21__s___3_ : w_21[(s + 3)]? = some (mI 0 67 (fun _ => 0)) := by rw [ew_21, List.getElem?_set_ne (by omega)]; exact hf20__s___3_
  have hf21__s___4_ : w_21[(s + 4)]? = some (mI 0 67 (fun _ => 0)) := by rw [ew_21, List.getElem?_set_ne (by omega)]; exact hf20__s___4_
  have hf21__s___5_ : w_21[(s + 5)]? = some (mI 0 536 (fun _ => 0)) := by rw [ew_21, List.getElem?_set_ne (by omega)]; exact hf20__s___5_
  have hf21__s___6_ : w_21[(s + 6)]? = some (mI 0 60 (fun _ => 0)) := by rw [ew_21, List.getElem?_set_ne (by omega)]; exact hf20__s___6_
  have hf21__s___7_ : w_21[(s + 7)]? = some (mI 0 40 (fun _ => 0)) := by rw [ew_21, List.getElem?_set_ne (by omega)]; exact hf20__s___7_
  have hf21__s___8_ : w_21[(s + 8)]? = some (mI 0 8 (fun _ => 0)) := by rw [ew_21, List.getElem?_set_ne (by omega)]; exact hf20__s___8_
  have hf21__s___9_ : w_21[(s + 9)]? = some (mI 0 41 (wdP 2)) := by rw [ew_21]; exact List.getElem?_set_self (lt_of_get hf20__s___9_)
  refine r_dup hC dX9_init_94 rfl ?_
  refine r_iconst hC dX9_init_95 (v := 2) (by decide) ?_
  refine r_bipush hC dX9_init_96 (v := 97) (by decide) ?_
  refine r_iast' hC dX9_init_98 (j := 2) hf21__s___9_ ⟨by decide, by decide, by decide⟩ (fun w_22 ew_22 => ?_)
  rw [wdP_up (by decide)] at ew_22
  replace ew_22 : w_22 = (w_21).set ((s + 9)) (mI 0 41 (wdP 3)) := ew_22
  have hl_22 : w_22.length = (s + 10) := by rw [ew_22, List.length_set, hl_21]
  have hw_22 : mLowW w_22.length w_22 := by rw [hl_22, ew_22]; exact mLowW.set (by rw [← hl_21]; exact hw_21) trivial
  have hf22_s : w_22[s]? = some (mO 10 [.int 0, .int 0, .int (-1), .int (-1), .int 0, .ref (s + 1), .ref (s + 2), .ref (s + 3), .ref (s + 4), .ref (s + 5), .ref (s + 6), .ref (s + 7), .ref (s + 8), .null, .null, .int 0, .int 0, .int 0, .int 0, .int 0, .int 0]) := by rw [ew_22, List.getElem?_set_ne (by omega)]; exact hf21_s
  have hf22__s___1_ : w_22[(s + 1)]? = some (mI 0 67 (fun _ => 0)) := by rw [ew_22, List.getElem?_set_ne (by omega)]; exact hf21__s___1_
  have hf22__s___2_ : w_22[(s + 2)]? = some (mI 0 67 (fun _ => 0)) := by rw [ew_22, List.getElem?_set_ne (by omega)]; exact hf21__s___2_
  have hf22__s___3_ : w_22[(s + 3)]? = some (mI 0 67 (fun _ => 0)) := by rw [ew_22, List.getElem?_set_ne (by omega)]; exact hf21__s___3_
  have hf22__s___4_ : w_22[(s + 4)]? = some (mI 0 67 (fun _ => 0)) := by rw [ew_22, List.getElem?_set_ne (by omega)]; exact hf21__s___4_
  have hf22__s___5_ : w_22[(s + 5)]? = some (mI 0 536 (fun _ => 0)) := by rw [ew_22, List.getElem?_set_ne (by omega)]; exact hf21__s___5_
  have hf22__s___6_ : w_22[(s + 6)]? = some (mI 0 60 (fun _ => 0)) := by rw [ew_22, List.getElem?_set_ne (by omega)]; exact hf21__s___6_
  have hf22__s___7_ : w_22[(s + 7)]? = some (mI 0 40 (fun _ => 0)) := by rw [ew_22, List.getElem?_set_ne (by omega)]; exact hf21__s___7_
  have hf22__s___8_ : w_22[(s + 8)]? = some (mI 0 8 (fun _ => 0)) := by rw [ew_22, List.getElem?_set_ne (by omega)]; exact hf21__s___8_
  have hf22__s___9_ : w_22[(s + 9)]? = some (mI 0 41 (wdP 3)) := by rw [ew_22]; exact List.getElem?_set_self (lt_of_get hf21__s___9_)
  refine r_dup hC dX9_init_99 rfl ?_
  refine r_iconst hC dX9_init_100 (v := 3) (by decide) ?_
  refine r_bipush hC dX9_init_101 (v := 121) (by decide) ?_
  refine r_iast' hC dX9_init_103 (j := 3) hf22__s___9_ ⟨by decide, by decide, by decide⟩ (fun w_23 ew_23 => ?_)
  rw [wdP_up (by decide)] at ew_23
  replace ew_23 : w_23 = (w_22).set ((s + 9)) (mI 0 41 (wdP 4)) := ew_23
  have hl_23 : w_23.length = (s + 10) := by rw [ew_23, List.length_set, hl_22]
  have hw_23 : mLowW w_23.length w_23 := by rw [hl_23, ew_23]; exact mLowW.set (by rw [← hl_22]; exact hw_22) trivial
  have hf23_s : w_23[s]? = some (mO 10 [.int 0, .int 0, .int (-1), .int (-1), .int 0, .ref (s + 1), .ref (s + 2), .ref (s + 3), .ref (s + 4), .ref (s + 5), .ref (s + 6), .ref (s + 7), .ref (s + 8), .null, .null, .int 0, .int 0, .int 0, .int 0, .int 0, .int 0]) := by rw [ew_23, List.getElem?_set_ne (by omega)]; exact hf22_s
  have hf23__s___1_ : w_23[(s + 1)]? = some (mI 0 67 (fun _ => 0)) := by rw [ew_23, List.getElem?_set_ne (by omega)]; exact hf22__s___1_
  have hf23__s___2_ : w_23[(s + 2)]? = some (mI 0 67 (fun _ => 0)) := by rw [ew_23, List.getElem?_set_ne (by omega)]; exact hf22__s___2_
  have hf23__s___3_ : w_23[(s + 3)]? = some (mI 0 67 (fun _ => 0)) := by rw [ew_23, List.getElem?_set_ne (by omega)]; exact hf22__s___3_
  have hf23__s___4_ : w_23[(s + 4)]? = some (mI 0 67 (fun _ => 0)) := by rw [ew_23, List.getElem?_set_ne (by omega)]; exact hf22__s___4_
  have hf23__s___5_ : w_23[(s + 5)]? = some (mI 0 536 (fun _ => 0)) := by rw [ew_23, List.getElem?_set_ne (by omega)]; exact hf22__s___5_
  have hf23__s___6_ : w_23[(s + 6)]? = some (mI 0 60 (fun _ => 0)) := by rw [ew_23, List.getElem?_set_ne (by omega)]; exact hf22__s___6_
  have hf23__s___7_ : w_23[(s + 7)]? = some (mI 0 40 (fun _ => 0)) := by rw [ew_23, List.getElem?_set_ne (by omega)]; exact hf22__s___7_
  have hf23__s___8_ : w_23[(s + 8)]? = some (mI 0 8 (fun _ => 0)) := by rw [ew_23, List.getElem?_set_ne (by omega)]; exact hf22__s___8_
  have hf23__s___9_ : w_23[(s + 9)]? = some (mI 0 41 (wdP 4)) := by rw [ew_23]; exact List.getElem?_set_self (lt_of_get hf22__s___9_)
  refine r_dup hC dX9_init_104 rfl ?_
  refine r_iconst hC dX9_init_105 (v := 4) (by decide) ?_
  refine r_bipush hC dX9_init_106 (v := 101) (by decide) ?_
  refine r_iast' hC dX9_init_108 (j := 4) hf23__s___9_ ⟨by decide, by decide, by decide⟩ (fun w_24 ew_24 => ?_)
  rw [wdP_up (by decide)] at ew_24
  replace ew_24 : w_24 = (w_23).set ((s + 9)) (mI 0 41 (wdP 5)) := ew_24
  have hl_24 : w_24.length = (s + 10) := by rw [ew_24, List.length_set, hl_23]
  have hw_24 : mLowW w_24.length w_24 := by rw [hl_24, ew_24]; exact mLowW.set (by rw [← hl_23]; exact hw_23) trivial
  have hf24_s : w_24[s]? = some (mO 10 [.int 0, .int 0, .int (-1), .int (-1), .int 0, .ref (s + 1), .ref (s + 2), .ref (s + 3), .ref (s + 4), .ref (s + 5), .ref (s + 6), .ref (s + 7), .ref (s + 8), .null, .null, .int 0, .int 0, .int 0, .int 0, .int 0, .int 0]) := by rw [ew_24, List.getElem?_set_ne (by omega)]; exact hf23_s
  have hf24__s___1_ : w_24[(s + 1)]? = some (mI 0 67 (fun _ => 0)) := by rw [ew_24, List.getElem?_set_ne (by omega)]; exact hf23__s___1_
  have hf24__s___2_ : w_24[(s + 2)]? = some (mI 0 67 (fun _ => 0)) := by rw [ew_24, List.getElem?_set_ne (by omega)]; exact hf23__s___2_
  have hf24__s___3_ : w_24[(s + 3)]? = some (mI 0 67 (fun _ => 0)) := by rw [ew_24, List.getElem?_set_ne (by omega)]; exact hf23__s___3_
  have hf24__s___4_ : w_24[(s + 4)]? = some (mI 0 67 (fun _ => 0)) := by rw [ew_24, List.getElem?_set_ne (by omega)]; exact hf23__s___4_
  have hf24__s___5_ : w_24[(s + 5)]? = some (mI 0 536 (fun _ => 0)) := by rw [ew_24, List.getElem?_set_ne (by omega)]; exact hf23__s___5_
  have hf24__s___6_ : w_24[(s + 6)]? = some (mI 0 60 (fun _ => 0)) := by rw [ew_24, List.getElem?_set_ne (by omega)]; exact hf23__s___6_
  have hf24__s___7_ : w_24[(s + 7)]? = some (mI 0 40 (fun _ => 0)) := by rw [ew_24, List.getElem?_set_ne (by omega)]; exact hf23__s___7_
  have hf24__s___8_ : w_24[(s + 8)]? = some (mI 0 8 (fun _ => 0)) := by rw [ew_24, List.getElem?_set_ne (by omega)]; exact hf23__s___8_
  have hf24__s___9_ : w_24[(s + 9)]? = some (mI 0 41 (wdP 5)) := by rw [ew_24]; exact List.getElem?_set_self (lt_of_get hf23__s___9_)
  refine r_dup hC dX9_init_109 rfl ?_
  refine r_iconst hC dX9_init_110 (v := 5) (by decide) ?_
  refine r_bipush hC dX9_init_111 (v := 114) (by decide) ?_
  refine r_iast' hC dX9_init_113 (j := 5) hf24__s___9_ ⟨by decide, by decide, by decide⟩ (fun w_25 ew_25 => ?_)
  rw [wdP_up (by decide)] at ew_25
  replace ew_25 : w_25 = (w_24).set ((s + 9)) (mI 0 41 (wdP 6)) := ew_25
  have hl_25 : w_25.length = (s + 10) := by rw [ew_25, List.length_set, hl_24]
  have hw_25 : mLowW w_25.length w_25 := by rw [hl_25, ew_25]; exact mLowW.set (by rw [← hl_24]; exact hw_24) trivial
  have hf25_s : w_25[s]? = some (mO 10 [.int 0, .int 0, .int (-1), .int (-1), .int 0, .ref (s + 1), .ref (s + 2), .ref (s + 3), .ref (s + 4), .ref (s + 5), .ref (s + 6), .ref (s + 7), .ref (s + 8), .null, .null, .int 0, .int 0, .int 0, .int 0, .int 0, .int 0]) := by rw [ew_25, List.getElem?_set_ne (by omega)]; exact hf24_s
  have hf25__s___1_ : w_25[(s + 1)]? = some (mI 0 67 (fun _ => 0)) := by rw [ew_25, List.getElem?_set_ne (by omega)]; exact hf24__s___1_
  have hf25__s___2_ : w_25[(s + 2)]? = some (mI 0 67 (fun _ => 0)) := by rw [ew_25, List.getElem?_set_ne (by omega)]; exact hf24__s___2_
  have hf25__s___3_ : w_25[(s + 3)]? = some (mI 0 67 (fun _ => 0)) := by rw [ew_25, List.getElem?_set_ne (by omega)]; exact hf24__s___3_
  have hf25__s___4_ : w_25[(s + 4)]? = some (mI 0 67 (fun _ => 0)) := by rw [ew_25, List.getElem?_set_ne (by omega)]; exact hf24__s___4_
  have hf25__s___5_ : w_25[(s + 5)]? = some (mI 0 536 (fun _ => 0)) := by rw [ew_25, List.getElem?_set_ne (by omega)]; exact hf24__s___5_
  have hf25__s___6_ : w_25[(s + 6)]? = some (mI 0 60 (fun _ => 0)) := by rw [ew_25, List.getElem?_set_ne (by omega)]; exact hf24__s___6_
  have hf25__s___7_ : w_25[(s + 7)]? = some (mI 0 40 (fun _ => 0)) := by rw [ew_25, List.getElem?_set_ne (by omega)]; exact hf24__s___7_
  have hf25__s___8_ : w_25[(s + 8)]? = some (mI 0 8 (fun _ => 0)) := by rw [ew_25, List.getElem?_set_ne (by omega)]; exact hf24__s___8_
  have hf25__s___9_ : w_25[(s + 9)]? = some (mI 0 41 (wdP 6)) := by rw [ew_25]; exact List.getElem?_set_self (lt_of_get hf24__s___9_)
  refine r_dup hC dX9_init_114 rfl ?_
  refine r_bipush hC dX9_init_115 (v := 6) (by decide) ?_
  refine r_bipush hC dX9_init_117 (v := 32) (by decide) ?_
  refine r_iast' hC dX9_init_119 (j := 6) hf25__s___9_ ⟨by decide, by decide, by decide⟩ (fun w_26 ew_26 => ?_)
  rw [wdP_up (by decide)] at ew_26
  replace ew_26 : w_26 = (w_25).set ((s + 9)) (mI 0 41 (wdP 7)) := ew_26
  have hl_26 : w_26.length = (s + 10) := by rw [ew_26, List.length_set, hl_25]
  have hw_26 : mLowW w_26.length w_26 := by rw [hl_26, ew_26]; exact mLowW.set (by rw [← hl_25]; exact hw_25) trivial
  have hf26_s : w_26[s]? = some (mO 10 [.int 0, .int 0, .int (-1), .int (-1), .int 0, .ref (s + 1), .ref (s + 2), .ref (s + 3), .ref (s + 4), .ref (s + 5), .ref (s + 6), .ref (s + 7), .ref (s + 8), .null, .null, .int 0, .int 0, .int 0, .int 0, .int 0, .int 0]) := by rw [ew_26, List.getElem?_set_ne (by omega)]; exact hf25_s
  have hf26__s___1_ : w_26[(s + 1)]? = some (mI 0 67 (fun _ => 0)) := by rw [ew_26, List.getElem?_set_ne (by omega)]; exact hf25__s___1_
  have hf26__s___2_ : w_26[(s + 2)]? = some (mI 0 67 (fun _ => 0)) := by rw [ew_26, List.getElem?_set_ne (by omega)]; exact hf25__s___2_
  have hf26__s___3_ : w_26[(s + 3)]? = some (mI 0 67 (fun _ => 0)) := by rw [ew_26, List.getElem?_set_ne (by omega)]; exact hf25__s___3_
  have hf26__s___4_ : w_26[(s + 4)]? = some (mI 0 67 (fun _ => 0)) := by rw [ew_26, List.getElem?_set_ne (by omega)]; exact hf25__s___4_
  have hf26__s___5_ : w_26[(s + 5)]? = some (mI 0 536 (fun _ => 0)) := by rw [ew_26, List.getElem?_set_ne (by omega)]; exact hf25__s___5_
  have hf26__s___6_ : w_26[(s + 6)]? = some (mI 0 60 (fun _ => 0)) := by rw [ew_26, List.getElem?_set_ne (by omega)]; exact hf25__s___6_
  have hf26__s___7_ : w_26[(s + 7)]? = some (mI 0 40 (fun _ => 0)) := by rw [ew_26, List.getElem?_set_ne (by omega)]; exact hf25__s___7_
  have hf26__s___8_ : w_26[(s + 8)]? = some (mI 0 8 (fun _ => 0)) := by rw [ew_26, List.getElem?_set_ne (by omega)]; exact hf25__s___8_
  have hf26__s___9_ : w_26[(s + 9)]? = some (mI 0 41 (wdP 7)) := by rw [ew_26]; exact List.getElem?_set_self (lt_of_get hf25__s___9_)
  refine r_dup hC dX9_init_120 rfl ?_
  refine r_bipush hC dX9_init_121 (v := 7) (by decide) ?_
  refine r_bipush hC dX9_init_123 (v := 100) (by decide) ?_
  refine r_iast' hC dX9_init_125 (j := 7) hf26__s___9_ ⟨by decide, by decide, by decide⟩ (fun w_27 ew_27 => ?_)
  rw [wdP_up (by decide)] at ew_27
  replace ew_27 : w_27 = (w_26).set ((s + 9)) (mI 0 41 (wdP 8)) := ew_27
  have hl_27 : w_27.length = (s + 10) := by rw [ew_27, List.length_set, hl_26]
  have hw_27 : mLowW w_27.length w_27 := by rw [hl_27, ew_27]; exact mLowW.set (by rw [← hl_26]; exact hw_26) trivial
  have hf27_s : w_27[s]? = some (mO 10 [.int 0, .int 0, .int (-1), .int (-1), .int 0, .ref (s + 1), .ref (s + 2), .ref (s + 3), .ref (s + 4), .ref (s + 5), .ref (s + 6), .ref (s + 7), .ref (s + 8), .null, .null, .int 0, .int 0, .int 0, .int 0, .int 0, .int 0]) := by rw [ew_27, List.getElem?_set_ne (by omega)]; exact hf26_s
  have hf27__s___1_ : w_27[(s + 1)]? = some (mI 0 67 (fun _ => 0)) := by rw [ew_27, List.getElem?_set_ne (by omega)]; exact hf26__s___1_
  have hf27__s___2_ : w_27[(s + 2)]? = some (mI 0 67 (fun _ => 0)) := by rw [ew_27, List.getElem?_set_ne (by omega)]; exact hf26__s___2_
  have hf27__s___3_ : w_27[(s + 3)]? = some (mI 0 67 (fun _ => 0)) := by rw [ew_27, List.getElem?_set_ne (by omega)]; exact hf26__s___3_
  have hf27__s___4_ : w_27[(s + 4)]? = some (mI 0 67 (fun _ => 0)) := by rw [ew_27, List.getElem?_set_ne (by omega)]; exact hf26__s___4_
  have hf27__s___5_ : w_27[(s + 5)]? = some (mI 0 536 (fun _ => 0)) := by rw [ew_27, List.getElem?_set_ne (by omega)]; exact hf26__s___5_
  have hf27__s___6_ : w_27[(s + 6)]? = some (mI 0 60 (fun _ => 0)) := by rw [ew_27, List.getElem?_set_ne (by omega)]; exact hf26__s___6_
  have hf27__s___7_ : w_27[(s + 7)]? = some (mI 0 40 (fun _ => 0)) := by rw [ew_27, List.getElem?_set_ne (by omega)]; exact hf26__s___7_
  have hf27__s___8_ : w_27[(s + 8)]? = some (mI 0 8 (fun _ => 0)) := by rw [ew_27, List.getElem?_set_ne (by omega)]; exact hf26__s___8_
  have hf27__s___9_ : w_27[(s + 9)]? = some (mI 0 41 (wdP 8)) := by rw [ew_27]; exact List.getElem?_set_self (lt_of_get hf26__s___9_)
  refine r_dup hC dX9_init_126 rfl ?_
  refine r_bipush hC dX9_init_127 (v := 8) (by decide) ?_
  refine r_bipush hC dX9_init_129 (v := 114) (by decide) ?_
  refine r_iast' hC dX9_init_131 (j := 8) hf27__s___9_ ⟨by decide, by decide, by decide⟩ (fun w_28 ew_28 => ?_)
  rw [wdP_up (by decide)] at ew_28
  replace ew_28 : w_28 = (w_27).set ((s + 9)) (mI 0 41 (wdP 9)) := ew_28
  have hl_28 : w_28.length = (s + 10) := by rw [ew_28, List.length_set, hl_27]
  have hw_28 : mLowW w_28.length w_28 := by rw [hl_28, ew_28]; exact mLowW.set (by rw [← hl_27]; exact hw_27) trivial
  have hf28_s : w_28[s]? = some (mO 10 [.int 0, .int 0, .int (-1), .int (-1), .int 0, .ref (s + 1), .ref (s + 2), .ref (s + 3), .ref (s + 4), .ref (s + 5), .ref (s + 6), .ref (s + 7), .ref (s + 8), .null, .null, .int 0, .int 0, .int 0, .int 0, .int 0, .int 0]) := by rw [ew_28, List.getElem?_set_ne (by omega)]; exact hf27_s
  have hf28__s___1_ : w_28[(s + 1)]? = some (mI 0 67 (fun _ => 0)) := by rw [ew_28, List.getElem?_set_ne (by omega)]; exact hf27__s___1_
  have hf28__s___2_ : w_28[(s + 2)]? = some (mI 0 67 (fun _ => 0)) := by rw [ew_28, List.getElem?_set_ne (by omega)]; exact hf27__s___2_
  have hf28__s___3_ : w_28[(s + 3)]? = some (mI 0 67 (fun _ => 0)) := by rw [ew_28, List.getElem?_set_ne (by omega)]; exact hf27__s___3_
  have hf28__s___4_ : w_28[(s + 4)]? = some (mI 0 67 (fun _ => 0)) := by rw [ew_28, List.getElem?_set_ne (by omega)]; exact hf27__s___4_
  have hf28__s___5_ : w_28[(s + 5)]? = some (mI 0 536 (fun _ => 0)) := by rw [ew_28, List.getElem?_set_ne (by omega)]; exact hf27__s___5_
  have hf28__s___6_ : w_28[(s + 6)]? = some (mI 0 60 (fun _ => 0)) := by rw [ew_28, List.getElem?_set_ne (by omega)]; exact hf27__s___6_
  have hf28__s___7_ : w_28[(s + 7)]? = some (mI 0 40 (fun _ => 0)) := by rw [ew_28, List.getElem?_set_ne (by omega)]; exact hf27__s___7_
  have hf28__s___8_ : w_28[(s + 8)]? = some (mI 0 8 (fun _ => 0)) := by rw [ew_28, List.getElem?_set_ne (by omega)]; exact hf27__s___8_
  have hf28__s___9_ : w_28[(s + 9)]? = some (mI 0 41 (wdP 9)) := by rw [ew_28]; exact List.getElem?_set_self (lt_of_get hf27__s___9_)
  refine r_dup hC dX9_init_132 rfl ?_
  refine r_bipush hC dX9_init_133 (v := 9) (by decide) ?_
  refine r_bipush hC dX9_init_135 (v := 111) (by decide) ?_
  refine r_iast' hC dX9_init_137 (j := 9) hf28__s___9_ ⟨by decide, by decide, by decide⟩ (fun w_29 ew_29 => ?_)
  rw [wdP_up (by decide)] at ew_29
  replace ew_29 : w_29 = (w_28).set ((s + 9)) (mI 0 41 (wdP 10)) := ew_29
  have hl_29 : w_29.length = (s + 10) := by rw [ew_29, List.length_set, hl_28]
  have hw_29 : mLowW w_29.length w_29 := by rw [hl_29, ew_29]; exact mLowW.set (by rw [← hl_28]; exact hw_28) trivial
  have hf29_s : w_29[s]? = some (mO 10 [.int 0, .int 0, .int (-1), .int (-1), .int 0, .ref (s + 1), .ref (s + 2), .ref (s + 3), .ref (s + 4), .ref (s + 5), .ref (s + 6), .ref (s + 7), .ref (s + 8), .null, .null, .int 0, .int 0, .int 0, .int 0, .int 0, .int 0]) := by rw [ew_29, List.getElem?_set_ne (by omega)]; exact hf28_s
  have hf29__s___1_ : w_29[(s + 1)]? = some (mI 0 67 (fun _ => 0)) := by rw [ew_29, List.getElem?_set_ne (by omega)]; exact hf28__s___1_
  have hf29__s___2_ : w_29[(s + 2)]? = some (mI 0 67 (fun _ => 0)) := by rw [ew_29, List.getElem?_set_ne (by omega)]; exact hf28__s___2_
  have hf29__s___3_ : w_29[(s + 3)]? = some (mI 0 67 (fun _ => 0)) := by rw [ew_29, List.getElem?_set_ne (by omega)]; exact hf28__s___3_
  have hf29__s___4_ : w_29[(s + 4)]? = some (mI 0 67 (fun _ => 0)) := by rw [ew_29, List.getElem?_set_ne (by omega)]; exact hf28__s___4_
  have hf29__s___5_ : w_29[(s + 5)]? = some (mI 0 536 (fun _ => 0)) := by rw [ew_29, List.getElem?_set_ne (by omega)]; exact hf28__s___5_
  have hf29__s___6_ : w_29[(s + 6)]? = some (mI 0 60 (fun _ => 0)) := by rw [ew_29, List.getElem?_set_ne (by omega)]; exact hf28__s___6_
  have hf29__s___7_ : w_29[(s + 7)]? = some (mI 0 40 (fun _ => 0)) := by rw [ew_29, List.getElem?_set_ne (by omega)]; exact hf28__s___7_
  have hf29__s___8_ : w_29[(s + 8)]? = some (mI 0 8 (fun _ => 0)) := by rw [ew_29, List.getElem?_set_ne (by omega)]; exact hf28__s___8_
  have hf29__s___9_ : w_29[(s + 9)]? = some (mI 0 41 (wdP 10)) := by rw [ew_29]; exact List.getElem?_set_self (lt_of_get hf28__s___9_)
  refine r_dup hC dX9_init_138 rfl ?_
  refine r_bipush hC dX9_init_139 (v := 10) (by decide) ?_
  refine r_bipush hC dX9_init_141 (v := 112) (by decide) ?_
  refine r_iast' hC dX9_init_143 (j := 10) hf29__s___9_ ⟨by decide, by decide, by decide⟩ (fun w_30 ew_30 => ?_)
  rw [wdP_up (by decide)] at ew_30
  replace ew_30 : w_30 = (w_29).set ((s + 9)) (mI 0 41 (wdP 11)) := ew_30
  have hl_30 : w_30.length = (s + 10) := by rw [ew_30, List.length_set, hl_29]
  have hw_30 : mLowW w_30.length w_30 := by rw [hl_30, ew_30]; exact mLowW.set (by rw [← hl_29]; exact hw_29) trivial
  have hf30_s : w_30[s]? = some (mO 10 [.int 0, .int 0, .int (-1), .int (-1), .int 0, .ref (s + 1), .ref (s + 2), .ref (s + 3), .ref (s + 4), .ref (s + 5), .ref (s + 6), .ref (s + 7), .ref (s + 8), .null, .null, .int 0, .int 0, .int 0, .int 0, .int 0, .int 0]) := by rw [ew_30, List.getElem?_set_ne (by omega)]; exact hf29_s
  have hf30__s___1_ : w_30[(s + 1)]? = some (mI 0 67 (fun _ => 0)) := by rw [ew_30, List.getElem?_set_ne (by omega)]; exact hf29__s___1_
  have hf30__s___2_ : w_30[(s + 2)]? = some (mI 0 67 (fun _ => 0)) := by rw [ew_30, List.getElem?_set_ne (by omega)]; exact hf29__s___2_
  have hf30__s___3_ : w_30[(s + 3)]? = some (mI 0 67 (fun _ => 0)) := by rw [ew_30, List.getElem?_set_ne (by omega)]; exact hf29__s___3_
  have hf30__s___4_ : w_30[(s + 4)]? = some (mI 0 67 (fun _ => 0)) := by rw [ew_30, List.getElem?_set_ne (by omega)]; exact hf29__s___4_
  have hf30__s___5_ : w_30[(s + 5)]? = some (mI 0 536 (fun _ => 0)) := by rw [ew_30, List.getElem?_set_ne (by omega)]; exact hf29__s___5_
  have hf30__s___6_ : w_30[(s + 6)]? = some (mI 0 60 (fun _ => 0)) := by rw [ew_30, List.getElem?_set_ne (by omega)]; exact hf29__s___6_
  have hf30__s___7_ : w_30[(s + 7)]? = some (mI 0 40 (fun _ => 0)) := by rw [ew_30, List.getElem?_set_ne (by omega)]; exact hf29__s___7_
  have hf30__s___8_ : w_30[(s + 8)]? = some (mI 0 8 (fun _ => 0)) := by rw [ew_30, List.getElem?_set_ne (by omega)]; exact hf29__s___8_
  have hf30__s___9_ : w_30[(s + 9)]? = some (mI 0 41 (wdP 11)) := by rw [ew_30]; exact List.getElem?_set_self (lt_of_get hf29__s___9_)
  refine r_dup hC dX9_init_144 rfl ?_
  refine r_bipush hC dX9_init_145 (v := 11) (by decide) ?_
  refine r_bipush hC dX9_init_147 (v := 32) (by decide) ?_
  refine r_iast' hC dX9_init_149 (j := 11) hf30__s___9_ ⟨by decide, by decide, by decide⟩ (fun w_31 ew_31 => ?_)
  rw [wdP_up (by decide)] at ew_31
  replace ew_31 : w_31 = (w_30).set ((s + 9)) (mI 0 41 (wdP 12)) := ew_31
  have hl_31 : w_31.length = (s + 10) := by rw [ew_31, List.length_set, hl_30]
  have hw_31 : mLowW w_31.length w_31 := by rw [hl_31, ew_31]; exact mLowW.set (by rw [← hl_30]; exact hw_30) trivial
  have hf31_s : w_31[s]? = some (mO 10 [.int 0, .int 0, .int (-1), .int (-1), .int 0, .ref (s + 1), .ref (s + 2), .ref (s + 3), .ref (s + 4), .ref (s + 5), .ref (s + 6), .ref (s + 7), .ref (s + 8), .null, .null, .int 0, .int 0, .int 0, .int 0, .int 0, .int 0]) := by rw [ew_31, List.getElem?_set_ne (by omega)]; exact hf30_s
  have hf31__s___1_ : w_31[(s + 1)]? = some (mI 0 67 (fun _ => 0)) := by rw [ew_31, List.getElem?_set_ne (by omega)]; exact hf30__s___1_
  have hf31__s___2_ : w_31[(s + 2)]? = some (mI 0 67 (fun _ => 0)) := by rw [ew_31, List.getElem?_set_ne (by omega)]; exact hf30__s___2_
  have hf31__s___3_ : w_31[(s + 3)]? = some (mI 0 67 (fun _ => 0)) := by rw [ew_31, List.getElem?_set_ne (by omega)]; exact hf30__s___3_
  have hf31__s___4_ : w_31[(s + 4)]? = some (mI 0 67 (fun _ => 0)) := by rw [ew_31, List.getElem?_set_ne (by omega)]; exact hf30__s___4_
  have hf31__s___5_ : w_31[(s + 5)]? = some (mI 0 536 (fun _ => 0)) := by rw [ew_31, List.getElem?_set_ne (by omega)]; exact hf30__s___5_
  have hf31__s___6_ : w_31[(s + 6)]? = some (mI 0 60 (fun _ => 0)) := by rw [ew_31, List.getElem?_set_ne (by omega)]; exact hf30__s___6_
  have hf31__s___7_ : w_31[(s + 7)]? = some (mI 0 40 (fun _ => 0)) := by rw [ew_31, List.getElem?_set_ne (by omega)]; exact hf30__s___7_
  have hf31__s___8_ : w_31[(s + 8)]? = some (mI 0 8 (fun _ => 0)) := by rw [ew_31, List.getElem?_set_ne (by omega)]; exact hf30__s___8_
  have hf31__s___9_ : w_31[(s + 9)]? = some (mI 0 41 (wdP 12)) := by rw [ew_31]; exact List.getElem?_set_self (lt_of_get hf30__s___9_)
  refine r_dup hC dX9_init_150 rfl ?_
  refine r_bipush hC dX9_init_151 (v := 12) (by decide) ?_
  refine r_bipush hC dX9_init_153 (v := 112) (by decide) ?_
  refine r_iast' hC dX9_init_155 (j := 12) hf31__s___9_ ⟨by decide, by decide, by decide⟩ (fun w_32 ew_32 => ?_)
  rw [wdP_up (by decide)] at ew_32
  replace ew_32 : w_32 = (w_31).set ((s + 9)) (mI 0 41 (wdP 13)) := ew_32
  have hl_32 : w_32.length = (s + 10) := by rw [ew_32, List.length_set, hl_31]
  have hw_32 : mLowW w_32.length w_32 := by rw [hl_32, ew_32]; exact mLowW.set (by rw [← hl_31]; exact hw_31) trivial
  have hf32_s : w_32[s]? = some (mO 10 [.int 0, .int 0, .int (-1), .int (-1), .int 0, .ref (s + 1), .ref (s + 2), .ref (s + 3), .ref (s + 4), .ref (s + 5), .ref (s + 6), .ref (s + 7), .ref (s + 8), .null, .null, .int 0, .int 0, .int 0, .int 0, .int 0, .int 0]) := by rw [ew_32, List.getElem?_set_ne (by omega)]; exact hf31_s
  have hf32__s___1_ : w_32[(s + 1)]? = some (mI 0 67 (fun _ => 0)) := by rw [ew_32, List.getElem?_set_ne (by omega)]; exact hf31__s___1_
  have hf32__s___2_ : w_32[(s + 2)]? = some (mI 0 67 (fun _ => 0)) := by rw [ew_32, List.getElem?_set_ne (by omega)]; exact hf31__s___2_
  have hf32__s___3_ : w_32[(s + 3)]? = some (mI 0 67 (fun _ => 0)) := by rw [ew_32, List.getElem?_set_ne (by omega)]; exact hf31__s___3_
  have hf32__s___4_ : w_32[(s + 4)]? = some (mI 0 67 (fun _ => 0)) := by rw [ew_32, List.getElem?_set_ne (by omega)]; exact hf31__s___4_
  have hf32__s___5_ : w_32[(s + 5)]? = some (mI 0 536 (fun _ => 0)) := by rw [ew_32, List.getElem?_set_ne (by omega)]; exact hf31__s___5_
  have hf32__s___6_ : w_32[(s + 6)]? = some (mI 0 60 (fun _ => 0)) := by rw [ew_32, List.getElem?_set_ne (by omega)]; exact hf31__s___6_
  have hf32__s___7_ : w_32[(s + 7)]? = some (mI 0 40 (fun _ => 0)) := by rw [ew_32, List.getElem?_set_ne (by omega)]; exact hf31__s___7_
  have hf32__s___8_ : w_32[(s + 8)]? = some (mI 0 8 (fun _ => 0)) := by rw [ew_32, List.getElem?_set_ne (by omega)]; exact hf31__s___8_
  have hf32__s___9_ : w_32[(s + 9)]? = some (mI 0 41 (wdP 13)) := by rw [ew_32]; exact List.getElem?_set_self (lt_of_get hf31__s___9_)
  refine r_dup hC dX9_init_156 rfl ?_
  refine r_bipush hC dX9_init_157 (v := 13) (by decide) ?_
  refine r_bipush hC dX9_init_159 (v := 105) (by decide) ?_
  refine r_iast' hC dX9_init_161 (j := 13) hf32__s___9_ ⟨by decide, by decide, by decide⟩ (fun w_33 ew_33 => ?_)
  rw [wdP_up (by decide)] at ew_33
  replace ew_33 : w_33 = (w_32).set ((s + 9)) (mI 0 41 (wdP 14)) := ew_33
  have hl_33 : w_33.length = (s + 10) := by rw [ew_33, List.length_set, hl_32]
  have hw_33 : mLowW w_33.length w_33 := by rw [hl_33, ew_33]; exact mLowW.set (by rw [← hl_32]; exact hw_32) trivial
  have hf33_s : w_33[s]? = some (mO 10 [.int 0, .int 0, .int (-1), .int (-1), .int 0, .ref (s + 1), .ref (s + 2), .ref (s + 3), .ref (s + 4), .ref (s + 5), .ref (s + 6), .ref (s + 7), .ref (s + 8), .null, .null, .int 0, .int 0, .int 0, .int 0, .int 0, .int 0]) := by rw [ew_33, List.getElem?_set_ne (by omega)]; exact hf32_s
  have hf33__s___1_ : w_33[(s + 1)]? = some (mI 0 67 (fun _ => 0)) := by rw [ew_33, List.getElem?_set_ne (by omega)]; exact hf32__s___1_
  have hf33__s___2_ : w_33[(s + 2)]? = some (mI 0 67 (fun _ => 0)) := by rw [ew_33, List.getElem?_set_ne (by omega)]; exact hf32__s___2_
  have hf33__s___3_ : w_33[(s + 3)]? = some (mI 0 67 (fun _ => 0)) := by rw [ew_33, List.getElem?_set_ne (by omega)]; exact hf32__s___3_
  have hf33__s___4_ : w_33[(s + 4)]? = some (mI 0 67 (fun _ => 0)) := by rw [ew_33, List.getElem?_set_ne (by omega)]; exact hf32__s___4_
  have hf33__s___5_ : w_33[(s + 5)]? = some (mI 0 536 (fun _ => 0)) := by rw [ew_33, List.getElem?_set_ne (by omega)]; exact hf32__s___5_
  have hf33__s___6_ : w_33[(s + 6)]? = some (mI 0 60 (fun _ => 0)) := by rw [ew_33, List.getElem?_set_ne (by omega)]; exact hf32__s___6_
  have hf33__s___7_ : w_33[(s + 7)]? = some (mI 0 40 (fun _ => 0)) := by rw [ew_33, List.getElem?_set_ne (by omega)]; exact hf32__s___7_
  have hf33__s___8_ : w_33[(s + 8)]? = some (mI 0 8 (fun _ => 0)) := by rw [ew_33, List.getElem?_set_ne (by omega)]; exact hf32__s___8_
  have hf33__s___9_ : w_33[(s + 9)]? = some (mI 0 41 (wdP 14)) := by rw [ew_33]; exact List.getElem?_set_self (lt_of_get hf32__s___9_)
  refine r_dup hC dX9_init_162 rfl ?_
  refine r_bipush hC dX9_init_163 (v := 14) (by decide) ?_
  refine r_bipush hC dX9_init_165 (v := 108) (by decide) ?_
  refine r_iast' hC dX9_init_167 (j := 14) hf33__s___9_ ⟨by decide, by decide, by decide⟩ (fun w_34 ew_34 => ?_)
  rw [wdP_up (by decide)] at ew_34
  replace ew_34 : w_34 = (w_33).set ((s + 9)) (mI 0 41 (wdP 15)) := ew_34
  have hl_34 : w_34.length = (s + 10) := by rw [ew_34, List.length_set, hl_33]
  have hw_34 : mLowW w_34.length w_34 := by rw [hl_34, ew_34]; exact mLowW.set (by rw [← hl_33]; exact hw_33) trivial
  have hf34_s : w_34[s]? = some (mO 10 [.int 0, .int 0, .int (-1), .int (-1), .int 0, .ref (s + 1), .ref (s + 2), .ref (s + 3), .ref (s + 4), .ref (s + 5), .ref (s + 6), .ref (s + 7), .ref (s + 8), .null, .null, .int 0, .int 0, .int 0, .int 0, .int 0, .int 0]) := by rw [ew_34, List.getElem?_set_ne (by omega)]; exact hf33_s
  have hf34__s___1_ : w_34[(s + 1)]? = some (mI 0 67 (fun _ => 0)) := by rw [ew_34, List.getElem?_set_ne (by omega)]; exact hf33__s___1_
  have hf34__s___2_ : w_34[(s + 2)]? = some (mI 0 67 (fun _ => 0)) := by rw [ew_34, List.getElem?_set_ne (by omega)]; exact hf33__s___2_
  have hf34__s___3_ : w_34[(s + 3)]? = some (mI 0 67 (fun _ => 0)) := by rw [ew_34, List.getElem?_set_ne (by omega)]; exact hf33__s___3_
  have hf34__s___4_ : w_34[(s + 4)]? = some (mI 0 67 (fun _ => 0)) := by rw [ew_34, List.getElem?_set_ne (by omega)]; exact hf33__s___4_
  have hf34__s___5_ : w_34[(s + 5)]? = some (mI 0 536 (fun _ => 0)) := by rw [ew_34, List.getElem?_set_ne (by omega)]; exact hf33__s___5_
  have hf34__s___6_ : w_34[(s + 6)]? = some (mI 0 60 (fun _ => 0)) := by rw [ew_34, List.getElem?_set_ne (by omega)]; exact hf33__s___6_
  have hf34__s___7_ : w_34[(s + 7)]? = some (mI 0 40 (fun _ => 0)) := by rw [ew_34, List.getElem?_set_ne (by omega)]; exact hf33__s___7_
  have hf34__s___8_ : w_34[(s + 8)]? = some (mI 0 8 (fun _ => 0)) := by rw [ew_34, List.getElem?_set_ne (by omega)]; exact hf33__s___8_
  have hf34__s___9_ : w_34[(s + 9)]? = some (mI 0 41 (wdP 15)) := by rw [ew_34]; exact List.getElem?_set_self (lt_of_get hf33__s___9_)
  refine r_dup hC dX9_init_168 rfl ?_
  refine r_bipush hC dX9_init_169 (v := 15) (by decide) ?_
  refine r_bipush hC dX9_init_171 (v := 101) (by decide) ?_
  refine r_iast' hC dX9_init_173 (j := 15) hf34__s___9_ ⟨by decide, by decide, by decide⟩ (fun w_35 ew_35 => ?_)
  rw [wdP_up (by decide)] at ew_35
  replace ew_35 : w_35 = (w_34).set ((s + 9)) (mI 0 41 (wdP 16)) := ew_35
  have hl_35 : w_35.length = (s + 10) := by rw [ew_35, List.length_set, hl_34]
  have hw_35 : mLowW w_35.length w_35 := by rw [hl_35, ew_35]; exact mLowW.set (by rw [← hl_34]; exact hw_34) trivial
  have hf35_s : w_35[s]? = some (mO 10 [.int 0, .int 0, .int (-1), .int (-1), .int 0, .ref (s + 1), .ref (s + 2), .ref (s + 3), .ref (s + 4), .ref (s + 5), .ref (s + 6), .ref (s + 7), .ref (s + 8), .null, .null, .int 0, .int 0, .int 0, .int 0, .int 0, .int 0]) := by rw [ew_35, List.getElem?_set_ne (by omega)]; exact hf34_s
  have hf35__s___1_ : w_35[(s + 1)]? = some (mI 0 67 (fun _ => 0)) := by rw [ew_35, List.getElem?_set_ne (by omega)]; exact hf34__s___1_
  have hf35__s___2_ : w_35[(s + 2)]? = some (mI 0 67 (fun _ => 0)) := by rw [ew_35, List.getElem?_set_ne (by omega)]; exact hf34__s___2_
  have hf35__s___3_ : w_35[(s + 3)]? = some (mI 0 67 (fun _ => 0)) := by rw [ew_35, List.getElem?_set_ne (by omega)]; exact hf34__s___3_
  have hf35__s___4_ : w_35[(s + 4)]? = some (mI 0 67 (fun _ => 0)) := by rw [ew_35, List.getElem?_set_ne (by omega)]; exact hf34__s___4_
  have hf35__s___5_ : w_35[(s + 5)]? = some (mI 0 536 (fun _ => 0)) := by rw [ew_35, List.getElem?_set_ne (by omega)]; exact hf34__s___5_
  have hf35__s___6_ : w_35[(s + 6)]? = some (mI 0 60 (fun _ => 0)) := by rw [ew_35, List.getElem?_set_ne (by omega)]; exact hf34__s___6_
  have hf35__s___7_ : w_35[(s + 7)]? = some (mI 0 40 (fun _ => 0)) := by rw [ew_35, List.getElem?_set_ne (by omega)]; exact hf34__s___7_
  have hf35__s___8_ : w_35[(s + 8)]? = some (mI 0 8 (fun _ => 0)) := by rw [ew_35, List.getElem?_set_ne (by omega)]; exact hf34__s___8_
  have hf35__s___9_ : w_35[(s + 9)]? = some (mI 0 41 (wdP 16)) := by rw [ew_35]; exact List.getElem?_set_self (lt_of_get hf34__s___9_)
  refine r_dup hC dX9_init_174 rfl ?_
  refine r_bipush hC dX9_init_175 (v := 16) (by decide) ?_
  refine r_bipush hC dX9_init_177 (v := 32) (by decide) ?_
  refine r_iast' hC dX9_init_179 (j := 16) hf35__s___9_ ⟨by decide, by decide, by decide⟩ (fun w_36 ew_36 => ?_)
  rw [wdP_up (by decide)] at ew_36
  replace ew_36 : w_36 = (w_35).set ((s + 9)) (mI 0 41 (wdP 17)) := ew_36
  have hl_36 : w_36.length = (s + 10) := by rw [ew_36, List.length_set, hl_35]
  have hw_36 : mLowW w_36.length w_36 := by rw [hl_36, ew_36]; exact mLowW.set (by rw [← hl_35]; exact hw_35) trivial
  have hf36_s : w_36[s]? = some (mO 10 [.int 0, .int 0, .int (-1), .int (-1), .int 0, .ref (s + 1), .ref (s + 2), .ref (s + 3), .ref (s + 4), .ref (s + 5), .ref (s + 6), .ref (s + 7), .ref (s + 8), .null, .null, .int 0, .int 0, .int 0, .int 0, .int 0, .int 0]) := by rw [ew_36, List.getElem?_set_ne (by omega)]; exact hf35_s
  have hf36__s___1_ : w_36[(s + 1)]? = some (mI 0 67 (fun _ => 0)) := by rw [ew_36, List.getElem?_set_ne (by omega)]; exact hf35__s___1_
  have hf36__s___2_ : w_36[(s + 2)]? = some (mI 0 67 (fun _ => 0)) := by rw [ew_36, List.getElem?_set_ne (by omega)]; exact hf35__s___2_
  have hf36__s___3_ : w_36[(s + 3)]? = some (mI 0 67 (fun _ => 0)) := by rw [ew_36, List.getElem?_set_ne (by omega)]; exact hf35__s___3_
  have hf36__s___4_ : w_36[(s + 4)]? = some (mI 0 67 (fun _ => 0)) := by rw [ew_36, List.getElem?_set_ne (by omega)]; exact hf35__s___4_
  have hf36__s___5_ : w_36[(s + 5)]? = some (mI 0 536 (fun _ => 0)) := by rw [ew_36, List.getElem?_set_ne (by omega)]; exact hf35__s___5_
  have hf36__s___6_ : w_36[(s + 6)]? = some (mI 0 60 (fun _ => 0)) := by rw [ew_36, List.getElem?_set_ne (by omega)]; exact hf35__s___6_
  have hf36__s___7_ : w_36[(s + 7)]? = some (mI 0 40 (fun _ => 0)) := by rw [ew_36, List.getElem?_set_ne (by omega)]; exact hf35__s___7_
  have hf36__s___8_ : w_36[(s + 8)]? = some (mI 0 8 (fun _ => 0)) := by rw [ew_36, List.getElem?_set_ne (by omega)]; exact hf35__s___8_
  have hf36__s___9_ : w_36[(s + 9)]? = some (mI 0 41 (wdP 17)) := by rw [ew_36]; exact List.getElem?_set_self (lt_of_get hf35__s___9_)
  refine r_dup hC dX9_init_180 rfl ?_
  refine r_bipush hC dX9_init_181 (v := 17) (by decide) ?_
  refine r_bipush hC dX9_init_183 (v := 116) (by decide) ?_
  refine r_iast' hC dX9_init_185 (j := 17) hf36__s___9_ ⟨by decide, by decide, by decide⟩ (fun w_37 ew_37 => ?_)
  rw [wdP_up (by decide)] at ew_37
  replace ew_37 : w_37 = (w_36).set ((s + 9)) (mI 0 41 (wdP 18)) := ew_37
  have hl_37 : w_37.length = (s + 10) := by rw [ew_37, List.length_set, hl_36]
  have hw_37 : mLowW w_37.length w_37 := by rw [hl_37, ew_37]; exact mLowW.set (by rw [← hl_36]; exact hw_36) trivial
  have hf37_s : w_37[s]? = some (mO 10 [.int 0, .int 0, .int (-1), .int (-1), .int 0, .ref (s + 1), .ref (s + 2), .ref (s + 3), .ref (s + 4), .ref (s + 5), .ref (s + 6), .ref (s + 7), .ref (s + 8), .null, .null, .int 0, .int 0, .int 0, .int 0, .int 0, .int 0]) := by rw [ew_37, List.getElem?_set_ne (by omega)]; exact hf36_s
  have hf37__s___1_ : w_37[(s + 1)]? = some (mI 0 67 (fun _ => 0)) := by rw [ew_37, List.getElem?_set_ne (by omega)]; exact hf36__s___1_
  have hf37__s___2_ : w_37[(s + 2)]? = some (mI 0 67 (fun _ => 0)) := by rw [ew_37, List.getElem?_set_ne (by omega)]; exact hf36__s___2_
  have hf37__s___3_ : w_37[(s + 3)]? = some (mI 0 67 (fun _ => 0)) := by rw [ew_37, List.getElem?_set_ne (by omega)]; exact hf36__s___3_
  have hf37__s___4_ : w_37[(s + 4)]? = some (mI 0 67 (fun _ => 0)) := by rw [ew_37, List.getElem?_set_ne (by omega)]; exact hf36__s___4_
  have hf37__s___5_ : w_37[(s + 5)]? = some (mI 0 536 (fun _ => 0)) := by rw [ew_37, List.getElem?_set_ne (by omega)]; exact hf36__s___5_
  have hf37__s___6_ : w_37[(s + 6)]? = some (mI 0 60 (fun _ => 0)) := by rw [ew_37, List.getElem?_set_ne (by omega)]; exact hf36__s___6_
  have hf37__s___7_ : w_37[(s + 7)]? = some (mI 0 40 (fun _ => 0)) := by rw [ew_37, List.getElem?_set_ne (by omega)]; exact hf36__s___7_
  have hf37__s___8_ : w_37[(s + 8)]? = some (mI 0 8 (fun _ => 0)) := by rw [ew_37, List.getElem?_set_ne (by omega)]; exact hf36__s___8_
  have hf37__s___9_ : w_37[(s + 9)]? = some (mI 0 41 (wdP 18)) := by rw [ew_37]; exact List.getElem?_set_self (lt_of_get hf36__s___9_)
  refine r_dup hC dX9_init_186 rfl ?_
  refine r_bipush hC dX9_init_187 (v := 18) (by decide) ?_
  refine r_bipush hC dX9_init_189 (v := 97) (by decide) ?_
  refine r_iast' hC dX9_init_191 (j := 18) hf37__s___9_ ⟨by decide, by decide, by decide⟩ (fun w_38 ew_38 => ?_)
  rw [wdP_up (by decide)] at ew_38
  replace ew_38 : w_38 = (w_37).set ((s + 9)) (mI 0 41 (wdP 19)) := ew_38
  have hl_38 : w_38.length = (s + 10) := by rw [ew_38, List.length_set, hl_37]
  have hw_38 : mLowW w_38.length w_38 := by rw [hl_38, ew_38]; exact mLowW.set (by rw [← hl_37]; exact hw_37) trivial
  have hf38_s : w_38[s]? = some (mO 10 [.int 0, .int 0, .int (-1), .int (-1), .int 0, .ref (s + 1), .ref (s + 2), .ref (s + 3), .ref (s + 4), .ref (s + 5), .ref (s + 6), .ref (s + 7), .ref (s + 8), .null, .null, .int 0, .int 0, .int 0, .int 0, .int 0, .int 0]) := by rw [ew_38, List.getElem?_set_ne (by omega)]; exact hf37_s
  have hf38__s___1_ : w_38[(s + 1)]? = some (mI 0 67 (fun _ => 0)) := by rw [ew_38, List.getElem?_set_ne (by omega)]; exact hf37__s___1_
  have hf38__s___2_ : w_38[(s + 2)]? = some (mI 0 67 (fun _ => 0)) := by rw [ew_38, List.getElem?_set_ne (by omega)]; exact hf37__s___2_
  have hf38__s___3_ : w_38[(s + 3)]? = some (mI 0 67 (fun _ => 0)) := by rw [ew_38, List.getElem?_set_ne (by omega)]; exact hf37__s___3_
  have hf38__s___4_ : w_38[(s + 4)]? = some (mI 0 67 (fun _ => 0)) := by rw [ew_38, List.getElem?_set_ne (by omega)]; exact hf37__s___4_
  have hf38__s___5_ : w_38[(s + 5)]? = some (mI 0 536 (fun _ => 0)) := by rw [ew_38, List.getElem?_set_ne (by omega)]; exact hf37__s___5_
  have hf38__s___6_ : w_38[(s + 6)]? = some (mI 0 60 (fun _ => 0)) := by rw [ew_38, List.getElem?_set_ne (by omega)]; exact hf37__s___6_
  have hf38__s___7_ : w_38[(s + 7)]? = some (mI 0 40 (fun _ => 0)) := by rw [ew_38, List.getElem?_set_ne (by omega)]; exact hf37__s___7_
  have hf38__s___8_ : w_38[(s + 8)]? = some (mI 0 8 (fun _ => 0)) := by rw [ew_38, List.getElem?_set_ne (by omega)]; exact hf37__s___8_
  have hf38__s___9_ : w_38[(s + 9)]? = some (mI 0 41 (wdP 19)) := by rw [ew_38]; exact List.getElem?_set_self (lt_of_get hf37__s___9_)
  refine r_dup hC dX9_init_192 rfl ?_
  refine r_bipush hC dX9_init_193 (v := 19) (by decide) ?_
  refine r_bipush hC dX9_init_195 (v := 107) (by decide) ?_
  refine r_iast' hC dX9_init_197 (j := 19) hf38__s___9_ ⟨by decide, by decide, by decide⟩ (fun w_39 ew_39 => ?_)
  rw [wdP_up (by decide)] at ew_39
  replace ew_39 : w_39 = (w_38).set ((s + 9)) (mI 0 41 (wdP 20)) := ew_39
  have hl_39 : w_39.length = (s + 10) := by rw [ew_39, List.length_set, hl_38]
  have hw_39 : mLowW w_39.length w_39 := by rw [hl_39, ew_39]; exact mLowW.set (by rw [← hl_38]; exact hw_38) trivial
  have hf39_s : w_39[s]? = some (mO 10 [.int 0, .int 0, .int (-1), .int (-1), .int 0, .ref (s + 1), .ref (s + 2), .ref (s + 3), .ref (s + 4), .ref (s + 5), .ref (s + 6), .ref (s + 7), .ref (s + 8), .null, .null, .int 0, .int 0, .int 0, .int 0, .int 0, .int 0]) := by rw [ew_39, List.getElem?_set_ne (by omega)]; exact hf38_s
  have hf39__s___1_ : w_39[(s + 1)]? = some (mI 0 67 (fun _ => 0)) := by rw [ew_39, List.getElem?_set_ne (by omega)]; exact hf38__s___1_
  have hf39__s___2_ : w_39[(s + 2)]? = some (mI 0 67 (fun _ => 0)) := by rw [ew_39, List.getElem?_set_ne (by omega)]; exact hf38__s___2_
  have hf39__s___3_ : w_39[(s + 3)]? = some (mI 0 67 (fun _ => 0)) := by rw [ew_39, List.getElem?_set_ne (by omega)]; exact hf38__s___3_
  have hf39__s___4_ : w_39[(s + 4)]? = some (mI 0 67 (fun _ => 0)) := by rw [ew_39, List.getElem?_set_ne (by omega)]; exact hf38__s___4_
  have hf39__s___5_ : w_39[(s + 5)]? = some (mI 0 536 (fun _ => 0)) := by rw [ew_39, List.getElem?_set_ne (by omega)]; exact hf38__s___5_
  have hf39__s___6_ : w_39[(s + 6)]? = some (mI 0 60 (fun _ => 0)) := by rw [ew_39, List.getElem?_set_ne (by omega)]; exact hf38__s___6_
  have hf39__s___7_ : w_39[(s + 7)]? = some (mI 0 40 (fun _ => 0)) := by rw [ew_39, List.getElem?_set_ne (by omega)]; exact hf38__s___7_
  have hf39__s___8_ : w_39[(s + 8)]? = some (mI 0 8 (fun _ => 0)) := by rw [ew_39, List.getElem?_set_ne (by omega)]; exact hf38__s___8_
  have hf39__s___9_ : w_39[(s + 9)]? = some (mI 0 41 (wdP 20)) := by rw [ew_39]; exact List.getElem?_set_self (lt_of_get hf38__s___9_)
  refine r_dup hC dX9_init_198 rfl ?_
  refine r_bipush hC dX9_init_199 (v := 20) (by decide) ?_
  refine r_bipush hC dX9_init_201 (v := 101) (by decide) ?_
  refine r_iast' hC dX9_init_203 (j := 20) hf39__s___9_ ⟨by decide, by decide, by decide⟩ (fun w_40 ew_40 => ?_)
  rw [wdP_up (by decide)] at ew_40
  replace ew_40 : w_40 = (w_39).set ((s + 9)) (mI 0 41 (wdP 21)) := ew_40
  have hl_40 : w_40.length = (s + 10) := by rw [ew_40, List.length_set, hl_39]
  have hw_40 : mLowW w_40.length w_40 := by rw [hl_40, ew_40]; exact mLowW.set (by rw [← hl_39]; exact hw_39) trivial
  have hf40_s : w_40[s]? = some (mO 10 [.int 0, .int 0, .int (-1), .int (-1), .int 0, .ref (s + 1), .ref (s + 2), .ref (s + 3), .ref (s + 4), .ref (s + 5), .ref (s + 6), .ref (s + 7), .ref (s + 8), .null, .null, .int 0, .int 0, .int 0, .int 0, .int 0, .int 0]) := by rw [ew_40, List.getElem?_set_ne (by omega)]; exact hf39_s
  have hf40__s___1_ : w_40[(s + 1)]? = some (mI 0 67 (fun _ => 0)) := by rw [ew_40, List.getElem?_set_ne (by omega)]; exact hf39__s___1_
  have hf40__s___2_ : w_40[(s + 2)]? = some (mI 0 67 (fun _ => 0)) := by rw [ew_40, List.getElem?_set_ne (by omega)]; exact hf39__s___2_
  have hf40__s___3_ : w_40[(s + 3)]? = some (mI 0 67 (fun _ => 0)) := by rw [ew_40, List.getElem?_set_ne (by omega)]; exact hf39__s___3_
  have hf40__s___4_ : w_40[(s + 4)]? = some (mI 0 67 (fun _ => 0)) := by rw [ew_40, List.getElem?_set_ne (by omega)]; exact hf39__s___4_
  have hf40__s___5_ : w_40[(s + 5)]? = some (mI 0 536 (fun _ => 0)) := by rw [ew_40, List.getElem?_set_ne (by omega)]; exact hf39__s___5_
  have hf40__s___6_ : w_40[(s + 6)]? = some (mI 0 60 (fun _ => 0)) := by rw [ew_40, List.getElem?_set_ne (by omega)]; exact hf39__s___6_
  have hf40__s___7_ : w_40[(s + 7)]? = some (mI 0 40 (fun _ => 0)) := by rw [ew_40, List.getElem?_set_ne (by omega)]; exact hf39__s___7_
  have hf40__s___8_ : w_40[(s + 8)]? = some (mI 0 8 (fun _ => 0)) := by rw [ew_40, List.getElem?_set_ne (by omega)]; exact hf39__s___8_
  have hf40__s___9_ : w_40[(s + 9)]? = some (mI 0 41 (wdP 21)) := by rw [ew_40]; exact List.getElem?_set_self (lt_of_get hf39__s___9_)
  refine r_dup hC dX9_init_204 rfl ?_
  refine r_bipush hC dX9_init_205 (v := 21) (by decide) ?_
  refine r_bipush hC dX9_init_207 (v := 32) (by decide) ?_
  refine r_iast' hC dX9_init_209 (j := 21) hf40__s___9_ ⟨by decide, by decide, by decide⟩ (fun w_41 ew_41 => ?_)
  rw [wdP_up (by decide)] at ew_41
  replace ew_41 : w_41 = (w_40).set ((s + 9)) (mI 0 41 (wdP 22)) := ew_41
  have hl_41 : w_41.length = (s + 10) := by rw [ew_41, List.length_set, hl_40]
  have hw_41 : mLowW w_41.length w_41 := by rw [hl_41, ew_41]; exact mLowW.set (by rw [← hl_40]; exact hw_40) trivial
  have hf41_s : w_41[s]? = some (mO 10 [.int 0, .int 0, .int (-1), .int (-1), .int 0, .ref (s + 1), .ref (s + 2), .ref (s + 3), .ref (s + 4), .ref (s + 5), .ref (s + 6), .ref (s + 7), .ref (s + 8), .null, .null, .int 0, .int 0, .int 0, .int 0, .int 0, .int 0]) := by rw [ew_41, List.getElem?_set_ne (by omega)]; exact hf40_s
  have hf41__s___1_ : w_41[(s + 1)]? = some (mI 0 67 (fun _ => 0)) := by rw [ew_41, List.getElem?_set_ne (by omega)]; exact hf40__s___1_
  have hf41__s___2_ : w_41[(s + 2)]? = some (mI 0 67 (fun _ => 0)) := by rw [ew_41, List.getElem?_set_ne (by omega)]; exact hf40__s___2_
  have hf41__s___3_ : w_41[(s + 3)]? = some (mI 0 67 (fun _ => 0)) := by rw [ew_41, List.getElem?_set_ne (by omega)]; exact hf40__s___3_
  have hf41__s___4_ : w_41[(s + 4)]? = some (mI 0 67 (fun _ => 0)) := by rw [ew_41, List.getElem?_set_ne (by omega)]; exact hf40__s___4_
  have hf41__s___5_ : w_41[(s + 5)]? = some (mI 0 536 (fun _ => 0)) := by rw [ew_41, List.getElem?_set_ne (by omega)]; exact hf40__s___5_
  have hf41__s___6_ : w_41[(s + 6)]? = some (mI 0 60 (fun _ => 0)) := by rw [ew_41, List.getElem?_set_ne (by omega)]; exact hf40__s___6_
  have hf41__s___7_ : w_41[(s + 7)]? = some (mI 0 40 (fun _ => 0)) := by rw [ew_41, List.getElem?_set_ne (by omega)]; exact hf40__s___7_
  have hf41__s___8_ : w_41[(s + 8)]? = some (mI 0 8 (fun _ => 0)) := by rw [ew_41, List.getElem?_set_ne (by omega)]; exact hf40__s___8_
  have hf41__s___9_ : w_41[(s + 9)]? = some (mI 0 41 (wdP 22)) := by rw [ew_41]; exact List.getElem?_set_self (lt_of_get hf40__s___9_)
  refine r_dup hC dX9_init_210 rfl ?_
  refine r_bipush hC dX9_init_211 (v := 22) (by decide) ?_
  refine r_bipush hC dX9_init_213 (v := 115) (by decide) ?_
  refine r_iast' hC dX9_init_215 (j := 22) hf41__s___9_ ⟨by decide, by decide, by decide⟩ (fun w_42 ew_42 => ?_)
  rw [wdP_up (by decide)] at ew_42
  replace ew_42 : w_42 = (w_41).set ((s + 9)) (mI 0 41 (wdP 23)) := ew_42
  have hl_42 : w_42.length = (s + 10) := by rw [ew_42, List.length_set, hl_41]
  have hw_42 : mLowW w_42.length w_42 := by rw [hl_42, ew_42]; exact mLowW.set (by rw [← hl_41]; exact hw_41) trivial
  have hf42_s : w_42[s]? = some (mO 10 [.int 0, .int 0, .int (-1), .int (-1), .int 0, .ref (s + 1), .ref (s + 2), .ref (s + 3), .ref (s + 4), .ref (s + 5), .ref (s + 6), .ref (s + 7), .ref (s + 8), .null, .null, .int 0, .int 0, .int 0, .int 0, .int 0, .int 0]) := by rw [ew_42, List.getElem?_set_ne (by omega)]; exact hf41_s
  have hf42__s___1_ : w_42[(s + 1)]? = some (mI 0 67 (fun _ => 0)) := by rw [ew_42, List.getElem?_set_ne (by omega)]; exact hf41__s___1_
  have hf42__s___2_ : w_42[(s + 2)]? = some (mI 0 67 (fun _ => 0)) := by rw [ew_42, List.getElem?_set_ne (by omega)]; exact hf41__s___2_
  have hf42__s___3_ : w_42[(s + 3)]? = some (mI 0 67 (fun _ => 0)) := by rw [ew_42, List.getElem?_set_ne (by omega)]; exact hf41__s___3_
  have hf42__s___4_ : w_42[(s + 4)]? = some (mI 0 67 (fun _ => 0)) := by rw [ew_42, List.getElem?_set_ne (by omega)]; exact hf41__s___4_
  have hf42__s___5_ : w_42[(s + 5)]? = some (mI 0 536 (fun _ => 0)) := by rw [ew_42, List.getElem?_set_ne (by omega)]; exact hf41__s___5_
  have hf42__s___6_ : w_42[(s + 6)]? = some (mI 0 60 (fun _ => 0)) := by rw [ew_42, List.getElem?_set_ne (by omega)]; exact hf41__s___6_
  have hf42__s___7_ : w_42[(s + 7)]? = some (mI 0 40 (fun _ => 0)) := by rw [ew_42, List.getElem?_set_ne (by omega)]; exact hf41__s___7_
  have hf42__s___8_ : w_42[(s + 8)]? = some (mI 0 8 (fun _ => 0)) := by rw [ew_42, List.getElem?_set_ne (by omega)]; exact hf41__s___8_
  have hf42__s___9_ : w_42[(s + 9)]? = some (mI 0 41 (wdP 23)) := by rw [ew_42]; exact List.getElem?_set_self (lt_of_get hf41__s___9_)
  refine r_dup hC dX9_init_216 rfl ?_
  refine r_bipush hC dX9_init_217 (v := 23) (by decide) ?_
  refine r_bipush hC dX9_init_219 (v := 107) (by decide) ?_
  refine r_iast' hC dX9_init_221 (j := 23) hf42__s___9_ ⟨by decide, by decide, by decide⟩ (fun w_43 ew_43 => ?_)
  rw [wdP_up (by decide)] at ew_43
  replace ew_43 : w_43 = (w_42).set ((s + 9)) (mI 0 41 (wdP 24)) := ew_43
  have hl_43 : w_43.length = (s + 10) := by rw [ew_43, List.length_set, hl_42]
  have hw_43 : mLowW w_43.length w_43 := by rw [hl_43, ew_43]; exact mLowW.set (by rw [← hl_42]; exact hw_42) trivial
  have hf43_s : w_43[s]? = some (mO 10 [.int 0, .int 0, .int (-1), .int (-1), .int 0, .ref (s + 1), .ref (s + 2), .ref (s + 3), .ref (s + 4), .ref (s + 5), .ref (s + 6), .ref (s + 7), .ref (s + 8), .null, .null, .int 0, .int 0, .int 0, .int 0, .int 0, .int 0]) := by rw [ew_43, List.getElem?_set_ne (by omega)]; exact hf42_s
  have hf43__s___1_ : w_43[(s + 1)]? = some (mI 0 67 (fun _ => 0)) := by rw [ew_43, List.getElem?_set_ne (by omega)]; exact hf42__s___1_
  have hf43__s___2_ : w_43[(s + 2)]? = some (mI 0 67 (fun _ => 0)) := by rw [ew_43, List.getElem?_set_ne (by omega)]; exact hf42__s___2_
  have hf43__s___3_ : w_43[(s + 3)]? = some (mI 0 67 (fun _ => 0)) := by rw [ew_43, List.getElem?_set_ne (by omega)]; exact hf42__s___3_
  have hf43__s___4_ : w_43[(s + 4)]? = some (mI 0 67 (fun _ => 0)) := by rw [ew_43, List.getElem?_set_ne (by omega)]; exact hf42__s___4_
  have hf43__s___5_ : w_43[(s + 5)]? = some (mI 0 536 (fun _ => 0)) := by rw [ew_43, List.getElem?_set_ne (by omega)]; exact hf42__s___5_
  have hf43__s___6_ : w_43[(s + 6)]? = some (mI 0 60 (fun _ => 0)) := by rw [ew_43, List.getElem?_set_ne (by omega)]; exact hf42__s___6_
  have hf43__s___7_ : w_43[(s + 7)]? = some (mI 0 40 (fun _ => 0)) := by rw [ew_43, List.getElem?_set_ne (by omega)]; exact hf42__s___7_
  have hf43__s___8_ : w_43[(s + 8)]? = some (mI 0 8 (fun _ => 0)) := by rw [ew_43, List.getElem?_set_ne (by omega)]; exact hf42__s___8_
  have hf43__s___9_ : w_43[(s + 9)]? = some (mI 0 41 (wdP 24)) := by rw [ew_43]; exact List.getElem?_set_self (lt_of_get hf42__s___9_)
  refine r_dup hC dX9_init_222 rfl ?_
  refine r_bipush hC dX9_init_223 (v := 24) (by decide) ?_
  refine r_bipush hC dX9_init_225 (v := 105) (by decide) ?_
  refine r_iast' hC dX9_init_227 (j := 24) hf43__s___9_ ⟨by decide, by decide, by decide⟩ (fun w_44 ew_44 => ?_)
  rw [wdP_up (by decide)] at ew_44
  replace ew_44 : w_44 = (w_43).set ((s + 9)) (mI 0 41 (wdP 25)) := ew_44
  have hl_44 : w_44.length = (s + 10) := by rw [ew_44, List.length_set, hl_43]
  have hw_44 : mLowW w_44.length w_44 := by rw [hl_44, ew_44]; exact mLowW.set (by rw [← hl_43]; exact hw_43) trivial
  have hf44_s : w_44[s]? = some (mO 10 [.int 0, .int 0, .int (-1), .int (-1), .int 0, .ref (s + 1), .ref (s + 2), .ref (s + 3), .ref (s + 4), .ref (s + 5), .ref (s + 6), .ref (s + 7), .ref (s + 8), .null, .null, .int 0, .int 0, .int 0, .int 0, .int 0, .int 0]) := by rw [ew_44, List.getElem?_set_ne (by omega)]; exact hf43_s
  have hf44__s___1_ : w_44[(s + 1)]? = some (mI 0 67 (fun _ => 0)) := by rw [ew_44, List.getElem?_set_ne (by omega)]; exact hf43__s___1_
  have hf44__s___2_ : w_44[(s + 2)]? = some (mI 0 67 (fun _ => 0)) := by rw [ew_44, List.getElem?_set_ne (by omega)]; exact hf43__s___2_
  have hf44__s___3_ : w_44[(s + 3)]? = some (mI 0 67 (fun _ => 0)) := by rw [ew_44, List.getElem?_set_ne (by omega)]; exact hf43__s___3_
  have hf44__s___4_ : w_44[(s + 4)]? = some (mI 0 67 (fun _ => 0)) := by rw [ew_44, List.getElem?_set_ne (by omega)]; exact hf43__s___4_
  have hf44__s___5_ : w_44[(s + 5)]? = some (mI 0 536 (fun _ => 0)) := by rw [ew_44, List.getElem?_set_ne (by omega)]; exact hf43__s___5_
  have hf44__s___6_ : w_44[(s + 6)]? = some (mI 0 60 (fun _ => 0)) := by rw [ew_44, List.getElem?_set_ne (by omega)]; exact hf43__s___6_
  have hf44__s___7_ : w_44[(s + 7)]? = some (mI 0 40 (fun _ => 0)) := by rw [ew_44, List.getElem?_set_ne (by omega)]; exact hf43__s___7_
  have hf44__s___8_ : w_44[(s + 8)]? = some (mI 0 8 (fun _ => 0)) := by rw [ew_44, List.getElem?_set_ne (by omega)]; exact hf43__s___8_
  have hf44__s___9_ : w_44[(s + 9)]? = some (mI 0 41 (wdP 25)) := by rw [ew_44]; exact List.getElem?_set_self (lt_of_get hf43__s___9_)
  refine r_dup hC dX9_init_228 rfl ?_
  refine r_bipush hC dX9_init_229 (v := 25) (by decide) ?_
  refine r_bipush hC dX9_init_231 (v := 112) (by decide) ?_
  refine r_iast' hC dX9_init_233 (j := 25) hf44__s___9_ ⟨by decide, by decide, by decide⟩ (fun w_45 ew_45 => ?_)
  rw [wdP_up (by decide)] at ew_45
  replace ew_45 : w_45 = (w_44).set ((s + 9)) (mI 0 41 (wdP 26)) := ew_45
  have hl_45 : w_45.length = (s + 10) := by rw [ew_45, List.length_set, hl_44]
  have hw_45 : mLowW w_45.length w_45 := by rw [hl_45, ew_45]; exact mLowW.set (by rw [← hl_44]; exact hw_44) trivial
  have hf45_s : w_45[s]? = some (mO 10 [.int 0, .int 0, .int (-1), .int (-1), .int 0, .ref (s + 1), .ref (s + 2), .ref (s + 3), .ref (s + 4), .ref (s + 5), .ref (s + 6), .ref (s + 7), .ref (s + 8), .null, .null, .int 0, .int 0, .int 0, .int 0, .int 0, .int 0]) := by rw [ew_45, List.getElem?_set_ne (by omega)]; exact hf44_s
  have hf45__s___1_ : w_45[(s + 1)]? = some (mI 0 67 (fun _ => 0)) := by rw [ew_45, List.getElem?_set_ne (by omega)]; exact hf44__s___1_
  have hf45__s___2_ : w_45[(s + 2)]? = some (mI 0 67 (fun _ => 0)) := by rw [ew_45, List.getElem?_set_ne (by omega)]; exact hf44__s___2_
  have hf45__s___3_ : w_45[(s + 3)]? = some (mI 0 67 (fun _ => 0)) := by rw [ew_45, List.getElem?_set_ne (by omega)]; exact hf44__s___3_
  have hf45__s___4_ : w_45[(s + 4)]? = some (mI 0 67 (fun _ => 0)) := by rw [ew_45, List.getElem?_set_ne (by omega)]; exact hf44__s___4_
  have hf45__s___5_ : w_45[(s + 5)]? = some (mI 0 536 (fun _ => 0)) := by rw [ew_45, List.getElem?_set_ne (by omega)]; exact hf44__s___5_
  have hf45__s___6_ : w_45[(s + 6)]? = some (mI 0 60 (fun _ => 0)) := by rw [ew_45, List.getElem?_set_ne (by omega)]; exact hf44__s___6_
  have hf45__s___7_ : w_45[(s + 7)]? = some (mI 0 40 (fun _ => 0)) := by rw [ew_45, List.getElem?_set_ne (by omega)]; exact hf44__s___7_
  have hf45__s___8_ : w_45[(s + 8)]? = some (mI 0 8 (fun _ => 0)) := by rw [ew_45, List.getElem?_set_ne (by omega)]; exact hf44__s___8_
  have hf45__s___9_ : w_45[(s + 9)]? = some (mI 0 41 (wdP 26)) := by rw [ew_45]; exact List.getElem?_set_self (lt_of_get hf44__s___9_)
  refine r_dup hC dX9_init_234 rfl ?_
  refine r_bipush hC dX9_init_235 (v := 26) (by decide) ?_
  refine r_bipush hC dX9_init_237 (v := 115) (by decide) ?_
  refine r_iast' hC dX9_init_239 (j := 26) hf45__s___9_ ⟨by decide, by decide, by decide⟩ (fun w_46 ew_46 => ?_)
  rw [wdP_up (by decide)] at ew_46
  replace ew_46 : w_46 = (w_45).set ((s + 9)) (mI 0 41 (wdP 27)) := ew_46
  have hl_46 : w_46.length = (s + 10) := by rw [ew_46, List.length_set, hl_45]
  have hw_46 : mLowW w_46.length w_46 := by rw [hl_46, ew_46]; exact mLowW.set (by rw [← hl_45]; exact hw_45) trivial
  have hf46_s : w_46[s]? = some (mO 10 [.int 0, .int 0, .int (-1), .int (-1), .int 0, .ref (s + 1), .ref (s + 2), .ref (s + 3), .ref (s + 4), .ref (s + 5), .ref (s + 6), .ref (s + 7), .ref (s + 8), .null, .null, .int 0, .int 0, .int 0, .int 0, .int 0, .int 0]) := by rw [ew_46, List.getElem?_set_ne (by omega)]; exact hf45_s
  have hf46__s___1_ : w_46[(s + 1)]? = some (mI 0 67 (fun _ => 0)) := by rw [ew_46, List.getElem?_set_ne (by omega)]; exact hf45__s___1_
  have hf46__s___2_ : w_46[(s + 2)]? = some (mI 0 67 (fun _ => 0)) := by rw [ew_46, List.getElem?_set_ne (by omega)]; exact hf45__s___2_
  have hf46__s___3_ : w_46[(s + 3)]? = some (mI 0 67 (fun _ => 0)) := by rw [ew_46, List.getElem?_set_ne (by omega)]; exact hf45__s___3_
  have hf46__s___4_ : w_46[(s + 4)]? = some (mI 0 67 (fun _ => 0)) := by rw [ew_46, List.getElem?_set_ne (by omega)]; exact hf45__s___4_
  have hf46__s___5_ : w_46[(s + 5)]? = some (mI 0 536 (fun _ => 0)) := by rw [ew_46, List.getElem?_set_ne (by omega)]; exact hf45__s___5_
  have hf46__s___6_ : w_46[(s + 6)]? = some (mI 0 60 (fun _ => 0)) := by rw [ew_46, List.getElem?_set_ne (by omega)]; exact hf45__s___6_
  have hf46__s___7_ : w_46[(s + 7)]? = some (mI 0 40 (fun _ => 0)) := by rw [ew_46, List.getElem?_set_ne (by omega)]; exact hf45__s___7_
  have hf46__s___8_ : w_46[(s + 8)]? = some (mI 0 8 (fun _ => 0)) := by rw [ew_46, List.getElem?_set_ne (by omega)]; exact hf45__s___8_
  have hf46__s___9_ : w_46[(s + 9)]? = some (mI 0 41 (wdP 27)) := by rw [ew_46]; exact List.getElem?_set_self (lt_of_get hf45__s___9_)
  refine r_dup hC dX9_init_240 rfl ?_
  refine r_bipush hC dX9_init_241 (v := 27) (by decide) ?_
  refine r_bipush hC dX9_init_243 (v := 108) (by decide) ?_
  refine r_iast' hC dX9_init_245 (j := 27) hf46__s___9_ ⟨by decide, by decide, by decide⟩ (fun w_47 ew_47 => ?_)
  rw [wdP_up (by decide)] at ew_47
  replace ew_47 : w_47 = (w_46).set ((s + 9)) (mI 0 41 (wdP 28)) := ew_47
  have hl_47 : w_47.length = (s + 10) := by rw [ew_47, List.length_set, hl_46]
  have hw_47 : mLowW w_47.length w_47 := by rw [hl_47, ew_47]; exact mLowW.set (by rw [← hl_46]; exact hw_46) trivial
  have hf47_s : w_47[s]? = some (mO 10 [.int 0, .int 0, .int (-1), .int (-1), .int 0, .ref (s + 1), .ref (s + 2), .ref (s + 3), .ref (s + 4), .ref (s + 5), .ref (s + 6), .ref (s + 7), .ref (s + 8), .null, .null, .int 0, .int 0, .int 0, .int 0, .int 0, .int 0]) := by rw [ew_47, List.getElem?_set_ne (by omega)]; exact hf46_s
  have hf47__s___1_ : w_47[(s + 1)]? = some (mI 0 67 (fun _ => 0)) := by rw [ew_47, List.getElem?_set_ne (by omega)]; exact hf46__s___1_
  have hf47__s___2_ : w_47[(s + 2)]? = some (mI 0 67 (fun _ => 0)) := by rw [ew_47, List.getElem?_set_ne (by omega)]; exact hf46__s___2_
  have hf47__s___3_ : w_47[(s + 3)]? = some (mI 0 67 (fun _ => 0)) := by rw [ew_47, List.getElem?_set_ne (by omega)]; exact hf46__s___3_
  have hf47__s___4_ : w_47[(s + 4)]? = some (mI 0 67 (fun _ => 0)) := by rw [ew_47, List.getElem?_set_ne (by omega)]; exact hf46__s___4_
  have hf47__s___5_ : w_47[(s + 5)]? = some (mI 0 536 (fun _ => 0)) := by rw [ew_47, List.getElem?_set_ne (by omega)]; exact hf46__s___5_
  have hf47__s___6_ : w_47[(s + 6)]? = some (mI 0 60 (fun _ => 0)) := by rw [ew_47, List.getElem?_set_ne (by omega)]; exact hf46__s___6_
  have hf47__s___7_ : w_47[(s + 7)]? = some (mI 0 40 (fun _ => 0)) := by rw [ew_47, List.getElem?_set_ne (by omega)]; exact hf46__s___7_
  have hf47__s___8_ : w_47[(s + 8)]? = some (mI 0 8 (fun _ => 0)) := by rw [ew_47, List.getElem?_set_ne (by omega)]; exact hf46__s___8_
  have hf47__s___9_ : w_47[(s + 9)]? = some (mI 0 41 (wdP 28)) := by rw [ew_47]; exact List.getElem?_set_self (lt_of_get hf46__s___9_)
  refine r_dup hC dX9_init_246 rfl ?_
  refine r_bipush hC dX9_init_247 (v := 28) (by decide) ?_
  refine r_bipush hC dX9_init_249 (v := 111) (by decide) ?_
  refine r_iast' hC dX9_init_251 (j := 28) hf47__s___9_ ⟨by decide, by decide, by decide⟩ (fun w_48 ew_48 => ?_)
  rw [wdP_up (by decide)] at ew_48
  replace ew_48 : w_48 = (w_47).set ((s + 9)) (mI 0 41 (wdP 29)) := ew_48
  have hl_48 : w_48.length = (s + 10) := by rw [ew_48, List.length_set, hl_47]
  have hw_48 : mLowW w_48.length w_48 := by rw [hl_48, ew_48]; exact mLowW.set (by rw [← hl_47]; exact hw_47) trivial
  have hf48_s : w_48[s]? = some (mO 10 [.int 0, .int 0, .int (-1), .int (-1), .int 0, .ref (s + 1), .ref (s + 2), .ref (s + 3), .ref (s + 4), .ref (s + 5), .ref (s + 6), .ref (s + 7), .ref (s + 8), .null, .null, .int 0, .int 0, .int 0, .int 0, .int 0, .int 0]) := by rw [ew_48, List.getElem?_set_ne (by omega)]; exact hf47_s
  have hf48__s___1_ : w_48[(s + 1)]? = some (mI 0 67 (fun _ => 0)) := by rw [ew_48, List.getElem?_set_ne (by omega)]; exact hf47__s___1_
  have hf48__s___2_ : w_48[(s + 2)]? = some (mI 0 67 (fun _ => 0)) := by rw [ew_48, List.getElem?_set_ne (by omega)]; exact hf47__s___2_
  have hf48__s___3_ : w_48[(s + 3)]? = some (mI 0 67 (fun _ => 0)) := by rw [ew_48, List.getElem?_set_ne (by omega)]; exact hf47__s___3_
  have hf48__s___4_ : w_48[(s + 4)]? = some (mI 0 67 (fun _ => 0)) := by rw [ew_48, List.getElem?_set_ne (by omega)]; exact hf47__s___4_
  have hf48__s___5_ : w_48[(s + 5)]? = some (mI 0 536 (fun _ => 0)) := by rw [ew_48, List.getElem?_set_ne (by omega)]; exact hf47__s___5_
  have hf48__s___6_ : w_48[(s + 6)]? = some (mI 0 60 (fun _ => 0)) := by rw [ew_48, List.getElem?_set_ne (by omega)]; exact hf47__s___6_
  have hf48__s___7_ : w_48[(s + 7)]? = some (mI 0 40 (fun _ => 0)) := by rw [ew_48, List.getElem?_set_ne (by omega)]; exact hf47__s___7_
  have hf48__s___8_ : w_48[(s + 8)]? = some (mI 0 8 (fun _ => 0)) := by rw [ew_48, List.getElem?_set_ne (by omega)]; exact hf47__s___8_
  have hf48__s___9_ : w_48[(s + 9)]? = some (mI 0 41 (wdP 29)) := by rw [ew_48]; exact List.getElem?_set_self (lt_of_get hf47__s___9_)
  refine r_dup hC dX9_init_252 rfl ?_
  refine r_bipush hC dX9_init_253 (v := 29) (by decide) ?_
  refine r_bipush hC dX9_init_255 (v := 112) (by decide) ?_
  refine r_iast' hC dX9_init_257 (j := 29) hf48__s___9_ ⟨by decide, by decide, by decide⟩ (fun w_49 ew_49 => ?_)
  rw [wdP_up (by decide)] at ew_49
  replace ew_49 : w_49 = (w_48).set ((s + 9)) (mI 0 41 (wdP 30)) := ew_49
  have hl_49 : w_49.length = (s + 10) := by rw [ew_49, List.length_set, hl_48]
  have hw_49 : mLowW w_49.length w_49 := by rw [hl_49, ew_49]; exact mLowW.set (by rw [← hl_48]; exact hw_48) trivial
  have hf49_s : w_49[s]? = some (mO 10 [.int 0, .int 0, .int (-1), .int (-1), .int 0, .ref (s + 1), .ref (s + 2), .ref (s + 3), .ref (s + 4), .ref (s + 5), .ref (s + 6), .ref (s + 7), .ref (s + 8), .null, .null, .int 0, .int 0, .int 0, .int 0, .int 0, .int 0]) := by rw [ew_49, List.getElem?_set_ne (by omega)]; exact hf48_s
  have hf49__s___1_ : w_49[(s + 1)]? = some (mI 0 67 (fun _ => 0)) := by rw [ew_49, List.getElem?_set_ne (by omega)]; exact hf48__s___1_
  have hf49__s___2_ : w_49[(s + 2)]? = some (mI 0 67 (fun _ => 0)) := by rw [ew_49, List.getElem?_set_ne (by omega)]; exact hf48__s___2_
  have hf49__s___3_ : w_49[(s + 3)]? = some (mI 0 67 (fun _ => 0)) := by rw [ew_49, List.getElem?_set_ne (by omega)]; exact hf48__s___3_
  have hf49__s___4_ : w_49[(s + 4)]? = some (mI 0 67 (fun _ => 0)) := by rw [ew_49, List.getElem?_set_ne (by omega)]; exact hf48__s___4_
  have hf49__s___5_ : w_49[(s + 5)]? = some (mI 0 536 (fun _ => 0)) := by rw [ew_49, List.getElem?_set_ne (by omega)]; exact hf48__s___5_
  have hf49__s___6_ : w_49[(s + 6)]? = some (mI 0 60 (fun _ => 0)) := by rw [ew_49, List.getElem?_set_ne (by omega)]; exact hf48__s___6_
  have hf49__s___7_ : w_49[(s + 7)]? = some (mI 0 40 (fun _ => 0)) := by rw [ew_49, List.getElem?_set_ne (by omega)]; exact hf48__s___7_
  have hf49__s___8_ : w_49[(s + 8)]? = some (mI 0 8 (fun _ => 0)) := by rw [ew_49, List.getElem?_set_ne (by omega)]; exact hf48__s___8_
  have hf49__s___9_ : w_49[(s + 9)]? = some (mI 0 41 (wdP 30)) := by rw [ew_49]; exact List.getElem?_set_self (lt_of_get hf48__s___9_)
  refine r_dup hC dX9_init_258 rfl ?_
  refine r_bipush hC dX9_init_259 (v := 30) (by decide) ?_
  refine r_bipush hC dX9_init_261 (v := 101) (by decide) ?_
  refine r_iast' hC dX9_init_263 (j := 30) hf49__s___9_ ⟨by decide, by decide, by decide⟩ (fun w_50 ew_50 => ?_)
  rw [wdP_up (by decide)] at ew_50
  replace ew_50 : w_50 = (w_49).set ((s + 9)) (mI 0 41 (wdP 31)) := ew_50
  have hl_50 : w_50.length = (s + 10) := by rw [ew_50, List.length_set, hl_49]
  have hw_50 : mLowW w_50.length w_50 := by rw [hl_50, ew_50]; exact mLowW.set (by rw [← hl_49]; exact hw_49) trivial
  have hf50_s : w_50[s]? = some (mO 10 [.int 0, .int 0, .int (-1), .int (-1), .int 0, .ref (s + 1), .ref (s + 2), .ref (s + 3), .ref (s + 4), .ref (s + 5), .ref (s + 6), .ref (s + 7), .ref (s + 8), .null, .null, .int 0, .int 0, .int 0, .int 0, .int 0, .int 0]) := by rw [ew_50, List.getElem?_set_ne (by omega)]; exact hf49_s
  have hf50__s___1_ : w_50[(s + 1)]? = some (mI 0 67 (fun _ => 0)) := by rw [ew_50, List.getElem?_set_ne (by omega)]; exact hf49__s___1_
  have hf50__s___2_ : w_50[(s + 2)]? = some (mI 0 67 (fun _ => 0)) := by rw [ew_50, List.getElem?_set_ne (by omega)]; exact hf49__s___2_
  have hf50__s___3_ : w_50[(s + 3)]? = some (mI 0 67 (fun _ => 0)) := by rw [ew_50, List.getElem?_set_ne (by omega)]; exact hf49__s___3_
  have hf50__s___4_ : w_50[(s + 4)]? = some (mI 0 67 (fun _ => 0)) := by rw [ew_50, List.getElem?_set_ne (by omega)]; exact hf49__s___4_
  have hf50__s___5_ : w_50[(s + 5)]? = some (mI 0 536 (fun _ => 0)) := by rw [ew_50, List.getElem?_set_ne (by omega)]; exact hf49__s___5_
  have hf50__s___6_ : w_50[(s + 6)]? = some (mI 0 60 (fun _ => 0)) := by rw [ew_50, List.getElem?_set_ne (by omega)]; exact hf49__s___6_
  have hf50__s___7_ : w_50[(s + 7)]? = some (mI 0 40 (fun _ => 0)) := by rw [ew_50, List.getElem?_set_ne (by omega)]; exact hf49__s___7_
  have hf50__s___8_ : w_50[(s + 8)]? = some (mI 0 8 (fun _ => 0)) := by rw [ew_50, List.getElem?_set_ne (by omega)]; exact hf49__s___8_
  have hf50__s___9_ : w_50[(s + 9)]? = some (mI 0 41 (wdP 31)) := by rw [ew_50]; exact List.getElem?_set_self (lt_of_get hf49__s___9_)
  refine r_dup hC dX9_init_264 rfl ?_
  refine r_bipush hC dX9_init_265 (v := 31) (by decide) ?_
  refine r_bipush hC dX9_init_267 (v := 32) (by decide) ?_
  refine r_iast' hC dX9_init_269 (j := 31) hf50__s___9_ ⟨by decide, by decide, by decide⟩ (fun w_51 ew_51 => ?_)
  rw [wdP_up (by decide)] at ew_51
  replace ew_51 : w_51 = (w_50).set ((s + 9)) (mI 0 41 (wdP 32)) := ew_51
  have hl_51 : w_51.length = (s + 10) := by rw [ew_51, List.length_set, hl_50]
  have hw_51 : mLowW w_51.length w_51 := by rw [hl_51, ew_51]; exact mLowW.set (by rw [← hl_50]; exact hw_50) trivial
  have hf51_s : w_51[s]? = some (mO 10 [.int 0, .int 0, .int (-1), .int (-1), .int 0, .ref (s + 1), .ref (s + 2), .ref (s + 3), .ref (s + 4), .ref (s + 5), .ref (s + 6), .ref (s + 7), .ref (s + 8), .null, .null, .int 0, .int 0, .int 0, .int 0, .int 0, .int 0]) := by rw [ew_51, List.getElem?_set_ne (by omega)]; exact hf50_s
  have hf51__s___1_ : w_51[(s + 1)]? = some (mI 0 67 (fun _ => 0)) := by rw [ew_51, List.getElem?_set_ne (by omega)]; exact hf50__s___1_
  have hf51__s___2_ : w_51[(s + 2)]? = some (mI 0 67 (fun _ => 0)) := by rw [ew_51, List.getElem?_set_ne (by omega)]; exact hf50__s___2_
  have hf51__s___3_ : w_51[(s + 3)]? = some (mI 0 67 (fun _ => 0)) := by rw [ew_51, List.getElem?_set_ne (by omega)]; exact hf50__s___3_
  have hf51__s___4_ : w_51[(s + 4)]? = some (mI 0 67 (fun _ => 0)) := by rw [ew_51, List.getElem?_set_ne (by omega)]; exact hf50__s___4_
  have hf51__s___5_ : w_51[(s + 5)]? = some (mI 0 536 (fun _ => 0)) := by rw [ew_51, List.getElem?_set_ne (by omega)]; exact hf50__s___5_
  have hf51__s___6_ : w_51[(s + 6)]? = some (mI 0 60 (fun _ => 0)) := by rw [ew_51, List.getElem?_set_ne (by omega)]; exact hf50__s___6_
  have hf51__s___7_ : w_51[(s + 7)]? = some (mI 0 40 (fun _ => 0)) := by rw [ew_51, List.getElem?_set_ne (by omega)]; exact hf50__s___7_
  have hf51__s___8_ : w_51[(s + 8)]? = some (mI 0 8 (fun _ => 0)) := by rw [ew_51, List.getElem?_set_ne (by omega)]; exact hf50__s___8_
  have hf51__s___9_ : w_51[(s + 9)]? = some (mI 0 41 (wdP 32)) := by rw [ew_51]; exact List.getElem?_set_self (lt_of_get hf50__s___9_)
  refine r_dup hC dX9_init_270 rfl ?_
  refine r_bipush hC dX9_init_271 (v := 32) (by decide) ?_
  refine r_bipush hC dX9_init_273 (v := 111) (by decide) ?_
  refine r_iast' hC dX9_init_275 (j := 32) hf51__s___9_ ⟨by decide, by decide, by decide⟩ (fun w_52 ew_52 => ?_)
  rw [wdP_up (by decide)] at ew_52
  replace ew_52 : w_52 = (w_51).set ((s + 9)) (mI 0 41 (wdP 33)) := ew_52
  have hl_52 : w_52.length = (s + 10) := by rw [ew_52, List.length_set, hl_51]
  have hw_52 : mLowW w_52.length w_52 := by rw [hl_52, ew_52]; exact mLowW.set (by rw [← hl_51]; exact hw_51) trivial
  have hf52_s : w_52[s]? = some (mO 10 [.int 0, .int 0, .int (-1), .int (-1), .int 0, .ref (s + 1), .ref (s + 2), .ref (s + 3), .ref (s + 4), .ref (s + 5), .ref (s + 6), .ref (s + 7), .ref (s + 8), .null, .null, .int 0, .int 0, .int 0, .int 0, .int 0, .int 0]) := by rw [ew_52, List.getElem?_set_ne (by omega)]; exact hf51_s
  have hf52__s___1_ : w_52[(s + 1)]? = some (mI 0 67 (fun _ => 0)) := by rw [ew_52, List.getElem?_set_ne (by omega)]; exact hf51__s___1_
  have hf52__s___2_ : w_52[(s + 2)]? = some (mI 0 67 (fun _ => 0)) := by rw [ew_52, List.getElem?_set_ne (by omega)]; exact hf51__s___2_
  have hf52__s___3_ : w_52[(s + 3)]? = some (mI 0 67 (fun _ => 0)) := by rw [ew_52, List.getElem?_set_ne (by omega)]; exact hf51__s___3_
  have hf52__s___4_ : w_52[(s + 4)]? = some (mI 0 67 (fun _ => 0)) := by rw [ew_52, List.getElem?_set_ne (by omega)]; exact hf51__s___4_
  have hf52__s___5_ : w_52[(s + 5)]? = some (mI 0 536 (fun _ => 0)) := by rw [ew_52, List.getElem?_set_ne (by omega)]; exact hf51__s___5_
  have hf52__s___6_ : w_52[(s + 6)]? = some (mI 0 60 (fun _ => 0)) := by rw [ew_52, List.getElem?_set_ne (by omega)]; exact hf51__s___6_
  have hf52__s___7_ : w_52[(s + 7)]? = some (mI 0 40 (fun _ => 0)) := by rw [ew_52, List.getElem?_set_ne (by omega)]; exact hf51__s___7_
  have hf52__s___8_ : w_52[(s + 8)]? = some (mI 0 8 (fun _ => 0)) := by rw [ew_52, List.getElem?_set_ne (by omega)]; exact hf51__s___8_
  have hf52__s___9_ : w_52[(s + 9)]? = some (mI 0 41 (wdP 33)) := by rw [ew_52]; exact List.getElem?_set_self (lt_of_get hf51__s___9_)
  refine r_dup hC dX9_init_276 rfl ?_
  refine r_bipush hC dX9_init_277 (v := 33) (by decide) ?_
  refine r_bipush hC dX9_init_279 (v := 112) (by decide) ?_
  refine r_iast' hC dX9_init_281 (j := 33) hf52__s___9_ ⟨by decide, by decide, by decide⟩ (fun w_53 ew_53 => ?_)
  rw [wdP_up (by decide)] at ew_53
  replace ew_53 : w_53 = (w_52).set ((s + 9)) (mI 0 41 (wdP 34)) := ew_53
  have hl_53 : w_53.length = (s + 10) := by rw [ew_53, List.length_set, hl_52]
  have hw_53 : mLowW w_53.length w_53 := by rw [hl_53, ew_53]; exact mLowW.set (by rw [← hl_52]; exact hw_52) trivial
  have hf53_s : w_53[s]? = some (mO 10 [.int 0, .int 0, .int (-1), .int (-1), .int 0, .ref (s + 1), .ref (s + 2), .ref (s + 3), .ref (s + 4), .ref (s + 5), .ref (s + 6), .ref (s + 7), .ref (s + 8), .null, .null, .int 0, .int 0, .int 0, .int 0, .int 0, .int 0]) := by rw [ew_53, List.getElem?_set_ne (by omega)]; exact hf52_s
  have hf53__s___1_ : w_53[(s + 1)]? = some (mI 0 67 (fun _ => 0)) := by rw [ew_53, List.getElem?_set_ne (by omega)]; exact hf52__s___1_
  have hf53__s___2_ : w_53[(s + 2)]? = some (mI 0 67 (fun _ => 0)) := by rw [ew_53, List.getElem?_set_ne (by omega)]; exact hf52__s___2_
  have hf53__s___3_ : w_53[(s + 3)]? = some (mI 0 67 (fun _ => 0)) := by rw [ew_53, List.getElem?_set_ne (by omega)]; exact hf52__s___3_
  have hf53__s___4_ : w_53[(s + 4)]? = some (mI 0 67 (fun _ => 0)) := by rw [ew_53, List.getElem?_set_ne (by omega)]; exact hf52__s___4_
  have hf53__s___5_ : w_53[(s + 5)]? = some (mI 0 536 (fun _ => 0)) := by rw [ew_53, List.getElem?_set_ne (by omega)]; exact hf52__s___5_
  have hf53__s___6_ : w_53[(s + 6)]? = some (mI 0 60 (fun _ => 0)) := by rw [ew_53, List.getElem?_set_ne (by omega)]; exact hf52__s___6_
  have hf53__s___7_ : w_53[(s + 7)]? = some (mI 0 40 (fun _ => 0)) := by rw [ew_53, List.getElem?_set_ne (by omega)]; exact hf52__s___7_
  have hf53__s___8_ : w_53[(s + 8)]? = some (mI 0 8 (fun _ => 0)) := by rw [ew_53, List.getElem?_set_ne (by omega)]; exact hf52__s___8_
  have hf53__s___9_ : w_53[(s + 9)]? = some (mI 0 41 (wdP 34)) := by rw [ew_53]; exact List.getElem?_set_self (lt_of_get hf52__s___9_)
  refine r_dup hC dX9_init_282 rfl ?_
  refine r_bipush hC dX9_init_283 (v := 34) (by decide) ?_
  refine r_bipush hC dX9_init_285 (v := 101) (by decide) ?_
  refine r_iast' hC dX9_init_287 (j := 34) hf53__s___9_ ⟨by decide, by decide, by decide⟩ (fun w_54 ew_54 => ?_)
  rw [wdP_up (by decide)] at ew_54
  replace ew_54 : w_54 = (w_53).set ((s + 9)) (mI 0 41 (wdP 35)) := ew_54
  have hl_54 : w_54.length = (s + 10) := by rw [ew_54, List.length_set, hl_53]
  have hw_54 : mLowW w_54.length w_54 := by rw [hl_54, ew_54]; exact mLowW.set (by rw [← hl_53]; exact hw_53) trivial
  have hf54_s : w_54[s]? = some (mO 10 [.int 0, .int 0, .int (-1), .int (-1), .int 0, .ref (s + 1), .ref (s + 2), .ref (s + 3), .ref (s + 4), .ref (s + 5), .ref (s + 6), .ref (s + 7), .ref (s + 8), .null, .null, .int 0, .int 0, .int 0, .int 0, .int 0, .int 0]) := by rw [ew_54, List.getElem?_set_ne (by omega)]; exact hf53_s
  have hf54__s___1_ : w_54[(s + 1)]? = some (mI 0 67 (fun _ => 0)) := by rw [ew_54, List.getElem?_set_ne (by omega)]; exact hf53__s___1_
  have hf54__s___2_ : w_54[(s + 2)]? = some (mI 0 67 (fun _ => 0)) := by rw [ew_54, List.getElem?_set_ne (by omega)]; exact hf53__s___2_
  have hf54__s___3_ : w_54[(s + 3)]? = some (mI 0 67 (fun _ => 0)) := by rw [ew_54, List.getElem?_set_ne (by omega)]; exact hf53__s___3_
  have hf54__s___4_ : w_54[(s + 4)]? = some (mI 0 67 (fun _ => 0)) := by rw [ew_54, List.getElem?_set_ne (by omega)]; exact hf53__s___4_
  have hf54__s___5_ : w_54[(s + 5)]? = some (mI 0 536 (fun _ => 0)) := by rw [ew_54, List.getElem?_set_ne (by omega)]; exact hf53__s___5_
  have hf54__s___6_ : w_54[(s + 6)]? = some (mI 0 60 (fun _ => 0)) := by rw [ew_54, List.getElem?_set_ne (by omega)]; exact hf53__s___6_
  have hf54__s___7_ : w_54[(s + 7)]? = some (mI 0 40 (fun _ => 0)) := by rw [ew_54, List.getElem?_set_ne (by omega)]; exact hf53__s___7_
  have hf54__s___8_ : w_54[(s + 8)]? = some (mI 0 8 (fun _ => 0)) := by rw [ew_54, List.getElem?_set_ne (by omega)]; exact hf53__s___8_
  have hf54__s___9_ : w_54[(s + 9)]? = some (mI 0 41 (wdP 35)) := by rw [ew_54]; exact List.getElem?_set_self (lt_of_get hf53__s___9_)
  refine r_dup hC dX9_init_288 rfl ?_
  refine r_bipush hC dX9_init_289 (v := 35) (by decide) ?_
  refine r_bipush hC dX9_init_291 (v := 110) (by decide) ?_
  refine r_iast' hC dX9_init_293 (j := 35) hf54__s___9_ ⟨by decide, by decide, by decide⟩ (fun w_55 ew_55 => ?_)
  rw [wdP_up (by decide)] at ew_55
  replace ew_55 : w_55 = (w_54).set ((s + 9)) (mI 0 41 (wdP 36)) := ew_55
  have hl_55 : w_55.length = (s + 10) := by rw [ew_55, List.length_set, hl_54]
  have hw_55 : mLowW w_55.length w_55 := by rw [hl_55, ew_55]; exact mLowW.set (by rw [← hl_54]; exact hw_54) trivial
  have hf55_s : w_55[s]? = some (mO 10 [.int 0, .int 0, .int (-1), .int (-1), .int 0, .ref (s + 1), .ref (s + 2), .ref (s + 3), .ref (s + 4), .ref (s + 5), .ref (s + 6), .ref (s + 7), .ref (s + 8), .null, .null, .int 0, .int 0, .int 0, .int 0, .int 0, .int 0]) := by rw [ew_55, List.getElem?_set_ne (by omega)]; exact hf54_s
  have hf55__s___1_ : w_55[(s + 1)]? = some (mI 0 67 (fun _ => 0)) := by rw [ew_55, List.getElem?_set_ne (by omega)]; exact hf54__s___1_
  have hf55__s___2_ : w_55[(s + 2)]? = some (mI 0 67 (fun _ => 0)) := by rw [ew_55, List.getElem?_set_ne (by omega)]; exact hf54__s___2_
  have hf55__s___3_ : w_55[(s + 3)]? = some (mI 0 67 (fun _ => 0)) := by rw [ew_55, List.getElem?_set_ne (by omega)]; exact hf54__s___3_
  have hf55__s___4_ : w_55[(s + 4)]? = some (mI 0 67 (fun _ => 0)) := by rw [ew_55, List.getElem?_set_ne (by omega)]; exact hf54__s___4_
  have hf55__s___5_ : w_55[(s + 5)]? = some (mI 0 536 (fun _ => 0)) := by rw [ew_55, List.getElem?_set_ne (by omega)]; exact hf54__s___5_
  have hf55__s___6_ : w_55[(s + 6)]? = some (mI 0 60 (fun _ => 0)) := by rw [ew_55, List.getElem?_set_ne (by omega)]; exact hf54__s___6_
  have hf55__s___7_ : w_55[(s + 7)]? = some (mI 0 40 (fun _ => 0)) := by rw [ew_55, List.getElem?_set_ne (by omega)]; exact hf54__s___7_
  have hf55__s___8_ : w_55[(s + 8)]? = some (mI 0 8 (fun _ => 0)) := by rw [ew_55, List.getElem?_set_ne (by omega)]; exact hf54__s___8_
  have hf55__s___9_ : w_55[(s + 9)]? = some (mI 0 41 (wdP 36)) := by rw [ew_55]; exact List.getElem?_set_self (lt_of_get hf54__s___9_)
  refine r_dup hC dX9_init_294 rfl ?_
  refine r_bipush hC dX9_init_295 (v := 36) (by decide) ?_
  refine r_bipush hC dX9_init_297 (v := 99) (by decide) ?_
  refine r_iast' hC dX9_init_299 (j := 36) hf55__s___9_ ⟨by decide, by decide, by decide⟩ (fun w_56 ew_56 => ?_)
  rw [wdP_up (by decide)] at ew_56
  replace ew_56 : w_56 = (w_55).set ((s + 9)) (mI 0 41 (wdP 37)) := ew_56
  have hl_56 : w_56.length = (s + 10) := by rw [ew_56, List.length_set, hl_55]
  have hw_56 : mLowW w_56.length w_56 := by rw [hl_56, ew_56]; exact mLowW.set (by rw [← hl_55]; exact hw_55) trivial
  have hf56_s : w_56[s]? = some (mO 10 [.int 0, .int 0, .int (-1), .int (-1), .int 0, .ref (s + 1), .ref (s + 2), .ref (s + 3), .ref (s + 4), .ref (s + 5), .ref (s + 6), .ref (s + 7), .ref (s + 8), .null, .null, .int 0, .int 0, .int 0, .int 0, .int 0, .int 0]) := by rw [ew_56, List.getElem?_set_ne (by omega)]; exact hf55_s
  have hf56__s___1_ : w_56[(s + 1)]? = some (mI 0 67 (fun _ => 0)) := by rw [ew_56, List.getElem?_set_ne (by omega)]; exact hf55__s___1_
  have hf56__s___2_ : w_56[(s + 2)]? = some (mI 0 67 (fun _ => 0)) := by rw [ew_56, List.getElem?_set_ne (by omega)]; exact hf55__s___2_
  have hf56__s___3_ : w_56[(s + 3)]? = some (mI 0 67 (fun _ => 0)) := by rw [ew_56, List.getElem?_set_ne (by omega)]; exact hf55__s___3_
  have hf56__s___4_ : w_56[(s + 4)]? = some (mI 0 67 (fun _ => 0)) := by rw [ew_56, List.getElem?_set_ne (by omega)]; exact hf55__s___4_
  have hf56__s___5_ : w_56[(s + 5)]? = some (mI 0 536 (fun _ => 0)) := by rw [ew_56, List.getElem?_set_ne (by omega)]; exact hf55__s___5_
  have hf56__s___6_ : w_56[(s + 6)]? = some (mI 0 60 (fun _ => 0)) := by rw [ew_56, List.getElem?_set_ne (by omega)]; exact hf55__s___6_
  have hf56__s___7_ : w_56[(s + 7)]? = some (mI 0 40 (fun _ => 0)) := by rw [ew_56, List.getElem?_set_ne (by omega)]; exact hf55__s___7_
  have hf56__s___8_ : w_56[(s + 8)]? = some (mI 0 8 (fun _ => 0)) := by rw [ew_56, List.getElem?_set_ne (by omega)]; exact hf55__s___8_
  have hf56__s___9_ : w_56[(s + 9)]? = some (mI 0 41 (wdP 37)) := by rw [ew_56]; exact List.getElem?_set_self (lt_of_get hf55__s___9_)
  refine r_dup hC dX9_init_300 rfl ?_
  refine r_bipush hC dX9_init_301 (v := 37) (by decide) ?_
  refine r_bipush hC dX9_init_303 (v := 108) (by decide) ?_
  refine r_iast' hC dX9_init_305 (j := 37) hf56__s___9_ ⟨by decide, by decide, by decide⟩ (fun w_57 ew_57 => ?_)
  rw [wdP_up (by decide)] at ew_57
  replace ew_57 : w_57 = (w_56).set ((s + 9)) (mI 0 41 (wdP 38)) := ew_57
  have hl_57 : w_57.length = (s + 10) := by rw [ew_57, List.length_set, hl_56]
  have hw_57 : mLowW w_57.length w_57 := by rw [hl_57, ew_57]; exact mLowW.set (by rw [← hl_56]; exact hw_56) trivial
  have hf57_s : w_57[s]? = some (mO 10 [.int 0, .int 0, .int (-1), .int (-1), .int 0, .ref (s + 1), .ref (s + 2), .ref (s + 3), .ref (s + 4), .ref (s + 5), .ref (s + 6), .ref (s + 7), .ref (s + 8), .null, .null, .int 0, .int 0, .int 0, .int 0, .int 0, .int 0]) := by rw [ew_57, List.getElem?_set_ne (by omega)]; exact hf56_s
  have hf57__s___1_ : w_57[(s + 1)]? = some (mI 0 67 (fun _ => 0)) := by rw [ew_57, List.getElem?_set_ne (by omega)]; exact hf56__s___1_
  have hf57__s___2_ : w_57[(s + 2)]? = some (mI 0 67 (fun _ => 0)) := by rw [ew_57, List.getElem?_set_ne (by omega)]; exact hf56__s___2_
  have hf57__s___3_ : w_57[(s + 3)]? = some (mI 0 67 (fun _ => 0)) := by rw [ew_57, List.getElem?_set_ne (by omega)]; exact hf56__s___3_
  have hf57__s___4_ : w_57[(s + 4)]? = some (mI 0 67 (fun _ => 0)) := by rw [ew_57, List.getElem?_set_ne (by omega)]; exact hf56__s___4_
  have hf57__s___5_ : w_57[(s + 5)]? = some (mI 0 536 (fun _ => 0)) := by rw [ew_57, List.getElem?_set_ne (by omega)]; exact hf56__s___5_
  have hf57__s___6_ : w_57[(s + 6)]? = some (mI 0 60 (fun _ => 0)) := by rw [ew_57, List.getElem?_set_ne (by omega)]; exact hf56__s___6_
  have hf57__s___7_ : w_57[(s + 7)]? = some (mI 0 40 (fun _ => 0)) := by rw [ew_57, List.getElem?_set_ne (by omega)]; exact hf56__s___7_
  have hf57__s___8_ : w_57[(s + 8)]? = some (mI 0 8 (fun _ => 0)) := by rw [ew_57, List.getElem?_set_ne (by omega)]; exact hf56__s___8_
  have hf57__s___9_ : w_57[(s + 9)]? = some (mI 0 41 (wdP 38)) := by rw [ew_57]; exact List.getElem?_set_self (lt_of_get hf56__s___9_)
  refine r_dup hC dX9_init_306 rfl ?_
  refine r_bipush hC dX9_init_307 (v := 38) (by decide) ?_
  refine r_bipush hC dX9_init_309 (v := 111) (by decide) ?_
  refine r_iast' hC dX9_init_311 (j := 38) hf57__s___9_ ⟨by decide, by decide, by decide⟩ (fun w_58 ew_58 => ?_)
  rw [wdP_up (by decide)] at ew_58
  replace ew_58 : w_58 = (w_57).set ((s + 9)) (mI 0 41 (wdP 39)) := ew_58
  have hl_58 : w_58.length = (s + 10) := by rw [ew_58, List.length_set, hl_57]
  have hw_58 : mLowW w_58.length w_58 := by rw [hl_58, ew_58]; exact mLowW.set (by rw [← hl_57]; exact hw_57) trivial
  have hf58_s : w_58[s]? = some (mO 10 [.int 0, .int 0, .int (-1), .int (-1), .int 0, .ref (s + 1), .ref (s + 2), .ref (s + 3), .ref (s + 4), .ref (s + 5), .ref (s + 6), .ref (s + 7), .ref (s + 8), .null, .null, .int 0, .int 0, .int 0, .int 0, .int 0, .int 0]) := by rw [ew_58, List.getElem?_set_ne (by omega)]; exact hf57_s
  have hf58__s___1_ : w_58[(s + 1)]? = some (mI 0 67 (fun _ => 0)) := by rw [ew_58, List.getElem?_set_ne (by omega)]; exact hf57__s___1_
  have hf58__s___2_ : w_58[(s + 2)]? = some (mI 0 67 (fun _ => 0)) := by rw [ew_58, List.getElem?_set_ne (by omega)]; exact hf57__s___2_
  have hf58__s___3_ : w_58[(s + 3)]? = some (mI 0 67 (fun _ => 0)) := by rw [ew_58, List.getElem?_set_ne (by omega)]; exact hf57__s___3_
  have hf58__s___4_ : w_58[(s + 4)]? = some (mI 0 67 (fun _ => 0)) := by rw [ew_58, List.getElem?_set_ne (by omega)]; exact hf57__s___4_
  have hf58__s___5_ : w_58[(s + 5)]? = some (mI 0 536 (fun _ => 0)) := by rw [ew_58, List.getElem?_set_ne (by omega)]; exact hf57__s___5_
  have hf58__s___6_ : w_58[(s + 6)]? = some (mI 0 60 (fun _ => 0)) := by rw [ew_58, List.getElem?_set_ne (by omega)]; exact hf57__s___6_
  have hf58__s___7_ : w_58[(s + 7)]? = some (mI 0 40 (fun _ => 0)) := by rw [ew_58, List.getElem?_set_ne (by omega)]; exact hf57__s___7_
  have hf58__s___8_ : w_58[(s + 8)]? = some (mI 0 8 (fun _ => 0)) := by rw [ew_58, List.getElem?_set_ne (by omega)]; exact hf57__s___8_
  have hf58__s___9_ : w_58[(s + 9)]? = some (mI 0 41 (wdP 39)) := by rw [ew_58]; exact List.getElem?_set_self (lt_of_get hf57__s___9_)
  refine r_dup hC dX9_init_312 rfl ?_
  refine r_bipush hC dX9_init_313 (v := 39) (by decide) ?_
  refine r_bipush hC dX9_init_315 (v := 115) (by decide) ?_
  refine r_iast' hC dX9_init_317 (j := 39) hf58__s___9_ ⟨by decide, by decide, by decide⟩ (fun w_59 ew_59 => ?_)
  rw [wdP_up (by decide)] at ew_59
  replace ew_59 : w_59 = (w_58).set ((s + 9)) (mI 0 41 (wdP 40)) := ew_59
  have hl_59 : w_59.length = (s + 10) := by rw [ew_59, List.length_set, hl_58]
  have hw_59 : mLowW w_59.length w_59 := by rw [hl_59, ew_59]; exact mLowW.set (by rw [← hl_58]; exact hw_58) trivial
  have hf59_s : w_59[s]? = some (mO 10 [.int 0, .int 0, .int (-1), .int (-1), .int 0, .ref (s + 1), .ref (s + 2), .ref (s + 3), .ref (s + 4), .ref (s + 5), .ref (s + 6), .ref (s + 7), .ref (s + 8), .null, .null, .int 0, .int 0, .int 0, .int 0, .int 0, .int 0]) := by rw [ew_59, List.getElem?_set_ne (by omega)]; exact hf58_s
  have hf59__s___1_ : w_59[(s + 1)]? = some (mI 0 67 (fun _ => 0)) := by rw [ew_59, List.getElem?_set_ne (by omega)]; exact hf58__s___1_
  have hf59__s___2_ : w_59[(s + 2)]? = some (mI 0 67 (fun _ => 0)) := by rw [ew_59, List.getElem?_set_ne (by omega)]; exact hf58__s___2_
  have hf59__s___3_ : w_59[(s + 3)]? = some (mI 0 67 (fun _ => 0)) := by rw [ew_59, List.getElem?_set_ne (by omega)]; exact hf58__s___3_
  have hf59__s___4_ : w_59[(s + 4)]? = some (mI 0 67 (fun _ => 0)) := by rw [ew_59, List.getElem?_set_ne (by omega)]; exact hf58__s___4_
  have hf59__s___5_ : w_59[(s + 5)]? = some (mI 0 536 (fun _ => 0)) := by rw [ew_59, List.getElem?_set_ne (by omega)]; exact hf58__s___5_
  have hf59__s___6_ : w_59[(s + 6)]? = some (mI 0 60 (fun _ => 0)) := by rw [ew_59, List.getElem?_set_ne (by omega)]; exact hf58__s___6_
  have hf59__s___7_ : w_59[(s + 7)]? = some (mI 0 40 (fun _ => 0)) := by rw [ew_59, List.getElem?_set_ne (by omega)]; exact hf58__s___7_
  have hf59__s___8_ : w_59[(s + 8)]? = some (mI 0 8 (fun _ => 0)) := by rw [ew_59, List.getElem?_set_ne (by omega)]; exact hf58__s___8_
  have hf59__s___9_ : w_59[(s + 9)]? = some (mI 0 41 (wdP 40)) := by rw [ew_59]; exact List.getElem?_set_self (lt_of_get hf58__s___9_)
  refine r_dup hC dX9_init_318 rfl ?_
  refine r_bipush hC dX9_init_319 (v := 40) (by decide) ?_
  refine r_bipush hC dX9_init_321 (v := 101) (by decide) ?_
  refine r_iast' hC dX9_init_323 (j := 40) hf59__s___9_ ⟨by decide, by decide, by decide⟩ (fun w_60 ew_60 => ?_)
  rw [wdP_up (by decide)] at ew_60
  replace ew_60 : w_60 = (w_59).set ((s + 9)) (mI 0 41 (wdP 41)) := ew_60
  have hl_60 : w_60.length = (s + 10) := by rw [ew_60, List.length_set, hl_59]
  have hw_60 : mLowW w_60.length w_60 := by rw [hl_60, ew_60]; exact mLowW.set (by rw [← hl_59]; exact hw_59) trivial
  have hf60_s : w_60[s]? = some (mO 10 [.int 0, .int 0, .int (-1), .int (-1), .int 0, .ref (s + 1), .ref (s + 2), .ref (s + 3), .ref (s + 4), .ref (s + 5), .ref (s + 6), .ref (s + 7), .ref (s + 8), .null, .null, .int 0, .int 0, .int 0, .int 0, .int 0, .int 0]) := by rw [ew_60, List.getElem?_set_ne (by omega)]; exact hf59_s
  have hf60__s___1_ : w_60[(s + 1)]? = some (mI 0 67 (fun _ => 0)) := by rw [ew_60, List.getElem?_set_ne (by omega)]; exact hf59__s___1_
  have hf60__s___2_ : w_60[(s + 2)]? = some (mI 0 67 (fun _ => 0)) := by rw [ew_60, List.getElem?_set_ne (by omega)]; exact hf59__s___2_
  have hf60__s___3_ : w_60[(s + 3)]? = some (mI 0 67 (fun _ => 0)) := by rw [ew_60, List.getElem?_set_ne (by omega)]; exact hf59__s___3_
  have hf60__s___4_ : w_60[(s + 4)]? = some (mI 0 67 (fun _ => 0)) := by rw [ew_60, List.getElem?_set_ne (by omega)]; exact hf59__s___4_
  have hf60__s___5_ : w_60[(s + 5)]? = some (mI 0 536 (fun _ => 0)) := by rw [ew_60, List.getElem?_set_ne (by omega)]; exact hf59__s___5_
  have hf60__s___6_ : w_60[(s + 6)]? = some (mI 0 60 (fun _ => 0)) := by rw [ew_60, List.getElem?_set_ne (by omega)]; exact hf59__s___6_
  have hf60__s___7_ : w_60[(s + 7)]? = some (mI 0 40 (fun _ => 0)) := by rw [ew_60, List.getElem?_set_ne (by omega)]; exact hf59__s___7_
  have hf60__s___8_ : w_60[(s + 8)]? = some (mI 0 8 (fun _ => 0)) := by rw [ew_60, List.getElem?_set_ne (by omega)]; exact hf59__s___8_
  have hf60__s___9_ : w_60[(s + 9)]? = some (mI 0 41 (wdP 41)) := by rw [ew_60]; exact List.getElem?_set_self (lt_of_get hf59__s___9_)
  refine n_putI' hC hNm pX9_init_324 hf60_s (Nat.le_of_ble_eq_true rfl) (fun _ => rfl) (fun _ => rfl) (fun w_61 ew_61 => ?_)
  replace ew_61 : w_61 = (w_60).set (s) (mO 10 [.int 0, .int 0, .int (-1), .int (-1), .int 0, .ref (s + 1), .ref (s + 2), .ref (s + 3), .ref (s + 4), .ref (s + 5), .ref (s + 6), .ref (s + 7), .ref (s + 8), .ref (s + 9), .null, .int 0, .int 0, .int 0, .int 0, .int 0, .int 0]) := ew_61
  have hl_61 : w_61.length = (s + 10) := by rw [ew_61, List.length_set, hl_60]
  have hw_61 : mLowW w_61.length w_61 := by rw [hl_61, ew_61]; exact mLowW.set (by rw [← hl_60]; exact hw_60) ⟨trivial, trivial, trivial, trivial, trivial, (Or.inl (by omega)), (Or.inl (by omega)), (Or.inl (by omega)), (Or.inl (by omega)), (Or.inl (by omega)), (Or.inl (by omega)), (Or.inl (by omega)), (Or.inl (by omega)), (Or.inl (by omega)), trivial, trivial, trivial, trivial, trivial, trivial, trivial, trivial⟩
  have hf61_s : w_61[s]? = some (mO 10 [.int 0, .int 0, .int (-1), .int (-1), .int 0, .ref (s + 1), .ref (s + 2), .ref (s + 3), .ref (s + 4), .ref (s + 5), .ref (s + 6), .ref (s + 7), .ref (s + 8), .ref (s + 9), .null, .int 0, .int 0, .int 0, .int 0, .int 0, .int 0]) := by rw [ew_61]; exact List.getElem?_set_self (lt_of_get hf60_s)
  have hf61__s___1_ : w_61[(s + 1)]? = some (mI 0 67 (fun _ => 0)) := by rw [ew_61, List.getElem?_set_ne (by omega)]; exact hf60__s___1_
  have hf61__s___2_ : w_61[(s + 2)]? = some (mI 0 67 (fun _ => 0)) := by rw [ew_61, List.getElem?_set_ne (by omega)]; exact hf60__s___2_
  have hf61__s___3_ : w_61[(s + 3)]? = some (mI 0 67 (fun _ => 0)) := by rw [ew_61, List.getElem?_set_ne (by omega)]; exact hf60__s___3_
  have hf61__s___4_ : w_61[(s + 4)]? = some (mI 0 67 (fun _ => 0)) := by rw [ew_61, List.getElem?_set_ne (by omega)]; exact hf60__s___4_
  have hf61__s___5_ : w_61[(s + 5)]? = some (mI 0 536 (fun _ => 0)) := by rw [ew_61, List.getElem?_set_ne (by omega)]; exact hf60__s___5_
  have hf61__s___6_ : w_61[(s + 6)]? = some (mI 0 60 (fun _ => 0)) := by rw [ew_61, List.getElem?_set_ne (by omega)]; exact hf60__s___6_
  have hf61__s___7_ : w_61[(s + 7)]? = some (mI 0 40 (fun _ => 0)) := by rw [ew_61, List.getElem?_set_ne (by omega)]; exact hf60__s___7_
  have hf61__s___8_ : w_61[(s + 8)]? = some (mI 0 8 (fun _ => 0)) := by rw [ew_61, List.getElem?_set_ne (by omega)]; exact hf60__s___8_
  have hf61__s___9_ : w_61[(s + 9)]? = some (mI 0 41 (wdP 41)) := by rw [ew_61, List.getElem?_set_ne (by omega)]; exact hf60__s___9_
  refine r_aload_n hC dX9_init_327 rfl (j := 0) rfl ?_
  refine r_bipush hC dX9_init_328 (v := 9) (by decide) ?_
  refine n_newa hC (atype := .int) (ty := .int) (t := 0) (N := 9) (a0 := (9, .inl (fun _ => 0))) ac_int rfl (fun _ => rfl) (fun _ => rfl) (fun _ => rfl) (by decide) (by decide) (by decide) dX9_init_330 hw_61 (by rw [hl_61]; omega) (by omega) (by omega) ⟨(Or.inl (by omega)), trivial⟩ ⟨(Or.inl (by omega)), trivial⟩ (fun X hT => ?_)
  have hB := hB.tie hT (by rw [hl_61]; omega)
  clear hT
  obtain ⟨hC, hnl, hE, hR, hN, hNm⟩ := id hB
  obtain ⟨w_62, ew_62⟩ : ∃ z, z = w_61 ++ [(mI 0 9 (fun _ => 0))] := ⟨_, rfl⟩
  have hl_62 : w_62.length = (s + 11) := by rw [ew_62, List.length_append, hl_61]; rfl
  have hw_62 : mLowW w_62.length w_62 := by rw [hl_62, ew_62]; exact (mLowW.mono (by rw [hl_61]; omega) hw_61).app (mLowW.cons trivial mLowW.nil)
  have hf62_s : w_62[s]? = some (mO 10 [.int 0, .int 0, .int (-1), .int (-1), .int 0, .ref (s + 1), .ref (s + 2), .ref (s + 3), .ref (s + 4), .ref (s + 5), .ref (s + 6), .ref (s + 7), .ref (s + 8), .ref (s + 9), .null, .int 0, .int 0, .int 0, .int 0, .int 0, .int 0]) := by rw [ew_62, List.getElem?_append_left (lt_of_get hf61_s)]; exact hf61_s
  have hf62__s___1_ : w_62[(s + 1)]? = some (mI 0 67 (fun _ => 0)) := by rw [ew_62, List.getElem?_append_left (lt_of_get hf61__s___1_)]; exact hf61__s___1_
  have hf62__s___2_ : w_62[(s + 2)]? = some (mI 0 67 (fun _ => 0)) := by rw [ew_62, List.getElem?_append_left (lt_of_get hf61__s___2_)]; exact hf61__s___2_
  have hf62__s___3_ : w_62[(s + 3)]? = some (mI 0 67 (fun _ => 0)) := by rw [ew_62, List.getElem?_append_left (lt_of_get hf61__s___3_)]; exact hf61__s___3_
  have hf62__s___4_ : w_62[(s + 4)]? = some (mI 0 67 (fun _ => 0)) := by rw [ew_62, List.getElem?_append_left (lt_of_get hf61__s___4_)]; exact hf61__s___4_
  have hf62__s___5_ : w_62[(s + 5)]? = some (mI 0 536 (fun _ => 0)) := by rw [ew_62, List.getElem?_append_left (lt_of_get hf61__s___5_)]; exact hf61__s___5_
  have hf62__s___6_ : w_62[(s + 6)]? = some (mI 0 60 (fun _ => 0)) := by rw [ew_62, List.getElem?_append_left (lt_of_get hf61__s___6_)]; exact hf61__s___6_
  have hf62__s___7_ : w_62[(s + 7)]? = some (mI 0 40 (fun _ => 0)) := by rw [ew_62, List.getElem?_append_left (lt_of_get hf61__s___7_)]; exact hf61__s___7_
  have hf62__s___8_ : w_62[(s + 8)]? = some (mI 0 8 (fun _ => 0)) := by rw [ew_62, List.getElem?_append_left (lt_of_get hf61__s___8_)]; exact hf61__s___8_
  have hf62__s___9_ : w_62[(s + 9)]? = some (mI 0 41 (wdP 41)) := by rw [ew_62, List.getElem?_append_left (lt_of_get hf61__s___9_)]; exact hf61__s___9_
  have hf62__s___10_ : w_62[(s + 10)]? = some (mI 0 9 (fun _ => 0)) := by rw [ew_62, List.getElem?_append_right (by rw [hl_61]; exact Nat.le_refl _), hl_61, Nat.sub_self]; rfl
  rw [← ew_62, hl_61]
  show Wp X ((((((((((0 + 1) + 1) + 1) + 1) + 1) + 1) + 1) + 1) + 1) + 1) ((((((((((0 + 67) + 67) + 67) + 67) + 536) + 60) + 40) + 8) + 41) + 9) w_62 [(0, .ref s)] [.ref (s + 10), .ref s] _
  refine r_dup hC dX9_init_332 rfl ?_
  rw [← waP_0] at hf62__s___10_
  -- their places
  refine r_iconst hC dX9_init_333 (v := 0) (by decide) ?_
  refine r_iconst hC dX9_init_334 (v := 0) (by decide) ?_
  refine r_iast' hC dX9_init_335 (j := 0) hf62__s___10_ ⟨by decide, by decide, by decide⟩ (fun w_63 ew_63 => ?_)
  rw [waP_up (by decide)] at ew_63
  replace ew_63 : w_63 = (w_62).set ((s + 10)) (mI 0 9 (waP 1)) := ew_63
  have hl_63 : w_63.length = (s + 11) := by rw [ew_63, List.length_set, hl_62]
  have hw_63 : mLowW w_63.length w_63 := by rw [hl_63, ew_63]; exact mLowW.set (by rw [← hl_62]; exact hw_62) trivial
  have hf63_s : w_63[s]? = some (mO 10 [.int 0, .int 0, .int (-1), .int (-1), .int 0, .ref (s + 1), .ref (s + 2), .ref (s + 3), .ref (s + 4), .ref (s + 5), .ref (s + 6), .ref (s + 7), .ref (s + 8), .ref (s + 9), .null, .int 0, .int 0, .int 0, .int 0, .int 0, .int 0]) := by rw [ew_63, List.getElem?_set_ne (by omega)]; exact hf62_s
  have hf63__s___1_ : w_63[(s + 1)]? = some (mI 0 67 (fun _ => 0)) := by rw [ew_63, List.getElem?_set_ne (by omega)]; exact hf62__s___1_
  have hf63__s___2_ : w_63[(s + 2)]? = some (mI 0 67 (fun _ => 0)) := by rw [ew_63, List.getElem?_set_ne (by omega)]; exact hf62__s___2_
  have hf63__s___3_ : w_63[(s + 3)]? = some (mI 0 67 (fun _ => 0)) := by rw [ew_63, List.getElem?_set_ne (by omega)]; exact hf62__s___3_
  have hf63__s___4_ : w_63[(s + 4)]? = some (mI 0 67 (fun _ => 0)) := by rw [ew_63, List.getElem?_set_ne (by omega)]; exact hf62__s___4_
  have hf63__s___5_ : w_63[(s + 5)]? = some (mI 0 536 (fun _ => 0)) := by rw [ew_63, List.getElem?_set_ne (by omega)]; exact hf62__s___5_
  have hf63__s___6_ : w_63[(s + 6)]? = some (mI 0 60 (fun _ => 0)) := by rw [ew_63, List.getElem?_set_ne (by omega)]; exact hf62__s___6_
  have hf63__s___7_ : w_63[(s + 7)]? = some (mI 0 40 (fun _ => 0)) := by rw [ew_63, List.getElem?_set_ne (by omega)]; exact hf62__s___7_
  have hf63__s___8_ : w_63[(s + 8)]? = some (mI 0 8 (fun _ => 0)) := by rw [ew_63, List.getElem?_set_ne (by omega)]; exact hf62__s___8_
  have hf63__s___9_ : w_63[(s + 9)]? = some (mI 0 41 (wdP 41)) := by rw [ew_63, List.getElem?_set_ne (by omega)]; exact hf62__s___9_
  have hf63__s___10_ : w_63[(s + 10)]? = some (mI 0 9 (waP 1)) := by rw [ew_63]; exact List.getElem?_set_self (lt_of_get hf62__s___10_)
  refine r_dup hC dX9_init_336 rfl ?_
  refine r_iconst hC dX9_init_337 (v := 1) (by decide) ?_
  refine r_bipush hC dX9_init_338 (v := 7) (by decide) ?_
  refine r_iast' hC dX9_init_340 (j := 1) hf63__s___10_ ⟨by decide, by decide, by decide⟩ (fun w_64 ew_64 => ?_)
  rw [waP_up (by decide)] at ew_64
  replace ew_64 : w_64 = (w_63).set ((s + 10)) (mI 0 9 (waP 2)) := ew_64
  have hl_64 : w_64.length = (s + 11) := by rw [ew_64, List.length_set, hl_63]
  have hw_64 : mLowW w_64.length w_64 := by rw [hl_64, ew_64]; exact mLowW.set (by rw [← hl_63]; exact hw_63) trivial
  have hf64_s : w_64[s]? = some (mO 10 [.int 0, .int 0, .int (-1), .int (-1), .int 0, .ref (s + 1), .ref (s + 2), .ref (s + 3), .ref (s + 4), .ref (s + 5), .ref (s + 6), .ref (s + 7), .ref (s + 8), .ref (s + 9), .null, .int 0, .int 0, .int 0, .int 0, .int 0, .int 0]) := by rw [ew_64, List.getElem?_set_ne (by omega)]; exact hf63_s
  have hf64__s___1_ : w_64[(s + 1)]? = some (mI 0 67 (fun _ => 0)) := by rw [ew_64, List.getElem?_set_ne (by omega)]; exact hf63__s___1_
  have hf64__s___2_ : w_64[(s + 2)]? = some (mI 0 67 (fun _ => 0)) := by rw [ew_64, List.getElem?_set_ne (by omega)]; exact hf63__s___2_
  have hf64__s___3_ : w_64[(s + 3)]? = some (mI 0 67 (fun _ => 0)) := by rw [ew_64, List.getElem?_set_ne (by omega)]; exact hf63__s___3_
  have hf64__s___4_ : w_64[(s + 4)]? = some (mI 0 67 (fun _ => 0)) := by rw [ew_64, List.getElem?_set_ne (by omega)]; exact hf63__s___4_
  have hf64__s___5_ : w_64[(s + 5)]? = some (mI 0 536 (fun _ => 0)) := by rw [ew_64, List.getElem?_set_ne (by omega)]; exact hf63__s___5_
  have hf64__s___6_ : w_64[(s + 6)]? = some (mI 0 60 (fun _ => 0)) := by rw [ew_64, List.getElem?_set_ne (by omega)]; exact hf63__s___6_
  have hf64__s___7_ : w_64[(s + 7)]? = some (mI 0 40 (fun _ => 0)) := by rw [ew_64, List.getElem?_set_ne (by omega)]; exact hf63__s___7_
  have hf64__s___8_ : w_64[(s + 8)]? = some (mI 0 8 (fun _ => 0)) := by rw [ew_64, List.getElem?_set_ne (by omega)]; exact hf63__s___8_
  have hf64__s___9_ : w_64[(s + 9)]? = some (mI 0 41 (wdP 41)) := by rw [ew_64, List.getElem?_set_ne (by omega)]; exact hf63__s___9_
  have hf64__s___10_ : w_64[(s + 10)]? = some (mI 0 9 (waP 2)) := by rw [ew_64]; exact List.getElem?_set_self (lt_of_get hf63__s___10_)
  refine r_dup hC dX9_init_341 rfl ?_
  refine r_iconst hC dX9_init_342 (v := 2) (by decide) ?_
  refine r_bipush hC dX9_init_343 (v := 12) (by decide) ?_
  refine r_iast' hC dX9_init_345 (j := 2) hf64__s___10_ ⟨by decide, by decide, by decide⟩ (fun w_65 ew_65 => ?_)
  rw [waP_up (by decide)] at ew_65
  replace ew_65 : w_65 = (w_64).set ((s + 10)) (mI 0 9 (waP 3)) := ew_65
  have hl_65 : w_65.length = (s + 11) := by rw [ew_65, List.length_set, hl_64]
  have hw_65 : mLowW w_65.length w_65 := by rw [hl_65, ew_65]; exact mLowW.set (by rw [← hl_64]; exact hw_64) trivial
  have hf65_s : w_65[s]? = some (mO 10 [.int 0, .int 0, .int (-1), .int (-1), .int 0, .ref (s + 1), .ref (s + 2), .ref (s + 3), .ref (s + 4), .ref (s + 5), .ref (s + 6), .ref (s + 7), .ref (s + 8), .ref (s + 9), .null, .int 0, .int 0, .int 0, .int 0, .int 0, .int 0]) := by rw [ew_65, List.getElem?_set_ne (by omega)]; exact hf64_s
  have hf65__s___1_ : w_65[(s + 1)]? = some (mI 0 67 (fun _ => 0)) := by rw [ew_65, List.getElem?_set_ne (by omega)]; exact hf64__s___1_
  have hf65__s___2_ : w_65[(s + 2)]? = some (mI 0 67 (fun _ => 0)) := by rw [ew_65, List.getElem?_set_ne (by omega)]; exact hf64__s___2_
  have hf65__s___3_ : w_65[(s + 3)]? = some (mI 0 67 (fun _ => 0)) := by rw [ew_65, List.getElem?_set_ne (by omega)]; exact hf64__s___3_
  have hf65__s___4_ : w_65[(s + 4)]? = some (mI 0 67 (fun _ => 0)) := by rw [ew_65, List.getElem?_set_ne (by omega)]; exact hf64__s___4_
  have hf65__s___5_ : w_65[(s + 5)]? = some (mI 0 536 (fun _ => 0)) := by rw [ew_65, List.getElem?_set_ne (by omega)]; exact hf64__s___5_
  have hf65__s___6_ : w_65[(s + 6)]? = some (mI 0 60 (fun _ => 0)) := by rw [ew_65, List.getElem?_set_ne (by omega)]; exact hf64__s___6_
  have hf65__s___7_ : w_65[(s + 7)]? = some (mI 0 40 (fun _ => 0)) := by rw [ew_65, List.getElem?_set_ne (by omega)]; exact hf64__s___7_
  have hf65__s___8_ : w_65[(s + 8)]? = some (mI 0 8 (fun _ => 0)) := by rw [ew_65, List.getElem?_set_ne (by omega)]; exact hf64__s___8_
  have hf65__s___9_ : w_65[(s + 9)]? = some (mI 0 41 (wdP 41)) := by rw [ew_65, List.getElem?_set_ne (by omega)]; exact hf64__s___9_
  have hf65__s___10_ : w_65[(s + 10)]? = some (mI 0 9 (waP 3)) := by rw [ew_65]; exact List.getElem?_set_self (lt_of_get hf64__s___10_)
  refine r_dup hC dX9_init_346 rfl ?_
  refine r_iconst hC dX9_init_347 (v := 3) (by decide) ?_
  refine r_bipush hC dX9_init_348 (v := 17) (by decide) ?_
  refine r_iast' hC dX9_init_350 (j := 3) hf65__s___10_ ⟨by decide, by decide, by decide⟩ (fun w_66 ew_66 => ?_)
  rw [waP_up (by decide)] at ew_66
  replace ew_66 : w_66 = (w_65).set ((s + 10)) (mI 0 9 (waP 4)) := ew_66
  have hl_66 : w_66.length = (s + 11) := by rw [ew_66, List.length_set, hl_65]
  have hw_66 : mLowW w_66.length w_66 := by rw [hl_66, ew_66]; exact mLowW.set (by rw [← hl_65]; exact hw_65) trivial
  have hf66_s : w_66[s]? = some (mO 10 [.int 0, .int 0, .int (-1), .int (-1), .int 0, .ref (s + 1), .ref (s + 2), .ref (s + 3), .ref (s + 4), .ref (s + 5), .ref (s + 6), .ref (s + 7), .ref (s + 8), .ref (s + 9), .null, .int 0, .int 0, .int 0, .int 0, .int 0, .int 0]) := by rw [ew_66, List.getElem?_set_ne (by omega)]; exact hf65_s
  have hf66__s___1_ : w_66[(s + 1)]? = some (mI 0 67 (fun _ => 0)) := by rw [ew_66, List.getElem?_set_ne (by omega)]; exact hf65__s___1_
  have hf66__s___2_ : w_66[(s + 2)]? = some (mI 0 67 (fun _ => 0)) := by rw [ew_66, List.getElem?_set_ne (by omega)]; exact hf65__s___2_
  have hf66__s___3_ : w_66[(s + 3)]? = some (mI 0 67 (fun _ => 0)) := by rw [ew_66, List.getElem?_set_ne (by omega)]; exact hf65__s___3_
  have hf66__s___4_ : w_66[(s + 4)]? = some (mI 0 67 (fun _ => 0)) := by rw [ew_66, List.getElem?_set_ne (by omega)]; exact hf65__s___4_
  have hf66__s___5_ : w_66[(s + 5)]? = some (mI 0 536 (fun _ => 0)) := by rw [ew_66, List.getElem?_set_ne (by omega)]; exact hf65__s___5_
  have hf66__s___6_ : w_66[(s + 6)]? = some (mI 0 60 (fun _ => 0)) := by rw [ew_66, List.getElem?_set_ne (by omega)]; exact hf65__s___6_
  have hf66__s___7_ : w_66[(s + 7)]? = some (mI 0 40 (fun _ => 0)) := by rw [ew_66, List.getElem?_set_ne (by omega)]; exact hf65__s___7_
  have hf66__s___8_ : w_66[(s + 8)]? = some (mI 0 8 (fun _ => 0)) := by rw [ew_66, List.getElem?_set_ne (by omega)]; exact hf65__s___8_
  have hf66__s___9_ : w_66[(s + 9)]? = some (mI 0 41 (wdP 41)) := by rw [ew_66, List.getElem?_set_ne (by omega)]; exact hf65__s___9_
  have hf66__s___10_ : w_66[(s + 10)]? = some (mI 0 9 (waP 4)) := by rw [ew_66]; exact List.getElem?_set_self (lt_of_get hf65__s___10_)
  refine r_dup hC dX9_init_351 rfl ?_
  refine r_iconst hC dX9_init_352 (v := 4) (by decide) ?_
  refine r_bipush hC dX9_init_353 (v := 22) (by decide) ?_
  refine r_iast' hC dX9_init_355 (j := 4) hf66__s___10_ ⟨by decide, by decide, by decide⟩ (fun w_67 ew_67 => ?_)
  rw [waP_up (by decide)] at ew_67
  replace ew_67 : w_67 = (w_66).set ((s + 10)) (mI 0 9 (waP 5)) := ew_67
  have hl_67 : w_67.length = (s + 11) := by rw [ew_67, List.length_set, hl_66]
  have hw_67 : mLowW w_67.length w_67 := by rw [hl_67, ew_67]; exact mLowW.set (by rw [← hl_66]; exact hw_66) trivial
  have hf67_s : w_67[s]? = some (mO 10 [.int 0, .int 0, .int (-1), .int (-1), .int 0, .ref (s + 1), .ref (s + 2), .ref (s + 3), .ref (s + 4), .ref (s + 5), .ref (s + 6), .ref (s + 7), .ref (s + 8), .ref (s + 9), .null, .int 0, .int 0, .int 0, .int 0, .int 0, .int 0]) := by rw [ew_67, List.getElem?_set_ne (by omega)]; exact hf66_s
  have hf67__s___1_ : w_67[(s + 1)]? = some (mI 0 67 (fun _ => 0)) := by rw [ew_67, List.getElem?_set_ne (by omega)]; exact hf66__s___1_
  have hf67__s___2_ : w_67[(s + 2)]? = some (mI 0 67 (fun _ => 0)) := by rw [ew_67, List.getElem?_set_ne (by omega)]; exact hf66__s___2_
  have hf67__s___3_ : w_67[(s + 3)]? = some (mI 0 67 (fun _ => 0)) := by rw [ew_67, List.getElem?_set_ne (by omega)]; exact hf66__s___3_
  have hf67__s___4_ : w_67[(s + 4)]? = some (mI 0 67 (fun _ => 0)) := by rw [ew_67, List.getElem?_set_ne (by omega)]; exact hf66__s___4_
  have hf67__s___5_ : w_67[(s + 5)]? = some (mI 0 536 (fun _ => 0)) := by rw [ew_67, List.getElem?_set_ne (by omega)]; exact hf66__s___5_
  have hf67__s___6_ : w_67[(s + 6)]? = some (mI 0 60 (fun _ => 0)) := by rw [ew_67, List.getElem?_set_ne (by omega)]; exact hf66__s___6_
  have hf67__s___7_ : w_67[(s + 7)]? = some (mI 0 40 (fun _ => 0)) := by rw [ew_67, List.getElem?_set_ne (by omega)]; exact hf66__s___7_
  have hf67__s___8_ : w_67[(s + 8)]? = some (mI 0 8 (fun _ => 0)) := by rw [ew_67, List.getElem?_set_ne (by omega)]; exact hf66__s___8_
  have hf67__s___9_ : w_67[(s + 9)]? = some (mI 0 41 (wdP 41)) := by rw [ew_67, List.getElem?_set_ne (by omega)]; exact hf66__s___9_
  have hf67__s___10_ : w_67[(s + 10)]? = some (mI 0 9 (waP 5)) := by rw [ew_67]; exact List.getElem?_set_self (lt_of_get hf66__s___10_)
  refine r_dup hC dX9_init_356 rfl ?_
  refine r_iconst hC dX9_init_357 (v := 5) (by decide) ?_
  refine r_bipush hC dX9_init_358 (v := 26) (by decide) ?_
  refine r_iast' hC dX9_init_360 (j := 5) hf67__s___10_ ⟨by decide, by decide, by decide⟩ (fun w_68 ew_68 => ?_)
  rw [waP_up (by decide)] at ew_68
  replace ew_68 : w_68 = (w_67).set ((s + 10)) (mI 0 9 (waP 6)) := ew_68
  have hl_68 : w_68.length = (s + 11) := by rw [ew_68, List.length_set, hl_67]
  have hw_68 : mLowW w_68.length w_68 := by rw [hl_68, ew_68]; exact mLowW.set (by rw [← hl_67]; exact hw_67) trivial
  have hf68_s : w_68[s]? = some (mO 10 [.int 0, .int 0, .int (-1), .int (-1), .int 0, .ref (s + 1), .ref (s + 2), .ref (s + 3), .ref (s + 4), .ref (s + 5), .ref (s + 6), .ref (s + 7), .ref (s + 8), .ref (s + 9), .null, .int 0, .int 0, .int 0, .int 0, .int 0, .int 0]) := by rw [ew_68, List.getElem?_set_ne (by omega)]; exact hf67_s
  have hf68__s___1_ : w_68[(s + 1)]? = some (mI 0 67 (fun _ => 0)) := by rw [ew_68, List.getElem?_set_ne (by omega)]; exact hf67__s___1_
  have hf68__s___2_ : w_68[(s + 2)]? = some (mI 0 67 (fun _ => 0)) := by rw [ew_68, List.getElem?_set_ne (by omega)]; exact hf67__s___2_
  have hf68__s___3_ : w_68[(s + 3)]? = some (mI 0 67 (fun _ => 0)) := by rw [ew_68, List.getElem?_set_ne (by omega)]; exact hf67__s___3_
  have hf68__s___4_ : w_68[(s + 4)]? = some (mI 0 67 (fun _ => 0)) := by rw [ew_68, List.getElem?_set_ne (by omega)]; exact hf67__s___4_
  have hf68__s___5_ : w_68[(s + 5)]? = some (mI 0 536 (fun _ => 0)) := by rw [ew_68, List.getElem?_set_ne (by omega)]; exact hf67__s___5_
  have hf68__s___6_ : w_68[(s + 6)]? = some (mI 0 60 (fun _ => 0)) := by rw [ew_68, List.getElem?_set_ne (by omega)]; exact hf67__s___6_
  have hf68__s___7_ : w_68[(s + 7)]? = some (mI 0 40 (fun _ => 0)) := by rw [ew_68, List.getElem?_set_ne (by omega)]; exact hf67__s___7_
  have hf68__s___8_ : w_68[(s + 8)]? = some (mI 0 8 (fun _ => 0)) := by rw [ew_68, List.getElem?_set_ne (by omega)]; exact hf67__s___8_
  have hf68__s___9_ : w_68[(s + 9)]? = some (mI 0 41 (wdP 41)) := by rw [ew_68, List.getElem?_set_ne (by omega)]; exact hf67__s___9_
  have hf68__s___10_ : w_68[(s + 10)]? = some (mI 0 9 (waP 6)) := by rw [ew_68]; exact List.getElem?_set_self (lt_of_get hf67__s___10_)
  refine r_dup hC dX9_init_361 rfl ?_
  refine r_bipush hC dX9_init_362 (v := 6) (by decide) ?_
  refine r_bipush hC dX9_init_364 (v := 32) (by decide) ?_
  refine r_iast' hC dX9_init_366 (j := 6) hf68__s___10_ ⟨by decide, by decide, by decide⟩ (fun w_69 ew_69 => ?_)
  rw [waP_up (by decide)] at ew_69
  replace ew_69 : w_69 = (w_68).set ((s + 10)) (mI 0 9 (waP 7)) := ew_69
  have hl_69 : w_69.length = (s + 11) := by rw [ew_69, List.length_set, hl_68]
  have hw_69 : mLowW w_69.length w_69 := by rw [hl_69, ew_69]; exact mLowW.set (by rw [← hl_68]; exact hw_68) trivial
  have hf69_s : w_69[s]? = some (mO 10 [.int 0, .int 0, .int (-1), .int (-1), .int 0, .ref (s + 1), .ref (s + 2), .ref (s + 3), .ref (s + 4), .ref (s + 5), .ref (s + 6), .ref (s + 7), .ref (s + 8), .ref (s + 9), .null, .int 0, .int 0, .int 0, .int 0, .int 0, .int 0]) := by rw [ew_69, List.getElem?_set_ne (by omega)]; exact hf68_s
  have hf69__s___1_ : w_69[(s + 1)]? = some (mI 0 67 (fun _ => 0)) := by rw [ew_69, List.getElem?_set_ne (by omega)]; exact hf68__s___1_
  have hf69__s___2_ : w_69[(s + 2)]? = some (mI 0 67 (fun _ => 0)) := by rw [ew_69, List.getElem?_set_ne (by omega)]; exact hf68__s___2_
  have hf69__s___3_ : w_69[(s + 3)]? = some (mI 0 67 (fun _ => 0)) := by rw [ew_69, List.getElem?_set_ne (by omega)]; exact hf68__s___3_
  have hf69__s___4_ : w_69[(s + 4)]? = some (mI 0 67 (fun _ => 0)) := by rw [ew_69, List.getElem?_set_ne (by omega)]; exact hf68__s___4_
  have hf69__s___5_ : w_69[(s + 5)]? = some (mI 0 536 (fun _ => 0)) := by rw [ew_69, List.getElem?_set_ne (by omega)]; exact hf68__s___5_
  have hf69__s___6_ : w_69[(s + 6)]? = some (mI 0 60 (fun _ => 0)) := by rw [ew_69, List.getElem?_set_ne (by omega)]; exact hf68__s___6_
  have hf69__s___7_ : w_69[(s + 7)]? = some (mI 0 40 (fun _ => 0)) := by rw [ew_69, List.getElem?_set_ne (by omega)]; exact hf68__s___7_
  have hf69__s___8_ : w_69[(s + 8)]? = some (mI 0 8 (fun _ => 0)) := by rw [ew_69, List.getElem?_set_ne (by omega)]; exact hf68__s___8_
  have hf69__s___9_ : w_69[(s + 9)]? = some (mI 0 41 (wdP 41)) := by rw [ew_69, List.getElem?_set_ne (by omega)]; exact hf68__s___9_
  have hf69__s___10_ : w_69[(s + 10)]? = some (mI 0 9 (waP 7)) := by rw [ew_69]; exact List.getElem?_set_self (lt_of_get hf68__s___10_)
  refine r_dup hC dX9_init_367 rfl ?_
  refine r_bipush hC dX9_init_368 (v := 7) (by decide) ?_
  refine r_bipush hC dX9_init_370 (v := 36) (by decide) ?_
  refine r_iast' hC dX9_init_372 (j := 7) hf69__s___10_ ⟨by decide, by decide, by decide⟩ (fun w_70 ew_70 => ?_)
  rw [waP_up (by decide)] at ew_70
  replace ew_70 : w_70 = (w_69).set ((s + 10)) (mI 0 9 (waP 8)) := ew_70
  have hl_70 : w_70.length = (s + 11) := by rw [ew_70, List.length_set, hl_69]
  have hw_70 : mLowW w_70.length w_70 := by rw [hl_70, ew_70]; exact mLowW.set (by rw [← hl_69]; exact hw_69) trivial
  have hf70_s : w_70[s]? = some (mO 10 [.int 0, .int 0, .int (-1), .int (-1), .int 0, .ref (s + 1), .ref (s + 2), .ref (s + 3), .ref (s + 4), .ref (s + 5), .ref (s + 6), .ref (s + 7), .ref (s + 8), .ref (s + 9), .null, .int 0, .int 0, .int 0, .int 0, .int 0, .int 0]) := by rw [ew_70, List.getElem?_set_ne (by omega)]; exact hf69_s
  have hf70__s___1_ : w_70[(s + 1)]? = some (mI 0 67 (fun _ => 0)) := by rw [ew_70, List.getElem?_set_ne (by omega)]; exact hf69__s___1_
  have hf70__s___2_ : w_70[(s + 2)]? = some (mI 0 67 (fun _ => 0)) := by rw [ew_70, List.getElem?_set_ne (by omega)]; exact hf69__s___2_
  have hf70__s___3_ : w_70[(s + 3)]? = some (mI 0 67 (fun _ => 0)) := by rw [ew_70, List.getElem?_set_ne (by omega)]; exact hf69__s___3_
  have hf70__s___4_ : w_70[(s + 4)]? = some (mI 0 67 (fun _ => 0)) := by rw [ew_70, List.getElem?_set_ne (by omega)]; exact hf69__s___4_
  have hf70__s___5_ : w_70[(s + 5)]? = some (mI 0 536 (fun _ => 0)) := by rw [ew_70, List.getElem?_set_ne (by omega)]; exact hf69__s___5_
  have hf70__s___6_ : w_70[(s + 6)]? = some (mI 0 60 (fun _ => 0)) := by rw [ew_70, List.getElem?_set_ne (by omega)]; exact hf69__s___6_
  have hf70__s___7_ : w_70[(s + 7)]? = some (mI 0 40 (fun _ => 0)) := by rw [ew_70, List.getElem?_set_ne (by omega)]; exact hf69__s___7_
  have hf70__s___8_ : w_70[(s + 8)]? = some (mI 0 8 (fun _ => 0)) := by rw [ew_70, List.getElem?_set_ne (by omega)]; exact hf69__s___8_
  have hf70__s___9_ : w_70[(s + 9)]? = some (mI 0 41 (wdP 41)) := by rw [ew_70, List.getElem?_set_ne (by omega)]; exact hf69__s___9_
  have hf70__s___10_ : w_70[(s + 10)]? = some (mI 0 9 (waP 8)) := by rw [ew_70]; exact List.getElem?_set_self (lt_of_get hf69__s___10_)
  refine r_dup hC dX9_init_373 rfl ?_
  refine r_bipush hC dX9_init_374 (v := 8) (by decide) ?_
  refine r_bipush hC dX9_init_376 (v := 41) (by decide) ?_
  refine r_iast' hC dX9_init_378 (j := 8) hf70__s___10_ ⟨by decide, by decide, by decide⟩ (fun w_71 ew_71 => ?_)
  rw [waP_up (by decide)] at ew_71
  replace ew_71 : w_71 = (w_70).set ((s + 10)) (mI 0 9 (waP 9)) := ew_71
  have hl_71 : w_71.length = (s + 11) := by rw [ew_71, List.length_set, hl_70]
  have hw_71 : mLowW w_71.length w_71 := by rw [hl_71, ew_71]; exact mLowW.set (by rw [← hl_70]; exact hw_70) trivial
  have hf71_s : w_71[s]? = some (mO 10 [.int 0, .int 0, .int (-1), .int (-1), .int 0, .ref (s + 1), .ref (s + 2), .ref (s + 3), .ref (s + 4), .ref (s + 5), .ref (s + 6), .ref (s + 7), .ref (s + 8), .ref (s + 9), .null, .int 0, .int 0, .int 0, .int 0, .int 0, .int 0]) := by rw [ew_71, List.getElem?_set_ne (by omega)]; exact hf70_s
  have hf71__s___1_ : w_71[(s + 1)]? = some (mI 0 67 (fun _ => 0)) := by rw [ew_71, List.getElem?_set_ne (by omega)]; exact hf70__s___1_
  have hf71__s___2_ : w_71[(s + 2)]? = some (mI 0 67 (fun _ => 0)) := by rw [ew_71, List.getElem?_set_ne (by omega)]; exact hf70__s___2_
  have hf71__s___3_ : w_71[(s + 3)]? = some (mI 0 67 (fun _ => 0)) := by rw [ew_71, List.getElem?_set_ne (by omega)]; exact hf70__s___3_
  have hf71__s___4_ : w_71[(s + 4)]? = some (mI 0 67 (fun _ => 0)) := by rw [ew_71, List.getElem?_set_ne (by omega)]; exact hf70__s___4_
  have hf71__s___5_ : w_71[(s + 5)]? = some (mI 0 536 (fun _ => 0)) := by rw [ew_71, List.getElem?_set_ne (by omega)]; exact hf70__s___5_
  have hf71__s___6_ : w_71[(s + 6)]? = some (mI 0 60 (fun _ => 0)) := by rw [ew_71, List.getElem?_set_ne (by omega)]; exact hf70__s___6_
  have hf71__s___7_ : w_71[(s + 7)]? = some (mI 0 40 (fun _ => 0)) := by rw [ew_71, List.getElem?_set_ne (by omega)]; exact hf70__s___7_
  have hf71__s___8_ : w_71[(s + 8)]? = some (mI 0 8 (fun _ => 0)) := by rw [ew_71, List.getElem?_set_ne (by omega)]; exact hf70__s___8_
  have hf71__s___9_ : w_71[(s + 9)]? = some (mI 0 41 (wdP 41)) := by rw [ew_71, List.getElem?_set_ne (by omega)]; exact hf70__s___9_
  have hf71__s___10_ : w_71[(s + 10)]? = some (mI 0 9 (waP 9)) := by rw [ew_71]; exact List.getElem?_set_self (lt_of_get hf70__s___10_)
  refine n_putI' hC hNm pX9_init_379 hf71_s (Nat.le_of_ble_eq_true rfl) (fun _ => rfl) (fun _ => rfl) (fun w_72 ew_72 => ?_)
  replace ew_72 : w_72 = (w_71).set (s) (mO 10 [.int 0, .int 0, .int (-1), .int (-1), .int 0, .ref (s + 1), .ref (s + 2), .ref (s + 3), .ref (s + 4), .ref (s + 5), .ref (s + 6), .ref (s + 7), .ref (s + 8), .ref (s + 9), .ref (s + 10), .int 0, .int 0, .int 0, .int 0, .int 0, .int 0]) := ew_72
  have hl_72 : w_72.length = (s + 11) := by rw [ew_72, List.length_set, hl_71]
  have hw_72 : mLowW w_72.length w_72 := by rw [hl_72, ew_72]; exact mLowW.set (by rw [← hl_71]; exact hw_71) ⟨trivial, trivial, trivial, trivial, trivial, (Or.inl (by omega)), (Or.inl (by omega)), (Or.inl (by omega)), (Or.inl (by omega)), (Or.inl (by omega)), (Or.inl (by omega)), (Or.inl (by omega)), (Or.inl (by omega)), (Or.inl (by omega)), (Or.inl (by omega)), trivial, trivial, trivial, trivial, trivial, trivial, trivial⟩
  have hf72_s : w_72[s]? = some (mO 10 [.int 0, .int 0, .int (-1), .int (-1), .int 0, .ref (s + 1), .ref (s + 2), .ref (s + 3), .ref (s + 4), .ref (s + 5), .ref (s + 6), .ref (s + 7), .ref (s + 8), .ref (s + 9), .ref (s + 10), .int 0, .int 0, .int 0, .int 0, .int 0, .int 0]) := by rw [ew_72]; exact List.getElem?_set_self (lt_of_get hf71_s)
  have hf72__s___1_ : w_72[(s + 1)]? = some (mI 0 67 (fun _ => 0)) := by rw [ew_72, List.getElem?_set_ne (by omega)]; exact hf71__s___1_
  have hf72__s___2_ : w_72[(s + 2)]? = some (mI 0 67 (fun _ => 0)) := by rw [ew_72, List.getElem?_set_ne (by omega)]; exact hf71__s___2_
  have hf72__s___3_ : w_72[(s + 3)]? = some (mI 0 67 (fun _ => 0)) := by rw [ew_72, List.getElem?_set_ne (by omega)]; exact hf71__s___3_
  have hf72__s___4_ : w_72[(s + 4)]? = some (mI 0 67 (fun _ => 0)) := by rw [ew_72, List.getElem?_set_ne (by omega)]; exact hf71__s___4_
  have hf72__s___5_ : w_72[(s + 5)]? = some (mI 0 536 (fun _ => 0)) := by rw [ew_72, List.getElem?_set_ne (by omega)]; exact hf71__s___5_
  have hf72__s___6_ : w_72[(s + 6)]? = some (mI 0 60 (fun _ => 0)) := by rw [ew_72, List.getElem?_set_ne (by omega)]; exact hf71__s___6_
  have hf72__s___7_ : w_72[(s + 7)]? = some (mI 0 40 (fun _ => 0)) := by rw [ew_72, List.getElem?_set_ne (by omega)]; exact hf71__s___7_
  have hf72__s___8_ : w_72[(s + 8)]? = some (mI 0 8 (fun _ => 0)) := by rw [ew_72, List.getElem?_set_ne (by omega)]; exact hf71__s___8_
  have hf72__s___9_ : w_72[(s + 9)]? = some (mI 0 41 (wdP 41)) := by rw [ew_72, List.getElem?_set_ne (by omega)]; exact hf71__s___9_
  have hf72__s___10_ : w_72[(s + 10)]? = some (mI 0 9 (waP 9)) := by rw [ew_72, List.getElem?_set_ne (by omega)]; exact hf71__s___10_
  refine r_aload_n hC dX9_init_382 rfl (j := 0) rfl ?_
  refine r_get hC gX9_init_383 hf72_s (v := .ref (s + 1)) rfl ?_
  refine r_iconst hC dX9_init_386 (v := 1) (by decide) ?_
  refine r_iconst hC dX9_init_387 (v := 3) (by decide) ?_
  refine r_iast' hC dX9_init_388 (j := 1) hf72__s___1_ ⟨by decide, by decide, by decide⟩ (fun w_73 ew_73 => ?_)
  replace ew_73 : w_73 = (w_72).set ((s + 1)) (mI 0 67 (upd (fun _ => 0) 1 3)) := ew_73
  have hl_73 : w_73.length = (s + 11) := by rw [ew_73, List.length_set, hl_72]
  have hw_73 : mLowW w_73.length w_73 := by rw [hl_73, ew_73]; exact mLowW.set (by rw [← hl_72]; exact hw_72) trivial
  have hf73_s : w_73[s]? = some (mO 10 [.int 0, .int 0, .int (-1), .int (-1), .int 0, .ref (s + 1), .ref (s + 2), .ref (s + 3), .ref (s + 4), .ref (s + 5), .ref (s + 6), .ref (s + 7), .ref (s + 8), .ref (s + 9), .ref (s + 10), .int 0, .int 0, .int 0, .int 0, .int 0, .int 0]) := by rw [ew_73, List.getElem?_set_ne (by omega)]; exact hf72_s
  have hf73__s___1_ : w_73[(s + 1)]? = some (mI 0 67 (upd (fun _ => 0) 1 3)) := by rw [ew_73]; exact List.getElem?_set_self (lt_of_get hf72__s___1_)
  have hf73__s___2_ : w_73[(s + 2)]? = some (mI 0 67 (fun _ => 0)) := by rw [ew_73, List.getElem?_set_ne (by omega)]; exact hf72__s___2_
  have hf73__s___3_ : w_73[(s + 3)]? = some (mI 0 67 (fun _ => 0)) := by rw [ew_73, List.getElem?_set_ne (by omega)]; exact hf72__s___3_
  have hf73__s___4_ : w_73[(s + 4)]? = some (mI 0 67 (fun _ => 0)) := by rw [ew_73, List.getElem?_set_ne (by omega)]; exact hf72__s___4_
  have hf73__s___5_ : w_73[(s + 5)]? = some (mI 0 536 (fun _ => 0)) := by rw [ew_73, List.getElem?_set_ne (by omega)]; exact hf72__s___5_
  have hf73__s___6_ : w_73[(s + 6)]? = some (mI 0 60 (fun _ => 0)) := by rw [ew_73, List.getElem?_set_ne (by omega)]; exact hf72__s___6_
  have hf73__s___7_ : w_73[(s + 7)]? = some (mI 0 40 (fun _ => 0)) := by rw [ew_73, List.getElem?_set_ne (by omega)]; exact hf72__s___7_
  have hf73__s___8_ : w_73[(s + 8)]? = some (mI 0 8 (fun _ => 0)) := by rw [ew_73, List.getElem?_set_ne (by omega)]; exact hf72__s___8_
  have hf73__s___9_ : w_73[(s + 9)]? = some (mI 0 41 (wdP 41)) := by rw [ew_73, List.getElem?_set_ne (by omega)]; exact hf72__s___9_
  have hf73__s___10_ : w_73[(s + 10)]? = some (mI 0 9 (waP 9)) := by rw [ew_73, List.getElem?_set_ne (by omega)]; exact hf72__s___10_
  refine r_arrEq hf73__s___1_ enc0 ?_
  obtain ⟨w_74, ew_74⟩ : ∃ z, z = w_73.set (s + 1) (mI 0 67 (enc sv0)) := ⟨_, rfl⟩
  rw [← ew_74]
  replace ew_74 : w_74 = (w_73).set ((s + 1)) (mI 0 67 (enc sv0)) := ew_74
  have hl_74 : w_74.length = (s + 11) := by rw [ew_74, List.length_set, hl_73]
  have hw_74 : mLowW w_74.length w_74 := by rw [hl_74, ew_74]; exact mLowW.set (by rw [← hl_73]; exact hw_73) trivial
  have hf74_s : w_74[s]? = some (mO 10 [.int 0, .int 0, .int (-1), .int (-1), .int 0, .ref (s + 1), .ref (s + 2), .ref (s + 3), .ref (s + 4), .ref (s + 5), .ref (s + 6), .ref (s + 7), .ref (s + 8), .ref (s + 9), .ref (s + 10), .int 0, .int 0, .int 0, .int 0, .int 0, .int 0]) := by rw [ew_74, List.getElem?_set_ne (by omega)]; exact hf73_s
  have hf74__s___1_ : w_74[(s + 1)]? = some (mI 0 67 (enc sv0)) := by rw [ew_74]; exact List.getElem?_set_self (lt_of_get hf73__s___1_)
  have hf74__s___2_ : w_74[(s + 2)]? = some (mI 0 67 (fun _ => 0)) := by rw [ew_74, List.getElem?_set_ne (by omega)]; exact hf73__s___2_
  have hf74__s___3_ : w_74[(s + 3)]? = some (mI 0 67 (fun _ => 0)) := by rw [ew_74, List.getElem?_set_ne (by omega)]; exact hf73__s___3_
  have hf74__s___4_ : w_74[(s + 4)]? = some (mI 0 67 (fun _ => 0)) := by rw [ew_74, List.getElem?_set_ne (by omega)]; exact hf73__s___4_
  have hf74__s___5_ : w_74[(s + 5)]? = some (mI 0 536 (fun _ => 0)) := by rw [ew_74, List.getElem?_set_ne (by omega)]; exact hf73__s___5_
  have hf74__s___6_ : w_74[(s + 6)]? = some (mI 0 60 (fun _ => 0)) := by rw [ew_74, List.getElem?_set_ne (by omega)]; exact hf73__s___6_
  have hf74__s___7_ : w_74[(s + 7)]? = some (mI 0 40 (fun _ => 0)) := by rw [ew_74, List.getElem?_set_ne (by omega)]; exact hf73__s___7_
  have hf74__s___8_ : w_74[(s + 8)]? = some (mI 0 8 (fun _ => 0)) := by rw [ew_74, List.getElem?_set_ne (by omega)]; exact hf73__s___8_
  have hf74__s___9_ : w_74[(s + 9)]? = some (mI 0 41 (wdP 41)) := by rw [ew_74, List.getElem?_set_ne (by omega)]; exact hf73__s___9_
  have hf74__s___10_ : w_74[(s + 10)]? = some (mI 0 9 (waP 9)) := by rw [ew_74, List.getElem?_set_ne (by omega)]; exact hf73__s___10_
  refine r_arrEq hf74__s___9_ wdP_41 ?_
  obtain ⟨w_75, ew_75⟩ : ∃ z, z = w_74.set (s + 9) (mI 0 41 wdF) := ⟨_, rfl⟩
  rw [← ew_75]
  replace ew_75 : w_75 = (w_74).set ((s + 9)) (mI 0 41 wdF) := ew_75
  have hl_75 : w_75.length = (s + 11) := by rw [ew_75, List.length_set, hl_74]
  have hw_75 : mLowW w_75.length w_75 := by rw [hl_75, ew_75]; exact mLowW.set (by rw [← hl_74]; exact hw_74) trivial
  have hf75_s : w_75[s]? = some (mO 10 [.int 0, .int 0, .int (-1), .int (-1), .int 0, .ref (s + 1), .ref (s + 2), .ref (s + 3), .ref (s + 4), .ref (s + 5), .ref (s + 6), .ref (s + 7), .ref (s + 8), .ref (s + 9), .ref (s + 10), .int 0, .int 0, .int 0, .int 0, .int 0, .int 0]) := by rw [ew_75, List.getElem?_set_ne (by omega)]; exact hf74_s
  have hf75__s___1_ : w_75[(s + 1)]? = some (mI 0 67 (enc sv0)) := by rw [ew_75, List.getElem?_set_ne (by omega)]; exact hf74__s___1_
  have hf75__s___2_ : w_75[(s + 2)]? = some (mI 0 67 (fun _ => 0)) := by rw [ew_75, List.getElem?_set_ne (by omega)]; exact hf74__s___2_
  have hf75__s___3_ : w_75[(s + 3)]? = some (mI 0 67 (fun _ => 0)) := by rw [ew_75, List.getElem?_set_ne (by omega)]; exact hf74__s___3_
  have hf75__s___4_ : w_75[(s + 4)]? = some (mI 0 67 (fun _ => 0)) := by rw [ew_75, List.getElem?_set_ne (by omega)]; exact hf74__s___4_
  have hf75__s___5_ : w_75[(s + 5)]? = some (mI 0 536 (fun _ => 0)) := by rw [ew_75, List.getElem?_set_ne (by omega)]; exact hf74__s___5_
  have hf75__s___6_ : w_75[(s + 6)]? = some (mI 0 60 (fun _ => 0)) := by rw [ew_75, List.getElem?_set_ne (by omega)]; exact hf74__s___6_
  have hf75__s___7_ : w_75[(s + 7)]? = some (mI 0 40 (fun _ => 0)) := by rw [ew_75, List.getElem?_set_ne (by omega)]; exact hf74__s___7_
  have hf75__s___8_ : w_75[(s + 8)]? = some (mI 0 8 (fun _ => 0)) := by rw [ew_75, List.getElem?_set_ne (by omega)]; exact hf74__s___8_
  have hf75__s___9_ : w_75[(s + 9)]? = some (mI 0 41 wdF) := by rw [ew_75]; exact List.getElem?_set_self (lt_of_get hf74__s___9_)
  have hf75__s___10_ : w_75[(s + 10)]? = some (mI 0 9 (waP 9)) := by rw [ew_75, List.getElem?_set_ne (by omega)]; exact hf74__s___10_
  refine r_arrEq hf75__s___10_ waP_9 ?_
  obtain ⟨w_76, ew_76⟩ : ∃ z, z = w_75.set (s + 10) (mI 0 9 waF) := ⟨_, rfl⟩
  rw [← ew_76]
  replace ew_76 : w_76 = (w_75).set ((s + 10)) (mI 0 9 waF) := ew_76
  have hl_76 : w_76.length = (s + 11) := by rw [ew_76, List.length_set, hl_75]
  have hw_76 : mLowW w_76.length w_76 := by rw [hl_76, ew_76]; exact mLowW.set (by rw [← hl_75]; exact hw_75) trivial
  have hf76_s : w_76[s]? = some (mO 10 [.int 0, .int 0, .int (-1), .int (-1), .int 0, .ref (s + 1), .ref (s + 2), .ref (s + 3), .ref (s + 4), .ref (s + 5), .ref (s + 6), .ref (s + 7), .ref (s + 8), .ref (s + 9), .ref (s + 10), .int 0, .int 0, .int 0, .int 0, .int 0, .int 0]) := by rw [ew_76, List.getElem?_set_ne (by omega)]; exact hf75_s
  have hf76__s___1_ : w_76[(s + 1)]? = some (mI 0 67 (enc sv0)) := by rw [ew_76, List.getElem?_set_ne (by omega)]; exact hf75__s___1_
  have hf76__s___2_ : w_76[(s + 2)]? = some (mI 0 67 (fun _ => 0)) := by rw [ew_76, List.getElem?_set_ne (by omega)]; exact hf75__s___2_
  have hf76__s___3_ : w_76[(s + 3)]? = some (mI 0 67 (fun _ => 0)) := by rw [ew_76, List.getElem?_set_ne (by omega)]; exact hf75__s___3_
  have hf76__s___4_ : w_76[(s + 4)]? = some (mI 0 67 (fun _ => 0)) := by rw [ew_76, List.getElem?_set_ne (by omega)]; exact hf75__s___4_
  have hf76__s___5_ : w_76[(s + 5)]? = some (mI 0 536 (fun _ => 0)) := by rw [ew_76, List.getElem?_set_ne (by omega)]; exact hf75__s___5_
  have hf76__s___6_ : w_76[(s + 6)]? = some (mI 0 60 (fun _ => 0)) := by rw [ew_76, List.getElem?_set_ne (by omega)]; exact hf75__s___6_
  have hf76__s___7_ : w_76[(s + 7)]? = some (mI 0 40 (fun _ => 0)) := by rw [ew_76, List.getElem?_set_ne (by omega)]; exact hf75__s___7_
  have hf76__s___8_ : w_76[(s + 8)]? = some (mI 0 8 (fun _ => 0)) := by rw [ew_76, List.getElem?_set_ne (by omega)]; exact hf75__s___8_
  have hf76__s___9_ : w_76[(s + 9)]? = some (mI 0 41 wdF) := by rw [ew_76, List.getElem?_set_ne (by omega)]; exact hf75__s___9_
  have hf76__s___10_ : w_76[(s + 10)]? = some (mI 0 9 waF) := by rw [ew_76]; exact List.getElem?_set_self (lt_of_get hf75__s___10_)
  -- the end
  refine n_vret hC hE hR dX9_init_389 (by omega) (by omega) (by rw [hl_76]; omega) ?_
  exact ⟨rfl, ⟨by rw [hl_76]; omega, hw_76, fun k h9 => by rw [ew_76, List.getElem?_set_ne (by omega), ew_75, List.getElem?_set_ne (by omega), ew_74, List.getElem?_set_ne (by omega), ew_73, List.getElem?_set_ne (by omega), ew_72, List.getElem?_set_ne (by omega), ew_71, List.getElem?_set_ne (by omega), ew_70, List.getElem?_set_ne (by omega), ew_69, List.getElem?_set_ne (by omega), ew_68, List.getElem?_set_ne (by omega), ew_67, List.getElem?_set_ne (by omega), ew_66, List.getElem?_set_ne (by omega), ew_65, List.getElem?_set_ne (by omega), ew_64, List.getElem?_set_ne (by omega), ew_63, List.getElem?_set_ne (by omega), ew_62, List.getElem?_append_left (by rw [hl_61]; omega), ew_61, List.getElem?_set_ne (by omega), ew_60, List.getElem?_set_ne (by omega), ew_59, List.getElem?_set_ne (by omega), ew_58, List.getElem?_set_ne (by omega), ew_57, List.getElem?_set_ne (by omega), ew_56, List.getElem?_set_ne (by omega), ew_55, List.getElem?_set_ne (by omega), ew_54, List.getElem?_set_ne (by omega), ew_53, List.getElem?_set_ne (by omega), ew_52, List.getElem?_set_ne (by omega), ew_51, List.getElem?_set_ne (by omega), ew_50, List.getElem?_set_ne (by omega), ew_49, List.getElem?_set_ne (by omega), ew_48, List.getElem?_set_ne (by omega), ew_47, List.getElem?_set_ne (by omega), ew_46, List.getElem?_set_ne (by omega), ew_45, List.getElem?_set_ne (by omega), ew_44, List.getElem?_set_ne (by omega), ew_43, List.getElem?_set_ne (by omega), ew_42, List.getElem?_set_ne (by omega), ew_41, List.getElem?_set_ne (by omega), ew_40, List.getElem?_set_ne (by omega), ew_39, List.getElem?_set_ne (by omega), ew_38, List.getElem?_set_ne (by omega), ew_37, List.getElem?_set_ne (by omega), ew_36, List.getElem?_set_ne (by omega), ew_35, List.getElem?_set_ne (by omega), ew_34, List.getElem?_set_ne (by omega), ew_33, List.getElem?_set_ne (by omega), ew_32, List.getElem?_set_ne (by omega), ew_31, List.getElem?_set_ne (by omega), ew_30, List.getElem?_set_ne (by omega), ew_29, List.getElem?_set_ne (by omega), ew_28, List.getElem?_set_ne (by omega), ew_27, List.getElem?_set_ne (by omega), ew_26, List.getElem?_set_ne (by omega), ew_25, List.getElem?_set_ne (by omega), ew_24, List.getElem?_set_ne (by omega), ew_23, List.getElem?_set_ne (by omega), ew_22, List.getElem?_set_ne (by omega), ew_21, List.getElem?_set_ne (by omega), ew_20, List.getElem?_set_ne (by omega), ew_19, List.getElem?_append_left (by rw [hl_18]; omega), ew_18, List.getElem?_set_ne (by omega), ew_17, List.getElem?_append_left (by rw [hl_16]; omega), ew_16, List.getElem?_set_ne (by omega), ew_15, List.getElem?_append_left (by rw [hl_14]; omega), ew_14, List.getElem?_set_ne (by omega), ew_13, List.getElem?_append_left (by rw [hl_12]; omega), ew_12, List.getElem?_set_ne (by omega), ew_11, List.getElem?_append_left (by rw [hl_10]; omega), ew_10, List.getElem?_set_ne (by omega), ew_9, List.getElem?_append_left (by rw [hl_8]; omega), ew_8, List.getElem?_set_ne (by omega), ew_7, List.getElem?_append_left (by rw [hl_6]; omega), ew_6, List.getElem?_set_ne (by omega), ew_5, List.getElem?_append_left (by rw [hl_4]; omega), ew_4, List.getElem?_set_ne (by omega), ew_3, List.getElem?_append_left (by rw [hl_2]; omega), ew_2, List.getElem?_set_ne (by omega), ew_1, List.getElem?_set_ne (by omega)]⟩, 0, 0, 0, 0, fun _ => 0, fun _ => 0, fun _ => 0, fun _ => 0, fun _ => 0, hf76_s, hf76__s___1_, hf76__s___2_, hf76__s___3_, hf76__s___4_, hf76__s___5_, hf76__s___6_, hf76__s___7_, hf76__s___8_, hf76__s___9_, hf76__s___10_, ⟨by decide, fun i y e => by simp at e⟩, fun z e => by cases e⟩
end CT
