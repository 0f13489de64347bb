section HL
/-- a hill's things: heights (the outside's is the last), owners, slope, border, lost -/
abbrev hv : Type := (Nat → Int32) × (Nat → Int32) × Int32 × Int32 × Int32
def HillAt (w : mW) (h a b : Nat) (x : hv) : Prop := w[h]? = some (mO 6 [.ref a, .ref b, .int x.2.2.1, .int x.2.2.2.1, .int x.2.2.2.2]) ∧ w[a]? = some (mI 0 26 x.1) ∧ w[b]? = some (mI 0 25 x.2.1)
def hillSet (w : mW) (h a b : Nat) (x : hv) : mW := ((w.set h (mO 6 [.ref a, .ref b, .int x.2.2.1, .int x.2.2.2.1, .int x.2.2.2.2])).set a (mI 0 26 x.1)).set b (mI 0 25 x.2.1)
theorem mI_ne {t t' n n' : Nat} {f g : Nat → Int32} (h : n ≠ n') : mI t n f ≠ mI t' n' g := by
  intro e
  have e2 : (t, (n, (Sum.inl f : _))) = (t', (n', (Sum.inl g : (Nat → Int32) ⊕ ((Nat → Int64) ⊕ (Nat → UInt32) ⊕ (Nat → UInt64) ⊕ (Nat → Option Nat))))) := Sum.inl.inj e
  exact h (congrArg (fun q => q.2.1) e2)
theorem HillAt.ne {w : mW} {h a b : Nat} {x : hv} (H : HillAt w h a b x) : h ≠ a ∧ h ≠ b ∧ a ≠ b := by
  obtain ⟨h1, h2, h3⟩ := H
  refine ⟨fun e => ?_, fun e => ?_, fun e => ?_⟩
  · subst e; rw [h1] at h2; cases h2
  · subst e; rw [h1] at h3; cases h3
  · subst e; rw [h2] at h3; exact mI_ne (by decide) (Option.some.inj h3)
theorem set_same {α : Type} {w : List α} {k : Nat} {e : α} (h : w[k]? = some e) : w.set k e = w := by
  apply List.ext_getElem?
  intro i
  by_cases hi : k = i
  · subst hi
    rw [List.getElem?_set_self (lt_of_get h), h]
  · rw [List.getElem?_set_ne hi]
theorem hillSet_len (w : mW) (h a b : Nat) (x : hv) : (hillSet w h a b x).length = w.length := by simp only [hillSet, List.length_set]
theorem HillAt.set {w : mW} {h a b : Nat} {x : hv} (H : HillAt w h a b x) (y : hv) : HillAt (hillSet w h a b y) h a b y := by
  obtain ⟨n1, n2, n3⟩ := H.ne
  obtain ⟨h1, h2, h3⟩ := H
  have l1 := lt_of_get h1
  have l2 := lt_of_get h2
  have l3 := lt_of_get h3
  refine ⟨?_, ?_, ?_⟩
  · rw [hillSet, List.getElem?_set_ne (Ne.symm n2), List.getElem?_set_ne (Ne.symm n1), List.getElem?_set_self l1]
  · rw [hillSet, List.getElem?_set_ne (Ne.symm n3), List.getElem?_set_self (by rw [List.length_set]; exact l2)]
  · rw [hillSet, List.getElem?_set_self (by rw [List.length_set, List.length_set]; exact l3)]
theorem hillSet_other {w : mW} {h a b k : Nat} {y : hv} (n1 : k ≠ h) (n2 : k ≠ a) (n3 : k ≠ b) : (hillSet w h a b y)[k]? = w[k]? := by
  rw [hillSet, List.getElem?_set_ne (Ne.symm n3), List.getElem?_set_ne (Ne.symm n2), List.getElem?_set_ne (Ne.symm n1)]
theorem hillSet_same {w : mW} {h a b : Nat} {x : hv} (H : HillAt w h a b x) : hillSet w h a b x = w := by
  obtain ⟨h1, h2, h3⟩ := H
  rw [hillSet, set_same h1, set_same h2, set_same h3]
theorem hillSet_set {w : mW} {h a b : Nat} {x y z : hv} (H : HillAt w h a b x) : hillSet (hillSet w h a b y) h a b z = hillSet w h a b z := by
  obtain ⟨n1, n2, n3⟩ := H.ne
  apply List.ext_getElem?
  intro i
  by_cases e1 : i = h
  · subst e1
    exact ((H.set y).set z).1.trans (H.set z).1.symm
  · by_cases e2 : i = a
    · subst e2
      exact ((H.set y).set z).2.1.trans (H.set z).2.1.symm
    · by_cases e3 : i = b
      · subst e3
        exact ((H.set y).set z).2.2.trans (H.set z).2.2.symm
      · rw [hillSet_other e1 e2 e3, hillSet_other e1 e2 e3, hillSet_other e1 e2 e3]
theorem hillSet_f {w : mW} {h a b : Nat} {f g : Nat → Int32} {sl op lo : Int32} (H : HillAt w h a b (f, g, sl, op, lo)) (f' : Nat → Int32) : w.set a (mI 0 26 f') = hillSet w h a b (f', g, sl, op, lo) := by
  have h1 : w.set h (mO 6 [.ref a, .ref b, .int sl, .int op, .int lo]) = w := set_same H.1
  have h3 : (w.set a (mI 0 26 f')).set b (mI 0 25 g) = w.set a (mI 0 26 f') := set_same (by rw [List.getElem?_set_ne H.ne.2.2]; exact H.2.2)
  show _ = ((w.set h (mO 6 [.ref a, .ref b, .int sl, .int op, .int lo])).set a (mI 0 26 f')).set b (mI 0 25 g)
  rw [h1, h3]
theorem hillSet_fg {w : mW} {h a b : Nat} {f g : Nat → Int32} {sl op lo : Int32} (H : HillAt w h a b (f, g, sl, op, lo)) (f' g' : Nat → Int32) : (w.set a (mI 0 26 f')).set b (mI 0 25 g') = hillSet w h a b (f', g', sl, op, lo) := by
  have h1 : w.set h (mO 6 [.ref a, .ref b, .int sl, .int op, .int lo]) = w := set_same H.1
  show _ = ((w.set h (mO 6 [.ref a, .ref b, .int sl, .int op, .int lo])).set a (mI 0 26 f')).set b (mI 0 25 g')
  rw [h1]
theorem hillSet_h {w : mW} {h a b : Nat} {x : hv} (H : HillAt w h a b x) (sl op lo : Int32) : w.set h (mO 6 [.ref a, .ref b, .int sl, .int op, .int lo]) = hillSet w h a b (x.1, x.2.1, sl, op, lo) := by
  have n := H.ne
  have h2 : (w.set h (mO 6 [.ref a, .ref b, .int sl, .int op, .int lo])).set a (mI 0 26 x.1) = w.set h (mO 6 [.ref a, .ref b, .int sl, .int op, .int lo]) := set_same (by rw [List.getElem?_set_ne n.1]; exact H.2.1)
  have h3 : (w.set h (mO 6 [.ref a, .ref b, .int sl, .int op, .int lo])).set b (mI 0 25 x.2.1) = w.set h (mO 6 [.ref a, .ref b, .int sl, .int op, .int lo]) := set_same (by rw [List.getElem?_set_ne n.2.1]; exact H.2.2)
  show _ = ((w.set h (mO 6 [.ref a, .ref b, .int sl, .int op, .int lo])).set a (mI 0 26 x.1)).set b (mI 0 25 x.2.1)
  rw [h2, h3]
theorem lit_ge {c N : Nat} {M : Int32} (hM : M = nI N) (h : c < N) (hN : N < 2 ^ 31) : ¬ M ≤ nI c := by rw [hM]; exact nI_ge h hN
theorem lit_le {c N : Nat} {M : Int32} (hM : M = nI N) (h : N ≤ c) (hc : c < 2 ^ 31) : M ≤ nI c := by rw [hM]; exact nI_le h hc
theorem lit_eq {c N : Nat} {M : Int32} (hM : M = nI N) (hc : c < 2 ^ 31) (hN : N < 2 ^ 31) : nI c = M ↔ c = N := by rw [hM]; exact nI_eq hc hN
/-- the neighbours of a cell, by their places -/
def hNb (c s : Nat) : Nat := (mNB.getD (c * 4 + s) 0).toNatClampNeg
theorem hNb_lt : ∀ c, c < 25 → ∀ s, s < 4 → hNb c s < 26 := by decide +kernel
theorem hNb_nI : ∀ c, c < 25 → ∀ s, s < 4 → mNB.getD (c * 4 + s) 0 = nI (hNb c s) := by decide +kernel
theorem tNb {c s : Nat} (hc : c < 25) (hs : s < 4) : tArr mNB (c * 4 + s) = .int (nI (hNb c s)) := congrArg Value.int (hNb_nI c hc s hs)
theorem mIx4 {c s : Nat} (hc : c < 25) (hs : s < 4) : mIx (nI c * 4 + nI s) (c * 4 + s) 100 := by
  have e : nI c * 4 + nI s = nI (c * 4 + s) := by
    have : ∀ c, c < 25 → ∀ s, s < 4 → nI c * 4 + nI s = nI (c * 4 + s) := by decide +kernel
    exact this c hc s hs
  rw [e]
  exact mIx_nI (by omega) (by decide)
theorem mIx40 {c : Nat} (hc : c < 25) : mIx (nI c * 4) (c * 4 + 0) 100 := by
  have e : nI c * 4 = nI (c * 4 + 0) := by
    have : ∀ c, c < 25 → nI c * 4 = nI (c * 4 + 0) := by decide +kernel
    exact this c hc
  rw [e]
  exact mIx_nI (by omega) (by decide)
set_option maxRecDepth 100000 in
set_option maxHeartbeats 4000000 in
/-- place: stones come onto a cell, which belongs to t then -/
theorem sp_place {d c : Nat} {s t : Int32} {w : mW} {h a b : Nat} {f g : Nat → Int32} {sl op lo : Int32} (H : HillAt w h a b (f, g, sl, op, lo)) (hc : c < 26) (hc2 : c < 25) : Sp d yX4_place cX4_place 4 none [.ref h, .int (nI c), .int s, .int t] w 0 0 (fun v w' => v = none ∧ w' = hillSet w h a b (upd f c (f c + s), upd g c t, sl, op, lo)) noX := by
  refine Sp.of (by decide +kernel) (Nat.le_of_ble_eq_true rfl) (fun X hC hnl hE hR hN => ?_)
  have hC : Cx X RX4 cX4_place d 0 0 := hC
  show Wp X 0 0 w [(0, .ref h), (1, .int (nI c)), (2, .int s), (3, .int t)] [] 0
  obtain ⟨nha, nhb, nab⟩ := H.ne
  have hh : w[h]? = some (mO 6 [.ref a, .ref b, .int sl, .int op, .int lo]) := H.1
  have ha : w[a]? = some (mI 0 26 f) := H.2.1
  have hb : w[b]? = some (mI 0 25 g) := H.2.2
  refine r_aload_n hC dX4_place_0 rfl (j := 0) rfl ?_
  refine r_get hC gX4_place_1 hh (v := .ref a) rfl ?_
  refine r_iload_n hC dX4_place_4 rfl (j := 1) rfl ?_
  refine r_dup2 hC dX4_place_5 rfl rfl ?_
  refine r_iald hC dX4_place_6 (j := c) ha (mIx_nI (by omega) (by decide)) ?_
  refine r_iload_n hC dX4_place_7 rfl (j := 2) rfl ?_
  refine r_iadd hC dX4_place_8 ?_
  refine r_iast' hC dX4_place_9 (j := c) ha (mIx_nI (by omega) (by decide)) (fun w_1 ew_1 => ?_)
  have hf1_h : w_1[h]? = some (mO 6 [.ref a, .ref b, .int sl, .int op, .int lo]) := by rw [ew_1, List.getElem?_set_ne (Ne.symm nha)]; exact hh
  have hf1_a : w_1[a]? = some (mI 0 26 (upd f c ((f c) + s))) := by rw [ew_1]; exact List.getElem?_set_self (lt_of_get ha)
  have hf1_b : w_1[b]? = some (mI 0 25 g) := by rw [ew_1, List.getElem?_set_ne nab]; exact hb
  refine r_aload_n hC dX4_place_10 rfl (j := 0) rfl ?_
  refine r_get hC gX4_place_11 hf1_h (v := .ref b) rfl ?_
  refine r_iload_n hC dX4_place_14 rfl (j := 1) rfl ?_
  refine r_iload_n hC dX4_place_15 rfl (j := 3) rfl ?_
  refine r_iast' hC dX4_place_16 (j := c) hf1_b (mIx_nI (by omega) (by decide)) (fun w_2 ew_2 => ?_)
  have hf2_h : w_2[h]? = some (mO 6 [.ref a, .ref b, .int sl, .int op, .int lo]) := by rw [ew_2, List.getElem?_set_ne (Ne.symm nhb)]; exact hf1_h
  have hf2_a : w_2[a]? = some (mI 0 26 (upd f c ((f c) + s))) := by rw [ew_2, List.getElem?_set_ne (Ne.symm nab)]; exact hf1_a
  have hf2_b : w_2[b]? = some (mI 0 25 (upd g c t)) := by rw [ew_2]; exact List.getElem?_set_self (lt_of_get hf1_b)
  refine r_vret hC hE hR dX4_place_17 (by omega) (by omega) (by simp only [ew_2, ew_1, List.length_set]) ?_
  exact ⟨rfl, by rw [ew_2, ew_1]; exact hillSet_fg H _ _⟩
set_option maxRecDepth 100000 in
set_option maxHeartbeats 4000000 in
/-- removeStone -/
theorem sp_removeStone {d c : Nat} {w : mW} {h a b : Nat} {f g : Nat → Int32} {sl op lo : Int32} (H : HillAt w h a b (f, g, sl, op, lo)) (hc : c < 25) : Sp d yX4_removeStone cX4_removeStone 2 none [.ref h, .int (nI c)] w 0 0 (fun v w' => v = none ∧ w' = hillSet w h a b (upd f c (f c - 1), (if f c - 1 = 0 then upd g c (-1) else g), sl, op, lo)) noX := by
  refine Sp.of (by decide +kernel) (Nat.le_of_ble_eq_true rfl) (fun X hC hnl hE hR hN => ?_)
  have hC : Cx X RX4 cX4_removeStone d 0 0 := hC
  show Wp X 0 0 w [(0, .ref h), (1, .int (nI c))] [] 0
  obtain ⟨nha, nhb, nab⟩ := H.ne
  have hh : w[h]? = some (mO 6 [.ref a, .ref b, .int sl, .int op, .int lo]) := H.1
  have ha : w[a]? = some (mI 0 26 f) := H.2.1
  have hb : w[b]? = some (mI 0 25 g) := H.2.2
  refine r_aload_n hC dX4_removeStone_0 rfl (j := 0) rfl ?_
  refine r_get hC gX4_removeStone_1 hh (v := .ref a) rfl ?_
  refine r_iload_n hC dX4_removeStone_4 rfl (j := 1) rfl ?_
  refine r_dup2 hC dX4_removeStone_5 rfl rfl ?_
  refine r_iald hC dX4_removeStone_6 (j := c) ha (mIx_nI (by omega) (by decide)) ?_
  refine r_iconst hC dX4_removeStone_7 (v := 1) (by decide) ?_
  refine r_isub hC dX4_removeStone_8 ?_
  refine r_iast' hC dX4_removeStone_9 (j := c) ha (mIx_nI (by omega) (by decide)) (fun w_1 ew_1 => ?_)
  have hf1_h : w_1[h]? = some (mO 6 [.ref a, .ref b, .int sl, .int op, .int lo]) := by rw [ew_1, List.getElem?_set_ne (Ne.symm nha)]; exact hh
  have hf1_a : w_1[a]? = some (mI 0 26 (upd f c ((f c) - 1))) := by rw [ew_1]; exact List.getElem?_set_self (lt_of_get ha)
  have hf1_b : w_1[b]? = some (mI 0 25 g) := by rw [ew_1, List.getElem?_set_ne nab]; exact hb
  refine r_aload_n hC dX4_removeStone_10 rfl (j := 0) rfl ?_
  refine r_get hC gX4_removeStone_11 hf1_h (v := .ref a) rfl ?_
  refine r_iload_n hC dX4_removeStone_14 rfl (j := 1) rfl ?_
  refine r_iald hC dX4_removeStone_15 (j := c) hf1_a (mIx_nI (by omega) (by decide)) ?_
  refine r_if_ne hC dX4_removeStone_16 (tgt := 26) (by decide) (fun c16 => ?_) (fun c16 => ?_)
  · refine r_vret hC hE hR dX4_removeStone_26 (by omega) (by omega) (by simp only [ew_1, List.length_set]) ?_
    have c9 : ¬ f c - 1 = 0 := fun q => c16 (by rw [pk_us]; exact q)
    exact ⟨rfl, by rw [if_neg c9, ew_1]; exact hillSet_f H _⟩
  · refine r_aload_n hC dX4_removeStone_19 rfl (j := 0) rfl ?_
    refine r_get hC gX4_removeStone_20 hf1_h (v := .ref b) rfl ?_
    refine r_iload_n hC dX4_removeStone_23 rfl (j := 1) rfl ?_
    refine r_iconst hC dX4_removeStone_24 (v := (-1)) (by decide) ?_
    refine r_iast' hC dX4_removeStone_25 (j := c) hf1_b (mIx_nI (by omega) (by decide)) (fun w_2 ew_2 => ?_)
    have hf2_h : w_2[h]? = some (mO 6 [.ref a, .ref b, .int sl, .int op, .int lo]) := by rw [ew_2, List.getElem?_set_ne (Ne.symm nhb)]; exact hf1_h
    have hf2_a : w_2[a]? = some (mI 0 26 (upd f c ((f c) - 1))) := by rw [ew_2, List.getElem?_set_ne (Ne.symm nab)]; exact hf1_a
    have hf2_b : w_2[b]? = some (mI 0 25 (upd g c (-1))) := by rw [ew_2]; exact List.getElem?_set_self (lt_of_get hf1_b)
    refine r_vret hC hE hR dX4_removeStone_26 (by omega) (by omega) (by simp only [ew_2, ew_1, List.length_set]) ?_
    have c9 : f c - 1 = 0 := by rw [← c16, pk_us]
    exact ⟨rfl, by rw [if_pos c9, ew_2, ew_1]; exact hillSet_fg H _ _⟩
/-- one more neighbour is looked at -/
def lowStep (f : Nat → Int32) (op : Int32) (c s lo : Nat) : Nat := if (hNb c s ≠ 25 ∨ op ≠ 0) ∧ ¬ f lo ≤ f (hNb c s) then hNb c s else lo
/-- the lowest neighbour -/
def hLow (f : Nat → Int32) (op : Int32) (c : Nat) : Nat := lowStep f op c 3 (lowStep f op c 2 (lowStep f op c 1 (hNb c 0)))
theorem lowStep_lt {f : Nat → Int32} {op : Int32} {c s lo : Nat} (hc : c < 25) (hs : s < 4) (h : lo < 26) : lowStep f op c s lo < 26 := by
  unfold lowStep
  split
  · exact hNb_lt c hc s hs
  · exact h
theorem hLow_lt {f : Nat → Int32} {op : Int32} {c : Nat} (hc : c < 25) : hLow f op c < 26 := lowStep_lt hc (by decide) (lowStep_lt hc (by decide) (lowStep_lt hc (by decide) (hNb_lt c hc 0 (by decide))))
set_option maxRecDepth 100000 in
set_option maxHeartbeats 4000000 in
theorem low_it {X : mC} {d : Nat} {c s lw : Nat} {w : mW} {h a b : Nat} {f g : Nat → Int32} {sl op lo : Int32} (hC : Cx X RX4 cX4_findLowestNeighbour d 0 0) (hnl : mNL X = 6) (H : HillAt w h a b (f, g, sl, op, lo)) (hc : c < 25) (hs : s < 4) (hlw : lw < 26) (kk : Wp X 0 0 w [(0, .ref h), (1, .int (nI c)), (2, .int (nI (lowStep f op c s lw))), (3, .int (nI (s + 1)))] [] 10) : Wp X 0 0 w [(0, .ref h), (1, .int (nI c)), (2, .int (nI lw)), (3, .int (nI s))] [] 10 := by
  obtain ⟨nha, nhb, nab⟩ := H.ne
  have hh : w[h]? = some (mO 6 [.ref a, .ref b, .int sl, .int op, .int lo]) := H.1
  have ha : w[a]? = some (mI 0 26 f) := H.2.1
  have hb : w[b]? = some (mI 0 25 g) := H.2.2
  have hb9 := hNb_lt c hc s hs
  refine r_iload_n hC dX4_findLowestNeighbour_10 rfl (j := 3) rfl ?_
  refine r_iconst hC dX4_findLowestNeighbour_11 (v := 4) (by decide) ?_
  refine r_icmp_ge hC dX4_findLowestNeighbour_12 (tgt := 77) (by decide) (fun h => absurd h (lit_ge rfl hs (by decide))) (fun _ => ?_)
  refine r_gets hC sX4_findLowestNeighbour_15 (v := .ref 1000000) gZ_nb ?_
  refine r_iload_n hC dX4_findLowestNeighbour_18 rfl (j := 1) rfl ?_
  refine r_iconst hC dX4_findLowestNeighbour_19 (v := 4) (by decide) ?_
  refine r_imul hC dX4_findLowestNeighbour_20 ?_
  refine r_iload_n hC dX4_findLowestNeighbour_21 rfl (j := 3) rfl ?_
  refine r_iadd hC dX4_findLowestNeighbour_22 ?_
  refine r_ialdS hC dX4_findLowestNeighbour_23 (j := c * 4 + s) gT_nb (mIx4 hc hs) ?_
  rw [tNb hc hs]
  refine r_istore hC dX4_findLowestNeighbour_24 (by rw [hnl]; decide) (L' := [(4, .int (nI (hNb c s))), (0, .ref h), (1, .int (nI c)), (2, .int (nI lw)), (3, .int (nI s))]) rfl ?_
  refine r_iload hC dX4_findLowestNeighbour_26 (j := 0) rfl ?_
  refine r_bipush hC dX4_findLowestNeighbour_28 (v := 25) (by decide) ?_
  refine r_icmp_ne hC dX4_findLowestNeighbour_30 (tgt := 40) (by decide) (fun c30 => ?_) (fun c30 => ?_)
  · refine r_iconst hC dX4_findLowestNeighbour_40 (v := 1) (by decide) ?_
    refine r_goto hC dX4_findLowestNeighbour_41 (tgt := 45) (by decide) ?_
    refine r_istore hC dX4_findLowestNeighbour_45 (by rw [hnl]; decide) (L' := [(5, .int 1), (4, .int (nI (hNb c s))), (0, .ref h), (1, .int (nI c)), (2, .int (nI lw)), (3, .int (nI s))]) rfl ?_
    refine r_iload hC dX4_findLowestNeighbour_47 (j := 0) rfl ?_
    refine r_if_eq hC dX4_findLowestNeighbour_49 (tgt := 71) (by decide) (fun h => absurd h (by decide)) (fun _ => ?_)
    refine r_aload_n hC dX4_findLowestNeighbour_52 rfl (j := 2) rfl ?_
    refine r_get hC gX4_findLowestNeighbour_53 hh (v := .ref a) rfl ?_
    refine r_iload hC dX4_findLowestNeighbour_56 (j := 1) rfl ?_
    refine r_iald hC dX4_findLowestNeighbour_58 (j := (hNb c s)) ha (mIx_nI (by omega) (by decide)) ?_
    refine r_aload_n hC dX4_findLowestNeighbour_59 rfl (j := 2) rfl ?_
    refine r_get hC gX4_findLowestNeighbour_60 hh (v := .ref a) rfl ?_
    refine r_iload_n hC dX4_findLowestNeighbour_63 rfl (j := 4) rfl ?_
    refine r_iald hC dX4_findLowestNeighbour_64 (j := lw) ha (mIx_nI (by omega) (by decide)) ?_
    refine r_icmp_ge hC dX4_findLowestNeighbour_65 (tgt := 71) (by decide) (fun c65 => ?_) (fun c65 => ?_)
    · refine r_iinc hC dX4_findLowestNeighbour_71 (j := 5) rfl (v := nI (s + 1)) (nI_succ s).symm (by rw [hnl]; decide) (L' := [(3, .int (nI (s + 1))), (5, .int 1), (4, .int (nI (hNb c s))), (0, .ref h), (1, .int (nI c)), (2, .int (nI lw))]) rfl ?_
      refine r_goto hC dX4_findLowestNeighbour_74 (tgt := 10) (by decide) ?_
      refine r_locals [3, 4, 5, 0] (L' := [(0, .ref h), (1, .int (nI c)), (2, .int (nI lw)), (3, .int (nI (s + 1)))]) rfl ?_
      have hq : ¬ hNb c s = 25 := fun q => c30 (by rw [q]; rfl)
      have e9 : lowStep f op c s lw = lw := if_neg (fun q => q.2 c65)
      rw [e9] at kk
      exact kk
    · refine r_iload hC dX4_findLowestNeighbour_68 (j := 1) rfl ?_
      refine r_istore_n hC dX4_findLowestNeighbour_70 rfl (by rw [hnl]; decide) (L' := [(2, .int (nI (hNb c s))), (5, .int 1), (4, .int (nI (hNb c s))), (0, .ref h), (1, .int (nI c)), (3, .int (nI s))]) rfl ?_
      refine r_iinc hC dX4_findLowestNeighbour_71 (j := 5) rfl (v := nI (s + 1)) (nI_succ s).symm (by rw [hnl]; decide) (L' := [(3, .int (nI (s + 1))), (2, .int (nI (hNb c s))), (5, .int 1), (4, .int (nI (hNb c s))), (0, .ref h), (1, .int (nI c))]) rfl ?_
      refine r_goto hC dX4_findLowestNeighbour_74 (tgt := 10) (by decide) ?_
      refine r_locals [4, 5, 1, 0] (L' := [(0, .ref h), (1, .int (nI c)), (2, .int (nI (hNb c s))), (3, .int (nI (s + 1)))]) rfl ?_
      have hq : ¬ hNb c s = 25 := fun q => c30 (by rw [q]; rfl)
      have e9 : lowStep f op c s lw = (hNb c s) := if_pos ⟨Or.inl hq, c65⟩
      rw [e9] at kk
      exact kk
  · refine r_aload_n hC dX4_findLowestNeighbour_33 rfl (j := 1) rfl ?_
    refine r_get hC gX4_findLowestNeighbour_34 hh (v := .int op) rfl ?_
    refine r_if_eq hC dX4_findLowestNeighbour_37 (tgt := 44) (by decide) (fun c37 => ?_) (fun c37 => ?_)
    · refine r_iconst hC dX4_findLowestNeighbour_44 (v := 0) (by decide) ?_
      refine r_istore hC dX4_findLowestNeighbour_45 (by rw [hnl]; decide) (L' := [(5, .int 0), (4, .int (nI (hNb c s))), (0, .ref h), (1, .int (nI c)), (2, .int (nI lw)), (3, .int (nI s))]) rfl ?_
      refine r_iload hC dX4_findLowestNeighbour_47 (j := 0) rfl ?_
      refine r_if_eq hC dX4_findLowestNeighbour_49 (tgt := 71) (by decide) (fun _ => ?_) (fun h => absurd (by decide) h)
      refine r_iinc hC dX4_findLowestNeighbour_71 (j := 5) rfl (v := nI (s + 1)) (nI_succ s).symm (by rw [hnl]; decide) (L' := [(3, .int (nI (s + 1))), (5, .int 0), (4, .int (nI (hNb c s))), (0, .ref h), (1, .int (nI c)), (2, .int (nI lw))]) rfl ?_
      refine r_goto hC dX4_findLowestNeighbour_74 (tgt := 10) (by decide) ?_
      refine r_locals [3, 4, 5, 0] (L' := [(0, .ref h), (1, .int (nI c)), (2, .int (nI lw)), (3, .int (nI (s + 1)))]) rfl ?_
      have hq : hNb c s = 25 := (lit_eq rfl (by omega) (by decide)).mp c30
      have e9 : lowStep f op c s lw = lw := if_neg (fun q => q.1.elim (fun h => h hq) (fun h => h c37))
      rw [e9] at kk
      exact kk
    · refine r_iconst hC dX4_findLowestNeighbour_40 (v := 1) (by decide) ?_
      refine r_goto hC dX4_findLowestNeighbour_41 (tgt := 45) (by decide) ?_
      refine r_istore hC dX4_findLowestNeighbour_45 (by rw [hnl]; decide) (L' := [(5, .int 1), (4, .int (nI (hNb c s))), (0, .ref h), (1, .int (nI c)), (2, .int (nI lw)), (3, .int (nI s))]) rfl ?_
      refine r_iload hC dX4_findLowestNeighbour_47 (j := 0) rfl ?_
      refine r_if_eq hC dX4_findLowestNeighbour_49 (tgt := 71) (by decide) (fun h => absurd h (by decide)) (fun _ => ?_)
      refine r_aload_n hC dX4_findLowestNeighbour_52 rfl (j := 2) rfl ?_
      refine r_get hC gX4_findLowestNeighbour_53 hh (v := .ref a) rfl ?_
      refine r_iload hC dX4_findLowestNeighbour_56 (j := 1) rfl ?_
      refine r_iald hC dX4_findLowestNeighbour_58 (j := (hNb c s)) ha (mIx_nI (by omega) (by decide)) ?_
      refine r_aload_n hC dX4_findLowestNeighbour_59 rfl (j := 2) rfl ?_
      refine r_get hC gX4_findLowestNeighbour_60 hh (v := .ref a) rfl ?_
      refine r_iload_n hC dX4_findLowestNeighbour_63 rfl (j := 4) rfl ?_
      refine r_iald hC dX4_findLowestNeighbour_64 (j := lw) ha (mIx_nI (by omega) (by decide)) ?_
      refine r_icmp_ge hC dX4_findLowestNeighbour_65 (tgt := 71) (by decide) (fun c65 => ?_) (fun c65 => ?_)
      · refine r_iinc hC dX4_findLowestNeighbour_71 (j := 5) rfl (v := nI (s + 1)) (nI_succ s).symm (by rw [hnl]; decide) (L' := [(3, .int (nI (s + 1))), (5, .int 1), (4, .int (nI (hNb c s))), (0, .ref h), (1, .int (nI c)), (2, .int (nI lw))]) rfl ?_
        refine r_goto hC dX4_findLowestNeighbour_74 (tgt := 10) (by decide) ?_
        refine r_locals [3, 4, 5, 0] (L' := [(0, .ref h), (1, .int (nI c)), (2, .int (nI lw)), (3, .int (nI (s + 1)))]) rfl ?_
        have hq : hNb c s = 25 := (lit_eq rfl (by omega) (by decide)).mp c30
        have e9 : lowStep f op c s lw = lw := if_neg (fun q => q.2 c65)
        rw [e9] at kk
        exact kk
      · refine r_iload hC dX4_findLowestNeighbour_68 (j := 1) rfl ?_
        refine r_istore_n hC dX4_findLowestNeighbour_70 rfl (by rw [hnl]; decide) (L' := [(2, .int (nI (hNb c s))), (5, .int 1), (4, .int (nI (hNb c s))), (0, .ref h), (1, .int (nI c)), (3, .int (nI s))]) rfl ?_
        refine r_iinc hC dX4_findLowestNeighbour_71 (j := 5) rfl (v := nI (s + 1)) (nI_succ s).symm (by rw [hnl]; decide) (L' := [(3, .int (nI (s + 1))), (2, .int (nI (hNb c s))), (5, .int 1), (4, .int (nI (hNb c s))), (0, .ref h), (1, .int (nI c))]) rfl ?_
        refine r_goto hC dX4_findLowestNeighbour_74 (tgt := 10) (by decide) ?_
        refine r_locals [4, 5, 1, 0] (L' := [(0, .ref h), (1, .int (nI c)), (2, .int (nI (hNb c s))), (3, .int (nI (s + 1)))]) rfl ?_
        have hq : hNb c s = 25 := (lit_eq rfl (by omega) (by decide)).mp c30
        have e9 : lowStep f op c s lw = (hNb c s) := if_pos ⟨Or.inr c37, c65⟩
        rw [e9] at kk
        exact kk
set_option maxRecDepth 100000 in
set_option maxHeartbeats 4000000 in
theorem sp_low {d c : Nat} {w : mW} {h a b : Nat} {f g : Nat → Int32} {sl op lo : Int32} (H : HillAt w h a b (f, g, sl, op, lo)) (hc : c < 25) : Sp d yX4_findLowestNeighbour cX4_findLowestNeighbour 6 (some .int) [.ref h, .int (nI c)] w 0 0 (fun v w' => v = some (.int (nI (hLow f op c))) ∧ w' = w) noX := by
  refine Sp.of (by decide +kernel) (Nat.le_of_ble_eq_true rfl) (fun X hC hnl hE hR hN => ?_)
  have hC : Cx X RX4 cX4_findLowestNeighbour d 0 0 := hC
  show Wp X 0 0 w [(0, .ref h), (1, .int (nI c))] [] 0
  obtain ⟨nha, nhb, nab⟩ := H.ne
  have hh : w[h]? = some (mO 6 [.ref a, .ref b, .int sl, .int op, .int lo]) := H.1
  have ha : w[a]? = some (mI 0 26 f) := H.2.1
  have hb : w[b]? = some (mI 0 25 g) := H.2.2
  have hb9 := hNb_lt c hc 0 (by decide)
  refine r_gets hC sX4_findLowestNeighbour_0 (v := .ref 1000000) gZ_nb ?_
  refine r_iload_n hC dX4_findLowestNeighbour_3 rfl (j := 1) rfl ?_
  refine r_iconst hC dX4_findLowestNeighbour_4 (v := 4) (by decide) ?_
  refine r_imul hC dX4_findLowestNeighbour_5 ?_
  refine r_ialdS hC dX4_findLowestNeighbour_6 (j := c * 4 + 0) gT_nb (mIx40 hc) ?_
  rw [tNb hc (by decide)]
  refine r_istore_n hC dX4_findLowestNeighbour_7 rfl (by rw [hnl]; decide) (L' := [(2, .int (nI (hNb c 0))), (0, .ref h), (1, .int (nI c))]) rfl ?_
  refine r_iconst hC dX4_findLowestNeighbour_8 (v := 1) (by decide) ?_
  refine r_istore_n hC dX4_findLowestNeighbour_9 rfl (by rw [hnl]; decide) (L' := [(3, .int 1), (2, .int (nI (hNb c 0))), (0, .ref h), (1, .int (nI c))]) rfl ?_
  refine r_locals [2, 3, 1, 0] (L' := [(0, .ref h), (1, .int (nI c)), (2, .int (nI (hNb c 0))), (3, .int 1)]) rfl ?_
  refine low_it (s := 1) hC hnl H hc (by decide) (hNb_lt c hc 0 (by decide)) ?_
  refine low_it (s := 2) hC hnl H hc (by decide) (lowStep_lt hc (by decide) (hNb_lt c hc 0 (by decide))) ?_
  refine low_it (s := 3) hC hnl H hc (by decide) (lowStep_lt hc (by decide) (lowStep_lt hc (by decide) (hNb_lt c hc 0 (by decide)))) ?_
  refine r_iload_n hC dX4_findLowestNeighbour_10 rfl (j := 3) rfl ?_
  refine r_iconst hC dX4_findLowestNeighbour_11 (v := 4) (by decide) ?_
  refine r_icmp_ge hC dX4_findLowestNeighbour_12 (tgt := 77) (by decide) (fun _ => ?_) (fun h => absurd (lit_le rfl (Nat.le_refl 4) (by decide)) h)
  refine r_iload_n hC dX4_findLowestNeighbour_77 rfl (j := 2) rfl ?_
  refine r_iret hC hE hR dX4_findLowestNeighbour_78 (by omega) (by omega) (rfl) ?_
  exact ⟨rfl, rfl⟩
end HL
