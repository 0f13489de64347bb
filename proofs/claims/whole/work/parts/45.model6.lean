section MD6
def wdL : List Int32 := [112, 108, 97, 121, 101, 114, 32, 100, 114, 111, 112, 32, 112, 105, 108, 101, 32, 116, 97, 107, 101, 32, 115, 107, 105, 112, 115, 108, 111, 112, 101, 32, 111, 112, 101, 110, 99, 108, 111, 115, 101]
def wdF (j : Nat) : Int32 := wdL.getD j 0
def waL : List Nat := [0, 7, 12, 17, 22, 26, 32, 36, 41]
def waF (j : Nat) : Int32 := nI (waL.getD j 0)
/-- only the reference's own things differ -/
def Fr (m : Nat) (w w' : mW) : Prop := w'.length = w.length ∧ ∀ k, (k < m ∨ m + 10 < k) → w'[k]? = w[k]?
theorem Fr.rfl {m : Nat} {w : mW} : Fr m w w := ⟨Eq.refl _, fun _ _ => Eq.refl _⟩
theorem Fr.trans {m : Nat} {w w1 w2 : mW} (h1 : Fr m w w1) (h2 : Fr m w1 w2) : Fr m w w2 := ⟨h2.1.trans h1.1, fun k hk => (h2.2 k hk).trans (h1.2 k hk)⟩
theorem Fr.set {m a : Nat} {w w1 : mW} {c : mE} (h1 : Fr m w w1) (h : m ≤ a) (h2 : a ≤ m + 10) : Fr m w (w1.set a c) := ⟨by rw [List.length_set]; exact h1.1, fun k hk => by rw [List.getElem?_set_ne (by omega)]; exact h1.2 k hk⟩
/-- the states that can come back, the newest last -/
def PastOK (p : Nat → Int32) (l : List sv) : Prop := l.length ≤ 8 ∧ ∀ i y, l[i]? = some y → ∀ k, k < 67 → p (i * 67 + k) = enc y k
def push8 (l : List sv) (y : sv) : List sv := if l.length = 8 then l.tail ++ [y] else l ++ [y]
theorem push8_len {l : List sv} {y : sv} (h : l.length ≤ 8) : (push8 l y).length = (if l.length = 8 then 8 else l.length + 1) := by
  unfold push8
  split
  · rw [List.length_append, List.length_tail]; simp; omega
  · rw [List.length_append]; rfl
def MdAt (w : mW) (m : Nat) (th : Int32) (y : sv) (l : List sv) (ea fa : Int32) (so : Option sv) (tx : Nat → Int32) (tn : Nat) (lf : Nat → Int32) (ln : Nat) : Prop :=
  ∃ (he en iw id0 : Int32) (bf sf kf pf lt : Nat → Int32), w[m]? = some (mO 10 [.int th, .int (nI l.length), .int ea, .int fa, .int (bI so.isSome), .ref (m + 1), .ref (m + 2), .ref (m + 3), .ref (m + 4), .ref (m + 5), .ref (m + 6), .ref (m + 7), .ref (m + 8), .ref (m + 9), .ref (m + 10), .int (nI tn), .int he, .int en, .int (nI ln), .int iw, .int id0]) ∧ w[m + 1]? = some (mI 0 67 (enc y)) ∧ w[m + 2]? = some (mI 0 67 bf) ∧ w[m + 3]? = some (mI 0 67 sf) ∧ w[m + 4]? = some (mI 0 67 kf) ∧ w[m + 5]? = some (mI 0 536 pf) ∧ w[m + 6]? = some (mI 0 60 tx) ∧ w[m + 7]? = some (mI 0 40 lf) ∧ w[m + 8]? = some (mI 0 8 lt) ∧ w[m + 9]? = some (mI 0 41 wdF) ∧ w[m + 10]? = some (mI 0 9 waF) ∧ PastOK pf l ∧ (∀ ys, so = some ys → sf = enc ys)
/-- the world w' is w, but for the reference, which is so -/
def MdTo (w w' : mW) (m : Nat) (th : Int32) (y : sv) (l : List sv) (ea fa : Int32) (so : Option sv) (tx : Nat → Int32) (tn : Nat) (lf : Nat → Int32) (ln : Nat) : Prop := MdAt w' m th y l ea fa so tx tn lf ln ∧ Fr m w w'
def cpTo (fa fb : Nat → Int32) (c j : Nat) : Int32 := if j < c then fb j else fa j
theorem cpTo_upd {fa fb : Nat → Int32} {c : Nat} : upd (cpTo fa fb c) c (fb c) = cpTo fa fb (c + 1) := by
  funext j
  by_cases h : j = c
  · subst h
    rw [pk_us]
    exact (if_pos (Nat.lt_succ_self j)).symm
  · rw [pk_un h]
    unfold cpTo
    by_cases q : j < c
    · rw [if_pos q, if_pos (by omega)]
    · rw [if_neg q, if_neg (by omega)]
set_option maxRecDepth 100000 in
set_option maxHeartbeats 4000000 in
theorem ly_it {X : mC} {d : Nat} {w : mW} {c : Nat} {a b : Nat} {fa fb : Nat → Int32} (hC : Cx X RX9 cX9_lays d 0 0) (hnl : mNL X = 3) (ha : w[a]? = some (mI 0 67 (cpTo fa fb c))) (hb : w[b]? = some (mI 0 67 fb)) (hab : a ≠ b) (hc : c < 67) (kk : ∀ w', w' = w.set a (mI 0 67 (cpTo fa fb (c + 1))) → Wp X 0 0 w' [(0, .ref a), (1, .ref b), (2, .int (nI (c + 1)))] [] 2) : Wp X 0 0 w [(0, .ref a), (1, .ref b), (2, .int (nI c))] [] 2 := by
  refine r_iload_n hC dX9_lays_2 rfl (j := 2) rfl ?_
  refine r_bipush hC dX9_lays_3 (v := 67) (by decide) ?_
  refine r_icmp_ge hC dX9_lays_5 (tgt := 20) (by decide) (fun h => absurd h (lit_ge rfl hc (by decide))) (fun _ => ?_)
  refine r_aload_n hC dX9_lays_8 rfl (j := 0) rfl ?_
  refine r_iload_n hC dX9_lays_9 rfl (j := 2) rfl ?_
  refine r_aload_n hC dX9_lays_10 rfl (j := 1) rfl ?_
  refine r_iload_n hC dX9_lays_11 rfl (j := 2) rfl ?_
  refine r_iald hC dX9_lays_12 (j := c) hb (mIx_nI hc (by decide)) ?_
  refine r_iast' hC dX9_lays_13 (j := c) ha (mIx_nI hc (by decide)) (fun w_1 ew_1 => ?_)
  have hf1_a : w_1[a]? = some (mI 0 67 (upd (cpTo fa fb c) c (fb c))) := by rw [ew_1]; exact List.getElem?_set_self (lt_of_get ha)
  have hf1_b : w_1[b]? = some (mI 0 67 fb) := by rw [ew_1, List.getElem?_set_ne hab]; exact hb
  refine r_iinc hC dX9_lays_14 (j := 2) rfl (v := nI (c + 1)) (nI_succ c).symm (by rw [hnl]; decide) (L' := [(2, .int (nI (c + 1))), (0, .ref a), (1, .ref b)]) rfl ?_
  refine r_goto hC dX9_lays_17 (tgt := 2) (by decide) ?_
  refine r_locals [1, 2, 0] (L' := [(0, .ref a), (1, .ref b), (2, .int (nI (c + 1)))]) rfl ?_
  exact kk _ (by rw [ew_1, cpTo_upd])
set_option maxRecDepth 100000 in
theorem ly_all {X : mC} {d : Nat} {w0 : mW} {a b : Nat} {fa fb : Nat → Int32} (hC : Cx X RX9 cX9_lays d 0 0) (hnl : mNL X = 3) (hl0 : a < w0.length) (hb0 : w0[b]? = some (mI 0 67 fb)) (hab : a ≠ b) (kk : ∀ w', w' = w0.set a (mI 0 67 (cpTo fa fb 67)) → Wp X 0 0 w' [(0, .ref a), (1, .ref b), (2, .int (nI 67))] [] 2) : ∀ (n c : Nat) (w : mW), c + n = 67 → w = w0.set a (mI 0 67 (cpTo fa fb c)) → Wp X 0 0 w [(0, .ref a), (1, .ref b), (2, .int (nI c))] [] 2 := by
  intro n
  induction n with
  | zero =>
    intro c w h9 e9
    obtain rfl : c = 67 := by omega
    exact kk w e9
  | succ n ih =>
    intro c w h9 e9
    refine ly_it hC hnl (by rw [e9]; exact List.getElem?_set_self hl0) (by rw [e9, List.getElem?_set_ne hab]; exact hb0) hab (by omega) (fun w2 e2 => ih (c + 1) w2 (by omega) (by rw [e2, e9, List.set_set]))
set_option maxRecDepth 100000 in
set_option maxHeartbeats 4000000 in
theorem sm_lays {d : Nat} {w : mW} {a b : Nat} {fa fb : Nat → Int32} (ha : w[a]? = some (mI 0 67 fa)) (hb : w[b]? = some (mI 0 67 fb)) (hab : a ≠ b) : Sp d yX9_lays cX9_lays 3 none [.ref a, .ref b] w 0 0 (fun v w' => v = none ∧ w' = w.set a (mI 0 67 fb)) noX := by
  refine Sp.of (by decide +kernel) (Nat.le_of_ble_eq_true rfl) (fun X hC hnl hE hR hN => ?_)
  have hC : Cx X RX9 cX9_lays d 0 0 := hC
  show Wp X 0 0 w [(0, .ref a), (1, .ref b)] [] 0
  refine r_iconst hC dX9_lays_0 (v := 0) (by decide) ?_
  refine r_istore_n hC dX9_lays_1 rfl (by rw [hnl]; decide) (L' := [(2, .int 0), (0, .ref a), (1, .ref b)]) rfl ?_
  refine r_locals [1, 2, 0] (L' := [(0, .ref a), (1, .ref b), (2, .int 0)]) rfl ?_
  refine ly_all (fa := fa) (w0 := w) hC hnl (lt_of_get ha) hb hab (fun w2 e2 => ?_) 67 0 w rfl (set_same (by rw [show cpTo fa fb 0 = fa from rfl]; exact ha)).symm
  refine r_arrEq (t := 0) (a := a) (N := 67) (f := cpTo fa fb 67) (f' := fb) (by rw [e2]; exact List.getElem?_set_self (lt_of_get ha)) (fun j hj => (if_pos hj).symm) ?_
  rw [e2, List.set_set]
  refine r_iload_n hC dX9_lays_2 rfl (j := 2) rfl ?_
  refine r_bipush hC dX9_lays_3 (v := 67) (by decide) ?_
  refine r_icmp_ge hC dX9_lays_5 (tgt := 20) (by decide) (fun _ => ?_) (fun h => absurd (lit_le rfl (Nat.le_refl 67) (by decide)) h)
  refine r_vret hC hE hR dX9_lays_20 (by omega) (by omega) (by rw [List.length_set]) ?_
  exact ⟨rfl, rfl⟩
set_option maxRecDepth 100000 in
set_option maxHeartbeats 4000000 in
theorem sm_begins {d : Nat} {w : mW} {m : Nat} {th ch ea fa sv0 tn he en ln iw id0 : Int32} {F bf : Nat → Int32} (hm : w[m]? = some (mO 10 [.int th, .int ch, .int ea, .int fa, .int sv0, .ref (m + 1), .ref (m + 2), .ref (m + 3), .ref (m + 4), .ref (m + 5), .ref (m + 6), .ref (m + 7), .ref (m + 8), .ref (m + 9), .ref (m + 10), .int tn, .int he, .int en, .int ln, .int iw, .int id0])) (hv : w[m + 1]? = some (mI 0 67 F)) (hbf : w[m + 2]? = some (mI 0 67 bf)) : Sp (d + 1) yX9_begins cX9_begins 1 none [.ref m] w 0 0 (fun v w' => v = none ∧ w' = (w.set m (mO 10 [.int 0, .int ch, .int ea, .int fa, .int sv0, .ref (m + 1), .ref (m + 2), .ref (m + 3), .ref (m + 4), .ref (m + 5), .ref (m + 6), .ref (m + 7), .ref (m + 8), .ref (m + 9), .ref (m + 10), .int tn, .int he, .int en, .int ln, .int iw, .int id0])).set (m + 2) (mI 0 67 F)) noX := by
  refine Sp.of (by decide +kernel) (Nat.le_of_ble_eq_true rfl) (fun X hC hnl hE hR hN => ?_)
  have hC : Cx X RX9 cX9_begins (d + 1) 0 0 := hC
  show Wp X 0 0 w [(0, .ref m)] [] 0
  refine r_aload_n hC dX9_begins_0 rfl (j := 0) rfl ?_
  refine r_iconst hC dX9_begins_1 (v := 0) (by decide) ?_
  refine r_put' hC pX9_begins_2 hm (Nat.le_of_ble_eq_true rfl) (fun _ => rfl) (fun _ => rfl) (fun w_1 ew_1 => ?_)
  replace ew_1 : w_1 = (w).set (m) (mO 10 [.int 0, .int ch, .int ea, .int fa, .int sv0, .ref (m + 1), .ref (m + 2), .ref (m + 3), .ref (m + 4), .ref (m + 5), .ref (m + 6), .ref (m + 7), .ref (m + 8), .ref (m + 9), .ref (m + 10), .int tn, .int he, .int en, .int ln, .int iw, .int id0]) := ew_1
  have hf1_m : w_1[m]? = some (mO 10 [.int 0, .int ch, .int ea, .int fa, .int sv0, .ref (m + 1), .ref (m + 2), .ref (m + 3), .ref (m + 4), .ref (m + 5), .ref (m + 6), .ref (m + 7), .ref (m + 8), .ref (m + 9), .ref (m + 10), .int tn, .int he, .int en, .int ln, .int iw, .int id0]) := by rw [ew_1]; exact List.getElem?_set_self (lt_of_get hm)
  have hf1__m___1_ : w_1[(m + 1)]? = some (mI 0 67 F) := by rw [ew_1, List.getElem?_set_ne (by omega)]; exact hv
  have hf1__m___2_ : w_1[(m + 2)]? = some (mI 0 67 bf) := by rw [ew_1, List.getElem?_set_ne (by omega)]; exact hbf
  refine r_aload_n hC dX9_begins_5 rfl (j := 0) rfl ?_
  refine r_get hC gX9_begins_6 hf1_m (v := .ref (m + 2)) rfl ?_
  refine r_aload_n hC dX9_begins_9 rfl (j := 0) rfl ?_
  refine r_get hC gX9_begins_10 hf1_m (v := .ref (m + 1)) rfl ?_
  refine r_callS hC (vs := [.ref (m + 2), .ref (m + 1)]) vX9_begins_13 (sm_lays (d := d) hf1__m___2_ hf1__m___1_ (by omega)) rfl (by omega) (by omega) (by omega) (Nat.le_of_ble_eq_true rfl) (fun v_2 w_2 hP_2 hlen_2 => ?_) (fun _ _ h => h.elim)
  obtain ⟨hv_2, ew_2⟩ := hP_2
  rw [hv_2]
  have hf2_m : w_2[m]? = some (mO 10 [.int 0, .int ch, .int ea, .int fa, .int sv0, .ref (m + 1), .ref (m + 2), .ref (m + 3), .ref (m + 4), .ref (m + 5), .ref (m + 6), .ref (m + 7), .ref (m + 8), .ref (m + 9), .ref (m + 10), .int tn, .int he, .int en, .int ln, .int iw, .int id0]) := by rw [ew_2, List.getElem?_set_ne (by omega)]; exact hf1_m
  have hf2__m___1_ : w_2[(m + 1)]? = some (mI 0 67 F) := by rw [ew_2, List.getElem?_set_ne (by omega)]; exact hf1__m___1_
  have hf2__m___2_ : w_2[(m + 2)]? = some (mI 0 67 F) := by rw [ew_2]; exact List.getElem?_set_self (lt_of_get hf1__m___2_)
  show Wp X 0 0 w_2 [(0, .ref m)] [] 16
  refine r_vret hC hE hR dX9_begins_16 (by omega) (by omega) (by simp only [ew_2, ew_1, List.length_set]) ?_
  exact ⟨rfl, by rw [ew_2, ew_1]⟩
set_option maxRecDepth 100000 in
set_option maxHeartbeats 4000000 in
theorem sm_endsF {d : Nat} {is : Int32} {w : mW} {m : Nat} {th ch ea fa sv0 tn he en ln iw id0 : Int32} {F bf : Nat → Int32} (hm : w[m]? = some (mO 10 [.int th, .int ch, .int ea, .int fa, .int sv0, .ref (m + 1), .ref (m + 2), .ref (m + 3), .ref (m + 4), .ref (m + 5), .ref (m + 6), .ref (m + 7), .ref (m + 8), .ref (m + 9), .ref (m + 10), .int tn, .int he, .int en, .int ln, .int iw, .int id0])) (hv : w[m + 1]? = some (mI 0 67 F)) (hbf : w[m + 2]? = some (mI 0 67 bf)) (hth : ¬ th = 0) : Sp (d + 1) yX9_ends cX9_ends 3 (some .int) [.ref m, .int is] w 0 0 (fun v w' => v = some (.int 0) ∧ w' = w.set (m + 1) (mI 0 67 bf)) noX := by
  refine Sp.of (by decide +kernel) (Nat.le_of_ble_eq_true rfl) (fun X hC hnl hE hR hN => ?_)
  have hC : Cx X RX9 cX9_ends (d + 1) 0 0 := hC
  show Wp X 0 0 w [(0, .ref m), (1, .int is)] [] 0
  refine r_aload_n hC dX9_ends_0 rfl (j := 0) rfl ?_
  refine r_get hC gX9_ends_1 hm (v := .int th) rfl ?_
  refine r_if_eq hC dX9_ends_4 (tgt := 20) (by decide) (fun h => absurd h hth) (fun _ => ?_)
  refine r_aload_n hC dX9_ends_7 rfl (j := 0) rfl ?_
  refine r_get hC gX9_ends_8 hm (v := .ref (m + 1)) rfl ?_
  refine r_aload_n hC dX9_ends_11 rfl (j := 0) rfl ?_
  refine r_get hC gX9_ends_12 hm (v := .ref (m + 2)) rfl ?_
  refine r_callS hC (vs := [.ref (m + 1), .ref (m + 2)]) vX9_ends_15 (sm_lays (d := d) hv hbf (by omega)) rfl (by omega) (by omega) (by omega) (Nat.le_of_ble_eq_true rfl) (fun v_1 w_1 hP_1 hlen_1 => ?_) (fun _ _ h => h.elim)
  obtain ⟨hv_1, ew_1⟩ := hP_1
  rw [hv_1]
  have hf1_m : w_1[m]? = some (mO 10 [.int th, .int ch, .int ea, .int fa, .int sv0, .ref (m + 1), .ref (m + 2), .ref (m + 3), .ref (m + 4), .ref (m + 5), .ref (m + 6), .ref (m + 7), .ref (m + 8), .ref (m + 9), .ref (m + 10), .int tn, .int he, .int en, .int ln, .int iw, .int id0]) := by rw [ew_1, List.getElem?_set_ne (by omega)]; exact hm
  have hf1__m___1_ : w_1[(m + 1)]? = some (mI 0 67 bf) := by rw [ew_1]; exact List.getElem?_set_self (lt_of_get hv)
  have hf1__m___2_ : w_1[(m + 2)]? = some (mI 0 67 bf) := by rw [ew_1, List.getElem?_set_ne (by omega)]; exact hbf
  show Wp X 0 0 w_1 [(0, .ref m), (1, .int is)] [] 18
  refine r_iconst hC dX9_ends_18 (v := 0) (by decide) ?_
  refine r_iret hC hE hR dX9_ends_19 (by omega) (by omega) (by simp only [ew_1, List.length_set]) ?_
  exact ⟨rfl, by rw [ew_1]⟩
end MD6
