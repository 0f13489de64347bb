section ST
theorem gZ_f0 : ("HillContest$Fault", "NO_FAULT", "LHillContest$Fault;", Value.ref 1000010) ∈ gZs := List.mem_of_getElem? (i := 5) rfl
theorem gZ_f1 : ("HillContest$Fault", "INDEX", "LHillContest$Fault;", Value.ref 1000011) ∈ gZs := List.mem_of_getElem? (i := 6) rfl
theorem gZ_f2 : ("HillContest$Fault", "ARGUMENT", "LHillContest$Fault;", Value.ref 1000012) ∈ gZs := List.mem_of_getElem? (i := 7) rfl
theorem gZ_f3 : ("HillContest$Fault", "STATE", "LHillContest$Fault;", Value.ref 1000013) ∈ gZs := List.mem_of_getElem? (i := 8) rfl
theorem gZ_f4 : ("HillContest$Fault", "ELEMENT", "LHillContest$Fault;", Value.ref 1000014) ∈ gZs := List.mem_of_getElem? (i := 9) rfl
theorem gZ_f5 : ("HillContest$Fault", "OPERATION", "LHillContest$Fault;", Value.ref 1000015) ∈ gZs := List.mem_of_getElem? (i := 10) rfl
abbrev zv : Type := Int32 × Int32 × Int32 × Int32 × Int32
/-- a state's things: the hill, hands, rests, how many players, (topples, avalanches, largest, placed, taken) -/
abbrev sv : Type := hv × (Nat → Int32) × (Nat → Int32) × Nat × zv
def StAt (w : mW) (s : Nat) (y : sv) : Prop := w[s]? = some (mO 7 [.ref (s + 1), .ref (s + 4), .ref (s + 5), .int (nI y.2.2.2.1), .int y.2.2.2.2.1, .int y.2.2.2.2.2.1, .int y.2.2.2.2.2.2.1, .int y.2.2.2.2.2.2.2.1, .int y.2.2.2.2.2.2.2.2]) ∧ HillAt w (s + 1) (s + 2) (s + 3) y.1 ∧ w[s + 4]? = some (mI 0 4 y.2.1) ∧ w[s + 5]? = some (mI 0 4 y.2.2.1)
/-- the world w' is w, but for the state at s, which is y -/
def StTo (w : mW) (s : Nat) (y : sv) (w' : mW) : Prop := StAt w' s y ∧ ∀ k, (k < s ∨ s + 5 < k) → w'[k]? = w[k]?
theorem StTo.rfl {w : mW} {s : Nat} {y : sv} (h : StAt w s y) : StTo w s y w := ⟨h, fun _ _ => Eq.refl _⟩
theorem StTo.trans {w w' w2 : mW} {s : Nat} {y z : sv} (h1 : StTo w s y w') (h2 : StTo w' s z w2) : StTo w s z w2 := ⟨h2.1, fun k hk => (h2.2 k hk).trans (h1.2 k hk)⟩
theorem StAt.other {w w' : mW} {s t : Nat} {y z : sv} (h : StAt w t z) (h2 : StTo w s y w') (hst : t + 5 < s ∨ s + 5 < t) : StAt w' t z := by
  obtain ⟨a1, ⟨a2, a3, a4⟩, a5, a6⟩ := h
  refine ⟨?_, ⟨?_, ?_, ?_⟩, ?_, ?_⟩
  · rw [h2.2 _ (by omega)]; exact a1
  · rw [h2.2 _ (by omega)]; exact a2
  · rw [h2.2 _ (by omega)]; exact a3
  · rw [h2.2 _ (by omega)]; exact a4
  · rw [h2.2 _ (by omega)]; exact a5
  · rw [h2.2 _ (by omega)]; exact a6
def isC (x : Int32) : Bool := !decide (x < 0) && !decide (25 ≤ x)
def isS (x : Int32) : Bool := !decide (x < 1) && !decide (9 < x)
def isP (x : Int32) (np : Nat) : Bool := !decide (x < 0) && !decide (nI np ≤ x)
theorem mIx_lim {x : Int32} {n : Nat} (h0 : ¬ x < 0) (h1 : ¬ nI n ≤ x) (hn : n < 2 ^ 31) : x.toNatClampNeg < n ∧ x = nI x.toNatClampNeg := by
  obtain ⟨j, hj, rfl⟩ := nI_of h0
  rw [nI_clamp hj]
  refine ⟨?_, rfl⟩
  rcases Nat.lt_or_ge j n with q | q
  · exact q
  · exact absurd (nI_le q hj) h1
theorem isC_lt {x : Int32} (h : isC x = true) : x.toNatClampNeg < 25 ∧ x = nI x.toNatClampNeg := by
  simp only [isC, Bool.and_eq_true, Bool.not_eq_true', decide_eq_false_iff_not] at h
  exact mIx_lim h.1 (by intro q; exact h.2 q) (by decide)
theorem isC_ix {x : Int32} {N : Nat} (h : isC x = true) (hN : 25 ≤ N) (hN2 : N < 2 ^ 31) : mIx x x.toNatClampNeg N := by
  have h1 := isC_lt h
  refine ⟨?_, rfl, by omega⟩
  rw [h1.2]
  exact nI_pos (by omega)
theorem isP_lt {x : Int32} {np : Nat} (h : isP x np = true) (hn : np ≤ 4) : x.toNatClampNeg < np ∧ x = nI x.toNatClampNeg := by
  simp only [isP, Bool.and_eq_true, Bool.not_eq_true', decide_eq_false_iff_not] at h
  exact mIx_lim h.1 h.2 (by omega)
theorem isP_ix {x : Int32} {np : Nat} (h : isP x np = true) (hn : np ≤ 4) : mIx x x.toNatClampNeg 4 := by
  have h1 := isP_lt h hn
  refine ⟨?_, rfl, by omega⟩
  rw [h1.2]
  exact nI_pos (by omega)
theorem bI_ne {b : Bool} : ¬ bI b = 0 ↔ b = true := by cases b <;> decide
set_option maxRecDepth 100000 in
set_option maxHeartbeats 4000000 in
theorem sp_isCell {d : Nat} {w : mW} {x : Int32}  : Sp d yX8_isCell cX8_isCell 1 (some .boolean) [.int x] w 0 0 (fun v w' => v = some (.int (bI (isC x))) ∧ w' = w) noX := by
  refine Sp.of (by decide +kernel) (Nat.le_of_ble_eq_true rfl) (fun X hC hnl hE hR hN => ?_)
  have hC : Cx X RX8 cX8_isCell d 0 0 := hC
  show Wp X 0 0 w [(0, .int x)] [] 0
  refine r_iload_n hC dX8_isCell_0 rfl (j := 0) rfl ?_
  refine r_if_lt hC dX8_isCell_1 (tgt := 14) (by decide) (fun c1 => ?_) (fun c1 => ?_)
  · refine r_iconst hC dX8_isCell_14 (v := 0) (by decide) ?_
    refine r_nret hC hE hR dX8_isCell_15 (by decide) (by omega) (by omega) (rfl) ?_
    exact ⟨by simp [isC, bI, c1], rfl⟩
  · refine r_iload_n hC dX8_isCell_4 rfl (j := 0) rfl ?_
    refine r_bipush hC dX8_isCell_5 (v := 25) (by decide) ?_
    refine r_icmp_ge hC dX8_isCell_7 (tgt := 14) (by decide) (fun c7 => ?_) (fun c7 => ?_)
    · refine r_iconst hC dX8_isCell_14 (v := 0) (by decide) ?_
      refine r_nret hC hE hR dX8_isCell_15 (by decide) (by omega) (by omega) (rfl) ?_
      exact ⟨by simp [isC, bI, c1, c7], rfl⟩
    · refine r_iconst hC dX8_isCell_10 (v := 1) (by decide) ?_
      refine r_goto hC dX8_isCell_11 (tgt := 15) (by decide) ?_
      refine r_nret hC hE hR dX8_isCell_15 (by decide) (by omega) (by omega) (rfl) ?_
      exact ⟨by simp [isC, bI, c1, c7], rfl⟩
set_option maxRecDepth 100000 in
set_option maxHeartbeats 4000000 in
theorem sp_isPlaceable {d : Nat} {w : mW} {x : Int32}  : Sp d yX8_isPlaceable cX8_isPlaceable 1 (some .boolean) [.int x] w 0 0 (fun v w' => v = some (.int (bI (isS x))) ∧ w' = w) noX := by
  refine Sp.of (by decide +kernel) (Nat.le_of_ble_eq_true rfl) (fun X hC hnl hE hR hN => ?_)
  have hC : Cx X RX8 cX8_isPlaceable d 0 0 := hC
  show Wp X 0 0 w [(0, .int x)] [] 0
  refine r_iload_n hC dX8_isPlaceable_0 rfl (j := 0) rfl ?_
  refine r_iconst hC dX8_isPlaceable_1 (v := 1) (by decide) ?_
  refine r_icmp_lt hC dX8_isPlaceable_2 (tgt := 15) (by decide) (fun c2 => ?_) (fun c2 => ?_)
  · refine r_iconst hC dX8_isPlaceable_15 (v := 0) (by decide) ?_
    refine r_nret hC hE hR dX8_isPlaceable_16 (by decide) (by omega) (by omega) (rfl) ?_
    exact ⟨by simp [isS, bI, c2], rfl⟩
  · refine r_iload_n hC dX8_isPlaceable_5 rfl (j := 0) rfl ?_
    refine r_bipush hC dX8_isPlaceable_6 (v := 9) (by decide) ?_
    refine r_icmp_gt hC dX8_isPlaceable_8 (tgt := 15) (by decide) (fun c8 => ?_) (fun c8 => ?_)
    · refine r_iconst hC dX8_isPlaceable_15 (v := 0) (by decide) ?_
      refine r_nret hC hE hR dX8_isPlaceable_16 (by decide) (by omega) (by omega) (rfl) ?_
      exact ⟨by simp [isS, bI, c2, c8], rfl⟩
    · refine r_iconst hC dX8_isPlaceable_11 (v := 1) (by decide) ?_
      refine r_goto hC dX8_isPlaceable_12 (tgt := 16) (by decide) ?_
      refine r_nret hC hE hR dX8_isPlaceable_16 (by decide) (by omega) (by omega) (rfl) ?_
      exact ⟨by simp [isS, bI, c2, c8], rfl⟩
set_option maxRecDepth 100000 in
set_option maxHeartbeats 4000000 in
theorem sp_hasPlayer {d : Nat} {x : Int32} {w : mW} {s : Nat} {f g : Nat → Int32} {sl op lo : Int32} {hd rs : Nat → Int32} {np : Nat} {tp av lg pl tk : Int32} (H0 : StAt w s ((f, g, sl, op, lo), hd, rs, np, tp, av, lg, pl, tk)) : Sp d yX6_hasPlayer cX6_hasPlayer 2 (some .boolean) [.ref s, .int x] w 0 0 (fun v w' => v = some (.int (bI (isP x np))) ∧ w' = w) noX := by
  refine Sp.of (by decide +kernel) (Nat.le_of_ble_eq_true rfl) (fun X hC hnl hE hR hN => ?_)
  have hC : Cx X RX6 cX6_hasPlayer d 0 0 := hC
  show Wp X 0 0 w [(0, .ref s), (1, .int x)] [] 0
  have hs : w[s]? = some (mO 7 [.ref (s + 1), .ref (s + 4), .ref (s + 5), .int (nI np), .int tp, .int av, .int lg, .int pl, .int tk]) := H0.1
  have H : HillAt w (s + 1) (s + 2) (s + 3) (f, g, sl, op, lo) := H0.2.1
  have hh : w[s + 1]? = some (mO 6 [.ref (s + 2), .ref (s + 3), .int sl, .int op, .int lo]) := H.1
  have ha : w[s + 2]? = some (mI 0 26 f) := H.2.1
  have hb : w[s + 3]? = some (mI 0 25 g) := H.2.2
  have hhd : w[s + 4]? = some (mI 0 4 hd) := H0.2.2.1
  have hrs : w[s + 5]? = some (mI 0 4 rs) := H0.2.2.2
  refine r_iload_n hC dX6_hasPlayer_0 rfl (j := 1) rfl ?_
  refine r_if_lt hC dX6_hasPlayer_1 (tgt := 16) (by decide) (fun c1 => ?_) (fun c1 => ?_)
  · refine r_iconst hC dX6_hasPlayer_16 (v := 0) (by decide) ?_
    refine r_nret hC hE hR dX6_hasPlayer_17 (by decide) (by omega) (by omega) (rfl) ?_
    exact ⟨by simp [isP, bI, c1], rfl⟩
  · refine r_iload_n hC dX6_hasPlayer_4 rfl (j := 1) rfl ?_
    refine r_aload_n hC dX6_hasPlayer_5 rfl (j := 0) rfl ?_
    refine r_get hC gX6_hasPlayer_6 hs (v := .int (nI np)) rfl ?_
    refine r_icmp_ge hC dX6_hasPlayer_9 (tgt := 16) (by decide) (fun c9 => ?_) (fun c9 => ?_)
    · refine r_iconst hC dX6_hasPlayer_16 (v := 0) (by decide) ?_
      refine r_nret hC hE hR dX6_hasPlayer_17 (by decide) (by omega) (by omega) (rfl) ?_
      exact ⟨by simp [isP, bI, c1, c9], rfl⟩
    · refine r_iconst hC dX6_hasPlayer_12 (v := 1) (by decide) ?_
      refine r_goto hC dX6_hasPlayer_13 (tgt := 17) (by decide) ?_
      refine r_nret hC hE hR dX6_hasPlayer_17 (by decide) (by omega) (by omega) (rfl) ?_
      exact ⟨by simp [isP, bI, c1, c9], rfl⟩
def fltEntry (np : Nat) (x : Int32) : Nat := if x < 1 ∨ ¬ x ≤ 60 then 1000012 else if nI np < 4 then 1000010 else 1000013
def fltPile (f : Nat → Int32) (c x : Int32) : Nat := if isC c = false then 1000011 else if isS x = false then 1000012 else if hSum f 25 + x ≤ 300 then 1000010 else 1000013
def fltDrop (f : Nat → Int32) (hd rs : Nat → Int32) (np : Nat) (q c x : Int32) : Nat := if isP q np = false then 1000011 else if ¬ fltPile f c x = 1000010 then fltPile f c x else if ¬ rs q.toNatClampNeg ≤ 0 then 1000013 else if x ≤ hd q.toNatClampNeg then 1000010 else 1000015
def fltTake (f g : Nat → Int32) (np : Nat) (q c : Int32) : Nat := if isP q np = false ∨ isC c = false then 1000011 else if f c.toNatClampNeg = 0 then 1000014 else if g c.toNatClampNeg = q then 1000010 else 1000015
def fltSlope (x : Int32) : Nat := if x < 2 ∨ 6 < x then 1000012 else 1000010
theorem flt_in {i : Nat} (h : i < 6) : 1000010 + i ∈ gIs := by
  have : ∀ i, i < 6 → 1000010 + i ∈ gIs := by decide
  exact this i h
theorem fltPile_in (f : Nat → Int32) (c x : Int32) : fltPile f c x ∈ gIs := by
  unfold fltPile
  split
  · exact flt_in (i := 1) (by decide)
  · split
    · exact flt_in (i := 2) (by decide)
    · split
      · exact flt_in (i := 0) (by decide)
      · exact flt_in (i := 3) (by decide)
set_option maxRecDepth 100000 in
set_option maxHeartbeats 4000000 in
theorem sp_fltEntry {d : Nat} {x : Int32} {w : mW} {s : Nat} {f g : Nat → Int32} {sl op lo : Int32} {hd rs : Nat → Int32} {np : Nat} {tp av lg pl tk : Int32} (H0 : StAt w s ((f, g, sl, op, lo), hd, rs, np, tp, av, lg, pl, tk)) : Sp d yX6_faultOfEntry cX6_faultOfEntry 2 (some (.object "HillContest$Fault")) [.ref s, .int x] w 0 0 (fun v w' => v = some (.ref (fltEntry np x)) ∧ w' = w) noX := by
  refine Sp.of (by decide +kernel) (Nat.le_of_ble_eq_true rfl) (fun X hC hnl hE hR hN => ?_)
  have hC : Cx X RX6 cX6_faultOfEntry d 0 0 := hC
  show Wp X 0 0 w [(0, .ref s), (1, .int x)] [] 0
  have hs : w[s]? = some (mO 7 [.ref (s + 1), .ref (s + 4), .ref (s + 5), .int (nI np), .int tp, .int av, .int lg, .int pl, .int tk]) := H0.1
  have H : HillAt w (s + 1) (s + 2) (s + 3) (f, g, sl, op, lo) := H0.2.1
  have hh : w[s + 1]? = some (mO 6 [.ref (s + 2), .ref (s + 3), .int sl, .int op, .int lo]) := H.1
  have ha : w[s + 2]? = some (mI 0 26 f) := H.2.1
  have hb : w[s + 3]? = some (mI 0 25 g) := H.2.2
  have hhd : w[s + 4]? = some (mI 0 4 hd) := H0.2.2.1
  have hrs : w[s + 5]? = some (mI 0 4 rs) := H0.2.2.2
  refine r_iload_n hC dX6_faultOfEntry_0 rfl (j := 1) rfl ?_
  refine r_iconst hC dX6_faultOfEntry_1 (v := 1) (by decide) ?_
  refine r_icmp_lt hC dX6_faultOfEntry_2 (tgt := 11) (by decide) (fun c2 => ?_) (fun c2 => ?_)
  · refine r_gets hC sX6_faultOfEntry_11 (v := .ref 1000012) gZ_f2 ?_
    refine r_aret hC hE hR dX6_faultOfEntry_14 (by omega) (by omega) (rfl) ?_
    exact ⟨by simp [fltEntry, c2], rfl⟩
  · refine r_iload_n hC dX6_faultOfEntry_5 rfl (j := 1) rfl ?_
    refine r_bipush hC dX6_faultOfEntry_6 (v := 60) (by decide) ?_
    refine r_icmp_le hC dX6_faultOfEntry_8 (tgt := 15) (by decide) (fun c8 => ?_) (fun c8 => ?_)
    · refine r_aload_n hC dX6_faultOfEntry_15 rfl (j := 0) rfl ?_
      refine r_get hC gX6_faultOfEntry_16 hs (v := .int (nI np)) rfl ?_
      refine r_iconst hC dX6_faultOfEntry_19 (v := 4) (by decide) ?_
      refine r_icmp_lt hC dX6_faultOfEntry_20 (tgt := 29) (by decide) (fun c20 => ?_) (fun c20 => ?_)
      · refine r_gets hC sX6_faultOfEntry_29 (v := .ref 1000010) gZ_f0 ?_
        refine r_aret hC hE hR dX6_faultOfEntry_32 (by omega) (by omega) (rfl) ?_
        exact ⟨by simp [fltEntry, c2, c8, c20], rfl⟩
      · refine r_gets hC sX6_faultOfEntry_23 (v := .ref 1000013) gZ_f3 ?_
        refine r_goto hC dX6_faultOfEntry_26 (tgt := 32) (by decide) ?_
        refine r_aret hC hE hR dX6_faultOfEntry_32 (by omega) (by omega) (rfl) ?_
        exact ⟨by simp [fltEntry, c2, c8, c20], rfl⟩
    · refine r_gets hC sX6_faultOfEntry_11 (v := .ref 1000012) gZ_f2 ?_
      refine r_aret hC hE hR dX6_faultOfEntry_14 (by omega) (by omega) (rfl) ?_
      exact ⟨by simp [fltEntry, c2, c8], rfl⟩
set_option maxRecDepth 100000 in
set_option maxHeartbeats 4000000 in
theorem sp_fltSlope {d : Nat} {x : Int32} {w : mW} {s : Nat} {f g : Nat → Int32} {sl op lo : Int32} {hd rs : Nat → Int32} {np : Nat} {tp av lg pl tk : Int32} (H0 : StAt w s ((f, g, sl, op, lo), hd, rs, np, tp, av, lg, pl, tk)) : Sp d yX6_faultOfSlope cX6_faultOfSlope 3 (some (.object "HillContest$Fault")) [.ref s, .int x] w 0 0 (fun v w' => v = some (.ref (fltSlope x)) ∧ w' = w) noX := by
  refine Sp.of (by decide +kernel) (Nat.le_of_ble_eq_true rfl) (fun X hC hnl hE hR hN => ?_)
  have hC : Cx X RX6 cX6_faultOfSlope d 0 0 := hC
  show Wp X 0 0 w [(0, .ref s), (1, .int x)] [] 0
  have hs : w[s]? = some (mO 7 [.ref (s + 1), .ref (s + 4), .ref (s + 5), .int (nI np), .int tp, .int av, .int lg, .int pl, .int tk]) := H0.1
  have H : HillAt w (s + 1) (s + 2) (s + 3) (f, g, sl, op, lo) := H0.2.1
  have hh : w[s + 1]? = some (mO 6 [.ref (s + 2), .ref (s + 3), .int sl, .int op, .int lo]) := H.1
  have ha : w[s + 2]? = some (mI 0 26 f) := H.2.1
  have hb : w[s + 3]? = some (mI 0 25 g) := H.2.2
  have hhd : w[s + 4]? = some (mI 0 4 hd) := H0.2.2.1
  have hrs : w[s + 5]? = some (mI 0 4 rs) := H0.2.2.2
  refine r_iload_n hC dX6_faultOfSlope_0 rfl (j := 1) rfl ?_
  refine r_iconst hC dX6_faultOfSlope_1 (v := 2) (by decide) ?_
  refine r_icmp_lt hC dX6_faultOfSlope_2 (tgt := 15) (by decide) (fun c2 => ?_) (fun c2 => ?_)
  · refine r_iconst hC dX6_faultOfSlope_15 (v := 0) (by decide) ?_
    refine r_istore_n hC dX6_faultOfSlope_16 rfl (by rw [hnl]; decide) (L' := [(2, .int 0), (0, .ref s), (1, .int x)]) rfl ?_
    refine r_iload_n hC dX6_faultOfSlope_17 rfl (j := 0) rfl ?_
    refine r_if_eq hC dX6_faultOfSlope_18 (tgt := 27) (by decide) (fun _ => ?_) (fun h => absurd (by decide) h)
    refine r_gets hC sX6_faultOfSlope_27 (v := .ref 1000012) gZ_f2 ?_
    refine r_aret hC hE hR dX6_faultOfSlope_30 (by omega) (by omega) (rfl) ?_
    exact ⟨by simp [fltSlope, c2], rfl⟩
  · refine r_iload_n hC dX6_faultOfSlope_5 rfl (j := 1) rfl ?_
    refine r_bipush hC dX6_faultOfSlope_6 (v := 6) (by decide) ?_
    refine r_icmp_gt hC dX6_faultOfSlope_8 (tgt := 15) (by decide) (fun c8 => ?_) (fun c8 => ?_)
    · refine r_iconst hC dX6_faultOfSlope_15 (v := 0) (by decide) ?_
      refine r_istore_n hC dX6_faultOfSlope_16 rfl (by rw [hnl]; decide) (L' := [(2, .int 0), (0, .ref s), (1, .int x)]) rfl ?_
      refine r_iload_n hC dX6_faultOfSlope_17 rfl (j := 0) rfl ?_
      refine r_if_eq hC dX6_faultOfSlope_18 (tgt := 27) (by decide) (fun _ => ?_) (fun h => absurd (by decide) h)
      refine r_gets hC sX6_faultOfSlope_27 (v := .ref 1000012) gZ_f2 ?_
      refine r_aret hC hE hR dX6_faultOfSlope_30 (by omega) (by omega) (rfl) ?_
      exact ⟨by simp [fltSlope, c2, c8], rfl⟩
    · refine r_iconst hC dX6_faultOfSlope_11 (v := 1) (by decide) ?_
      refine r_goto hC dX6_faultOfSlope_12 (tgt := 16) (by decide) ?_
      refine r_istore_n hC dX6_faultOfSlope_16 rfl (by rw [hnl]; decide) (L' := [(2, .int 1), (0, .ref s), (1, .int x)]) rfl ?_
      refine r_iload_n hC dX6_faultOfSlope_17 rfl (j := 0) rfl ?_
      refine r_if_eq hC dX6_faultOfSlope_18 (tgt := 27) (by decide) (fun h => absurd h (by decide)) (fun _ => ?_)
      refine r_gets hC sX6_faultOfSlope_21 (v := .ref 1000010) gZ_f0 ?_
      refine r_goto hC dX6_faultOfSlope_24 (tgt := 30) (by decide) ?_
      refine r_aret hC hE hR dX6_faultOfSlope_30 (by omega) (by omega) (rfl) ?_
      exact ⟨by simp [fltSlope, c2, c8], rfl⟩
set_option maxRecDepth 100000 in
set_option maxHeartbeats 4000000 in
theorem sp_fltPile {d : Nat} {c x : Int32} {w : mW} {s : Nat} {f g : Nat → Int32} {sl op lo : Int32} {hd rs : Nat → Int32} {np : Nat} {tp av lg pl tk : Int32} (H0 : StAt w s ((f, g, sl, op, lo), hd, rs, np, tp, av, lg, pl, tk)) : Sp (d + 1) yX6_faultOfPile cX6_faultOfPile 4 (some (.object "HillContest$Fault")) [.ref s, .int c, .int x] w 0 0 (fun v w' => v = some (.ref (fltPile f c x)) ∧ w' = w) noX := by
  refine Sp.of (by decide +kernel) (Nat.le_of_ble_eq_true rfl) (fun X hC hnl hE hR hN => ?_)
  have hC : Cx X RX6 cX6_faultOfPile (d + 1) 0 0 := hC
  show Wp X 0 0 w [(0, .ref s), (1, .int c), (2, .int x)] [] 0
  have hs : w[s]? = some (mO 7 [.ref (s + 1), .ref (s + 4), .ref (s + 5), .int (nI np), .int tp, .int av, .int lg, .int pl, .int tk]) := H0.1
  have H : HillAt w (s + 1) (s + 2) (s + 3) (f, g, sl, op, lo) := H0.2.1
  have hh : w[s + 1]? = some (mO 6 [.ref (s + 2), .ref (s + 3), .int sl, .int op, .int lo]) := H.1
  have ha : w[s + 2]? = some (mI 0 26 f) := H.2.1
  have hb : w[s + 3]? = some (mI 0 25 g) := H.2.2
  have hhd : w[s + 4]? = some (mI 0 4 hd) := H0.2.2.1
  have hrs : w[s + 5]? = some (mI 0 4 rs) := H0.2.2.2
  refine r_iload_n hC dX6_faultOfPile_0 rfl (j := 1) rfl ?_
  refine r_callSN hC (vs := [.int c]) vX6_faultOfPile_1 (sp_isCell (d := d)) rfl (by omega) (by omega) (by omega) (Nat.le_of_ble_eq_true rfl) (fun v_1 w_1 hP_1 hlen_1 => ?_)
  rw [hP_1.1, hP_1.2]
  show Wp X 0 0 w [(0, .ref s), (1, .int c), (2, .int x)] [.int (bI (isC c))] 4
  refine r_if_ne hC dX6_faultOfPile_4 (tgt := 11) (by decide) (fun c4 => ?_) (fun c4 => ?_)
  · refine r_iload_n hC dX6_faultOfPile_11 rfl (j := 2) rfl ?_
    refine r_callSN hC (vs := [.int x]) vX6_faultOfPile_12 (sp_isPlaceable (d := d)) rfl (by omega) (by omega) (by omega) (Nat.le_of_ble_eq_true rfl) (fun v_2 w_2 hP_2 hlen_2 => ?_)
    rw [hP_2.1, hP_2.2]
    show Wp X 0 0 w [(0, .ref s), (1, .int c), (2, .int x)] [.int (bI (isS x))] 15
    refine r_if_ne hC dX6_faultOfPile_15 (tgt := 22) (by decide) (fun c15 => ?_) (fun c15 => ?_)
    · refine r_aload_n hC dX6_faultOfPile_22 rfl (j := 0) rfl ?_
      refine r_get hC gX6_faultOfPile_23 hs (v := .ref (s + 1)) rfl ?_
      refine r_callV hC (vs := []) vX6_faultOfPile_26 (sp_cells (d := d) H) hh rfl rfl (by omega) (by omega) (by omega) (Nat.le_of_ble_eq_true rfl) (fun v_3 w_3 hP_3 hlen_3 => ?_) (fun _ _ h => h.elim)
      rw [hP_3.1, hP_3.2]
      show Wp X 0 0 w [(0, .ref s), (1, .int c), (2, .int x)] [.int (hSum f 25)] 29
      refine r_iload_n hC dX6_faultOfPile_29 rfl (j := 2) rfl ?_
      refine r_iadd hC dX6_faultOfPile_30 ?_
      refine r_sipush hC dX6_faultOfPile_31 (v := 300) (by decide) ?_
      refine r_icmp_le hC dX6_faultOfPile_34 (tgt := 41) (by decide) (fun c34 => ?_) (fun c34 => ?_)
      · refine r_iconst hC dX6_faultOfPile_41 (v := 0) (by decide) ?_
        refine r_istore_n hC dX6_faultOfPile_42 rfl (by rw [hnl]; decide) (L' := [(3, .int 0), (0, .ref s), (1, .int c), (2, .int x)]) rfl ?_
        refine r_iload_n hC dX6_faultOfPile_43 rfl (j := 0) rfl ?_
        refine r_if_eq hC dX6_faultOfPile_44 (tgt := 53) (by decide) (fun _ => ?_) (fun h => absurd (by decide) h)
        refine r_gets hC sX6_faultOfPile_53 (v := .ref 1000010) gZ_f0 ?_
        refine r_aret hC hE hR dX6_faultOfPile_56 (by omega) (by omega) (rfl) ?_
        have bc4 : isC c = true := bI_ne.mp c4
        have bc15 : isS x = true := bI_ne.mp c15
        exact ⟨by simp [fltPile, bc4, bc15, c34], rfl⟩
      · refine r_iconst hC dX6_faultOfPile_37 (v := 1) (by decide) ?_
        refine r_goto hC dX6_faultOfPile_38 (tgt := 42) (by decide) ?_
        refine r_istore_n hC dX6_faultOfPile_42 rfl (by rw [hnl]; decide) (L' := [(3, .int 1), (0, .ref s), (1, .int c), (2, .int x)]) rfl ?_
        refine r_iload_n hC dX6_faultOfPile_43 rfl (j := 0) rfl ?_
        refine r_if_eq hC dX6_faultOfPile_44 (tgt := 53) (by decide) (fun h => absurd h (by decide)) (fun _ => ?_)
        refine r_gets hC sX6_faultOfPile_47 (v := .ref 1000013) gZ_f3 ?_
        refine r_goto hC dX6_faultOfPile_50 (tgt := 56) (by decide) ?_
        refine r_aret hC hE hR dX6_faultOfPile_56 (by omega) (by omega) (rfl) ?_
        have bc4 : isC c = true := bI_ne.mp c4
        have bc15 : isS x = true := bI_ne.mp c15
        exact ⟨by simp [fltPile, bc4, bc15, c34], rfl⟩
    · refine r_gets hC sX6_faultOfPile_18 (v := .ref 1000012) gZ_f2 ?_
      refine r_aret hC hE hR dX6_faultOfPile_21 (by omega) (by omega) (rfl) ?_
      have bc4 : isC c = true := bI_ne.mp c4
      have bc15 : isS x = false := bI_0.mp c15
      exact ⟨by simp [fltPile, bc4, bc15], rfl⟩
  · refine r_gets hC sX6_faultOfPile_7 (v := .ref 1000011) gZ_f1 ?_
    refine r_aret hC hE hR dX6_faultOfPile_10 (by omega) (by omega) (rfl) ?_
    have bc4 : isC c = false := bI_0.mp c4
    exact ⟨by simp [fltPile, bc4], rfl⟩
set_option maxRecDepth 100000 in
set_option maxHeartbeats 4000000 in
theorem sp_fltTake {d : Nat} {q c : Int32} {w : mW} {s : Nat} {f g : Nat → Int32} {sl op lo : Int32} {hd rs : Nat → Int32} {np : Nat} {tp av lg pl tk : Int32} (H0 : StAt w s ((f, g, sl, op, lo), hd, rs, np, tp, av, lg, pl, tk)) : Sp (d + 1) yX6_faultOfTake cX6_faultOfTake 3 (some (.object "HillContest$Fault")) [.ref s, .int q, .int c] w 0 0 (fun v w' => v = some (.ref (fltTake f g np q c)) ∧ w' = w) noX := by
  refine Sp.of (by decide +kernel) (Nat.le_of_ble_eq_true rfl) (fun X hC hnl hE hR hN => ?_)
  have hC : Cx X RX6 cX6_faultOfTake (d + 1) 0 0 := hC
  show Wp X 0 0 w [(0, .ref s), (1, .int q), (2, .int c)] [] 0
  have hs : w[s]? = some (mO 7 [.ref (s + 1), .ref (s + 4), .ref (s + 5), .int (nI np), .int tp, .int av, .int lg, .int pl, .int tk]) := H0.1
  have H : HillAt w (s + 1) (s + 2) (s + 3) (f, g, sl, op, lo) := H0.2.1
  have hh : w[s + 1]? = some (mO 6 [.ref (s + 2), .ref (s + 3), .int sl, .int op, .int lo]) := H.1
  have ha : w[s + 2]? = some (mI 0 26 f) := H.2.1
  have hb : w[s + 3]? = some (mI 0 25 g) := H.2.2
  have hhd : w[s + 4]? = some (mI 0 4 hd) := H0.2.2.1
  have hrs : w[s + 5]? = some (mI 0 4 rs) := H0.2.2.2
  refine r_aload_n hC dX6_faultOfTake_0 rfl (j := 0) rfl ?_
  refine r_iload_n hC dX6_faultOfTake_1 rfl (j := 1) rfl ?_
  refine r_callV hC (vs := [.int q]) vX6_faultOfTake_2 (sp_hasPlayer (d := d) H0) hs rfl rfl (by omega) (by omega) (by omega) (Nat.le_of_ble_eq_true rfl) (fun v_1 w_1 hP_1 hlen_1 => ?_) (fun _ _ h => h.elim)
  rw [hP_1.1, hP_1.2]
  show Wp X 0 0 w [(0, .ref s), (1, .int q), (2, .int c)] [.int (bI (isP q np))] 5
  refine r_if_eq hC dX6_faultOfTake_5 (tgt := 15) (by decide) (fun c5 => ?_) (fun c5 => ?_)
  · refine r_gets hC sX6_faultOfTake_15 (v := .ref 1000011) gZ_f1 ?_
    refine r_aret hC hE hR dX6_faultOfTake_18 (by omega) (by omega) (rfl) ?_
    have bc5 : isP q np = false := bI_0.mp c5
    exact ⟨by simp [fltTake, bc5], rfl⟩
  · refine r_iload_n hC dX6_faultOfTake_8 rfl (j := 2) rfl ?_
    refine r_callSN hC (vs := [.int c]) vX6_faultOfTake_9 (sp_isCell (d := d)) rfl (by omega) (by omega) (by omega) (Nat.le_of_ble_eq_true rfl) (fun v_2 w_2 hP_2 hlen_2 => ?_)
    rw [hP_2.1, hP_2.2]
    show Wp X 0 0 w [(0, .ref s), (1, .int q), (2, .int c)] [.int (bI (isC c))] 12
    refine r_if_ne hC dX6_faultOfTake_12 (tgt := 19) (by decide) (fun c12 => ?_) (fun c12 => ?_)
    · refine r_aload_n hC dX6_faultOfTake_19 rfl (j := 0) rfl ?_
      refine r_get hC gX6_faultOfTake_20 hs (v := .ref (s + 1)) rfl ?_
      refine r_get hC gX6_faultOfTake_23 hh (v := .ref (s + 2)) rfl ?_
      refine r_iload_n hC dX6_faultOfTake_26 rfl (j := 2) rfl ?_
      refine r_iald hC dX6_faultOfTake_27 (j := c.toNatClampNeg) ha (isC_ix (bI_ne.mp c12) (by decide) (by decide)) ?_
      refine r_if_ne hC dX6_faultOfTake_28 (tgt := 35) (by decide) (fun c28 => ?_) (fun c28 => ?_)
      · refine r_aload_n hC dX6_faultOfTake_35 rfl (j := 0) rfl ?_
        refine r_get hC gX6_faultOfTake_36 hs (v := .ref (s + 1)) rfl ?_
        refine r_get hC gX6_faultOfTake_39 hh (v := .ref (s + 3)) rfl ?_
        refine r_iload_n hC dX6_faultOfTake_42 rfl (j := 2) rfl ?_
        refine r_iald hC dX6_faultOfTake_43 (j := c.toNatClampNeg) hb (isC_ix (bI_ne.mp c12) (by decide) (by decide)) ?_
        refine r_iload_n hC dX6_faultOfTake_44 rfl (j := 1) rfl ?_
        refine r_icmp_eq hC dX6_faultOfTake_45 (tgt := 54) (by decide) (fun c45 => ?_) (fun c45 => ?_)
        · refine r_gets hC sX6_faultOfTake_54 (v := .ref 1000010) gZ_f0 ?_
          refine r_aret hC hE hR dX6_faultOfTake_57 (by omega) (by omega) (rfl) ?_
          have bc5 : isP q np = true := bI_ne.mp c5
          have bc12 : isC c = true := bI_ne.mp c12
          exact ⟨by simp [fltTake, bc5, bc12, c28, c45], rfl⟩
        · refine r_gets hC sX6_faultOfTake_48 (v := .ref 1000015) gZ_f5 ?_
          refine r_goto hC dX6_faultOfTake_51 (tgt := 57) (by decide) ?_
          refine r_aret hC hE hR dX6_faultOfTake_57 (by omega) (by omega) (rfl) ?_
          have bc5 : isP q np = true := bI_ne.mp c5
          have bc12 : isC c = true := bI_ne.mp c12
          exact ⟨by simp [fltTake, bc5, bc12, c28, c45], rfl⟩
      · refine r_gets hC sX6_faultOfTake_31 (v := .ref 1000014) gZ_f4 ?_
        refine r_aret hC hE hR dX6_faultOfTake_34 (by omega) (by omega) (rfl) ?_
        have bc5 : isP q np = true := bI_ne.mp c5
        have bc12 : isC c = true := bI_ne.mp c12
        exact ⟨by simp [fltTake, bc5, bc12, c28], rfl⟩
    · refine r_gets hC sX6_faultOfTake_15 (v := .ref 1000011) gZ_f1 ?_
      refine r_aret hC hE hR dX6_faultOfTake_18 (by omega) (by omega) (rfl) ?_
      have bc5 : isP q np = true := bI_ne.mp c5
      have bc12 : isC c = false := bI_0.mp c12
      exact ⟨by simp [fltTake, bc5, bc12], rfl⟩
set_option maxRecDepth 100000 in
set_option maxHeartbeats 4000000 in
theorem sp_fltDrop {d : Nat} {q c x : Int32} {w : mW} {s : Nat} {f g : Nat → Int32} {sl op lo : Int32} {hd rs : Nat → Int32} {np : Nat} {tp av lg pl tk : Int32} (H0 : StAt w s ((f, g, sl, op, lo), hd, rs, np, tp, av, lg, pl, tk)) (hnp : np ≤ 4) : Sp (d + 2) yX6_faultOfDrop cX6_faultOfDrop 5 (some (.object "HillContest$Fault")) [.ref s, .int q, .int c, .int x] w 0 0 (fun v w' => v = some (.ref (fltDrop f hd rs np q c x)) ∧ w' = w) noX := by
  refine Sp.of (by decide +kernel) (Nat.le_of_ble_eq_true rfl) (fun X hC hnl hE hR hN => ?_)
  have hC : Cx X RX6 cX6_faultOfDrop (d + 2) 0 0 := hC
  show Wp X 0 0 w [(0, .ref s), (1, .int q), (2, .int c), (3, .int x)] [] 0
  have hs : w[s]? = some (mO 7 [.ref (s + 1), .ref (s + 4), .ref (s + 5), .int (nI np), .int tp, .int av, .int lg, .int pl, .int tk]) := H0.1
  have H : HillAt w (s + 1) (s + 2) (s + 3) (f, g, sl, op, lo) := H0.2.1
  have hh : w[s + 1]? = some (mO 6 [.ref (s + 2), .ref (s + 3), .int sl, .int op, .int lo]) := H.1
  have ha : w[s + 2]? = some (mI 0 26 f) := H.2.1
  have hb : w[s + 3]? = some (mI 0 25 g) := H.2.2
  have hhd : w[s + 4]? = some (mI 0 4 hd) := H0.2.2.1
  have hrs : w[s + 5]? = some (mI 0 4 rs) := H0.2.2.2
  refine r_aload_n hC dX6_faultOfDrop_0 rfl (j := 0) rfl ?_
  refine r_iload_n hC dX6_faultOfDrop_1 rfl (j := 1) rfl ?_
  refine r_callV hC (vs := [.int q]) vX6_faultOfDrop_2 (sp_hasPlayer (d := d) H0) hs rfl rfl (by omega) (by omega) (by omega) (Nat.le_of_ble_eq_true rfl) (fun v_1 w_1 hP_1 hlen_1 => ?_) (fun _ _ h => h.elim)
  rw [hP_1.1, hP_1.2]
  show Wp X 0 0 w [(0, .ref s), (1, .int q), (2, .int c), (3, .int x)] [.int (bI (isP q np))] 5
  refine r_if_ne hC dX6_faultOfDrop_5 (tgt := 12) (by decide) (fun c5 => ?_) (fun c5 => ?_)
  · refine r_aload_n hC dX6_faultOfDrop_12 rfl (j := 0) rfl ?_
    refine r_iload_n hC dX6_faultOfDrop_13 rfl (j := 2) rfl ?_
    refine r_iload_n hC dX6_faultOfDrop_14 rfl (j := 3) rfl ?_
    refine r_callV hC (vs := [.int c, .int x]) vX6_faultOfDrop_15 (sp_fltPile (d := d) H0) hs rfl rfl (by omega) (by omega) (by omega) (Nat.le_of_ble_eq_true rfl) (fun v_2 w_2 hP_2 hlen_2 => ?_) (fun _ _ h => h.elim)
    rw [hP_2.1, hP_2.2]
    show Wp X 0 0 w [(0, .ref s), (1, .int q), (2, .int c), (3, .int x)] [.ref (fltPile f c x)] 18
    refine r_astore hC dX6_faultOfDrop_18 (by rw [hnl]; decide) (L' := [(4, .ref (fltPile f c x)), (0, .ref s), (1, .int q), (2, .int c), (3, .int x)]) rfl ?_
    refine r_aload hC dX6_faultOfDrop_20 (j := 0) rfl ?_
    refine r_gets hC sX6_faultOfDrop_22 (v := .ref 1000010) gZ_f0 ?_
    refine r_acmp_eq hC dX6_faultOfDrop_25 (tgt := 31) (by decide) (fltPile_in _ _ _) (flt_in (i := 0) (by decide)) (fun c25 => ?_) (fun c25 => ?_)
    · refine r_aload_n hC dX6_faultOfDrop_31 rfl (j := 1) rfl ?_
      refine r_get hC gX6_faultOfDrop_32 hs (v := .ref (s + 5)) rfl ?_
      refine r_iload_n hC dX6_faultOfDrop_35 rfl (j := 2) rfl ?_
      refine r_iald hC dX6_faultOfDrop_36 (j := q.toNatClampNeg) hrs (isP_ix (bI_ne.mp c5) hnp) ?_
      refine r_if_le hC dX6_faultOfDrop_37 (tgt := 44) (by decide) (fun c37 => ?_) (fun c37 => ?_)
      · refine r_aload_n hC dX6_faultOfDrop_44 rfl (j := 1) rfl ?_
        refine r_get hC gX6_faultOfDrop_45 hs (v := .ref (s + 4)) rfl ?_
        refine r_iload_n hC dX6_faultOfDrop_48 rfl (j := 2) rfl ?_
        refine r_iald hC dX6_faultOfDrop_49 (j := q.toNatClampNeg) hhd (isP_ix (bI_ne.mp c5) hnp) ?_
        refine r_iload_n hC dX6_faultOfDrop_50 rfl (j := 4) rfl ?_
        refine r_icmp_ge hC dX6_faultOfDrop_51 (tgt := 60) (by decide) (fun c51 => ?_) (fun c51 => ?_)
        · refine r_gets hC sX6_faultOfDrop_60 (v := .ref 1000010) gZ_f0 ?_
          refine r_aret hC hE hR dX6_faultOfDrop_63 (by omega) (by omega) (rfl) ?_
          have bc5 : isP q np = true := bI_ne.mp c5
          exact ⟨by simp [fltDrop, bc5, c25, c37, c51], rfl⟩
        · refine r_gets hC sX6_faultOfDrop_54 (v := .ref 1000015) gZ_f5 ?_
          refine r_goto hC dX6_faultOfDrop_57 (tgt := 63) (by decide) ?_
          refine r_aret hC hE hR dX6_faultOfDrop_63 (by omega) (by omega) (rfl) ?_
          have bc5 : isP q np = true := bI_ne.mp c5
          exact ⟨by simp [fltDrop, bc5, c25, c37, c51], rfl⟩
      · refine r_gets hC sX6_faultOfDrop_40 (v := .ref 1000013) gZ_f3 ?_
        refine r_aret hC hE hR dX6_faultOfDrop_43 (by omega) (by omega) (rfl) ?_
        have bc5 : isP q np = true := bI_ne.mp c5
        exact ⟨by simp [fltDrop, bc5, c25, c37], rfl⟩
    · refine r_aload hC dX6_faultOfDrop_28 (j := 0) rfl ?_
      refine r_aret hC hE hR dX6_faultOfDrop_30 (by omega) (by omega) (rfl) ?_
      have bc5 : isP q np = true := bI_ne.mp c5
      exact ⟨by simp [fltDrop, bc5, c25], rfl⟩
  · refine r_gets hC sX6_faultOfDrop_8 (v := .ref 1000011) gZ_f1 ?_
    refine r_aret hC hE hR dX6_faultOfDrop_11 (by omega) (by omega) (rfl) ?_
    have bc5 : isP q np = false := bI_0.mp c5
    exact ⟨by simp [fltDrop, bc5], rfl⟩
end ST
