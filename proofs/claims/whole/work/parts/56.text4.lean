section TX4
/-- a command: its word's place and its numbers -/
abbrev cmdT : Type := Nat × Int32 × Int32 × Int32
def cmdFlt (y : sv) (c : cmdT) : Nat := match c.1 with
  | 0 => fltEntry y.2.2.2.1 c.2.1
  | 1 => fltDrop y.1.1 y.2.1 y.2.2.1 y.2.2.2.1 c.2.1 c.2.2.1 c.2.2.2
  | 2 => fltPile y.1.1 c.2.1 c.2.2.1
  | 3 => fltTake y.1.1 y.1.2.1 y.2.2.2.1 c.2.1 c.2.2.1
  | 5 => fltSlope c.2.1
  | _ => 1000010
def cmdDo (y : sv) (c : cmdT) : sv := match c.1 with
  | 0 => (y.1, upd y.2.1 y.2.2.2.1 c.2.1, upd y.2.2.1 y.2.2.2.1 0, y.2.2.2.1 + 1, y.2.2.2.2)
  | 1 => sDrop y c.2.1.toNatClampNeg c.2.2.1.toNatClampNeg c.2.2.2
  | 2 => sPile y c.2.1.toNatClampNeg c.2.2.1
  | 3 => sTake y c.2.1.toNatClampNeg c.2.2.1.toNatClampNeg
  | 4 => (y.1, y.2.1, sPass y.2.2.1 (-1) y.2.2.2.1, y.2.2.2.1, y.2.2.2.2)
  | 5 => sSlope y c.2.1
  | 6 => sBorder y 1
  | _ => sBorder y 0
/-- the hill as it stands before it comes to rest -/
def cmdHill (y : sv) (c : cmdT) : hv := match c.1 with
  | 1 => hPlace y.1 c.2.2.1.toNatClampNeg c.2.2.2 (nI c.2.1.toNatClampNeg)
  | 2 => hPlace y.1 c.2.1.toNatClampNeg c.2.2.1 (-1)
  | 3 => hRem y.1 c.2.2.1.toNatClampNeg
  | 5 => (y.1.1, y.1.2.1, c.2.1, y.1.2.2.2.1, y.1.2.2.2.2)
  | 6 => (y.1.1, y.1.2.1, y.1.2.2.1, 1, y.1.2.2.2.2)
  | _ => (y.1.1, y.1.2.1, y.1.2.2.1, 0, y.1.2.2.2.2)
def cmdT9 (y : sv) (c : cmdT) : Prop := c.1 = 0 ∨ c.1 = 4 ∨ (cmdFlt y c = 1000010 → hNx (hRestF (cmdHill y c)).2 = none)
def pArgs (t : Nat → Int32) (e : Nat) : Nat → Nat → Option cmdT × Nat
  | 0, h => match pDig t e h 2 with
    | (some a, k) => (some (0, a, 0, 0), k)
    | (none, k) => (none, k)
  | 1, h => match pDig t e h 1 with
    | (some a, k) => (match pBeh t e k 2 with
      | (some b, k2) => (match pBeh t e k2 1 with
        | (some c, k3) => (some (1, a, b, c), k3)
        | (none, k3) => (none, k3))
      | (none, k2) => (none, k2))
    | (none, k) => (none, k)
  | 2, h => match pDig t e h 2 with
    | (some a, k) => (match pBeh t e k 1 with
      | (some b, k2) => (some (2, a, b, 0), k2)
      | (none, k2) => (none, k2))
    | (none, k) => (none, k)
  | 3, h => match pDig t e h 1 with
    | (some a, k) => (match pBeh t e k 2 with
      | (some b, k2) => (some (3, a, b, 0), k2)
      | (none, k2) => (none, k2))
    | (none, k) => (none, k)
  | 5, h => match pDig t e h 1 with
    | (some a, k) => (some (5, a, 0, 0), k)
    | (none, k) => (none, k)
  | w, h => (some (w, 0, 0, 0), h)
def pCmd (t : Nat → Int32) (e h : Nat) : Option cmdT × Nat := match pWord t e h with
  | (none, k) => (none, k)
  | (some w, k) => pArgs t e w k
set_option maxRecDepth 100000 in
set_option maxHeartbeats 4000000 in
theorem sm_does0 {d : Nat} {w : mW} {m : Nat} {th ch ea fa sv0 tn he en ln iw id0 : Int32} {a b c : Int32} {f g : Nat → Int32} {sl op lo : Int32} {hd rs : Nat → Int32} {np : Nat} {tp av lg pl tk : Int32} (hm : w[m]? = some (mO 10 [.int th, .int ch, .int ea, .int fa, .int sv0, .ref (m + 1), .ref (m + 2), .ref (m + 3), .ref (m + 4), .ref (m + 5), .ref (m + 6), .ref (m + 7), .ref (m + 8), .ref (m + 9), .ref (m + 10), .int tn, .int he, .int en, .int ln, .int iw, .int id0])) (hv : w[m + 1]? = some (mI 0 67 (enc ((f, g, sl, op, lo), hd, rs, np, tp, av, lg, pl, tk)))) (h25 : f 25 = 0) (hop : op = 0 ∨ op = 1) (hlg : ¬ lg < 0) (hnp : np ≤ 4) : Sp (d + 8) yX9_does cX9_does 5 (some .int) [.ref m, .int 0, .int a, .int b, .int c] w 0 0 (fun v w' => (cmdFlt ((f, g, sl, op, lo), hd, rs, np, tp, av, lg, pl, tk) (0, a, b, c) = 1000010 ∧ ∃ r, v = some (.int r) ∧ w' = w.set (m + 1) (mI 0 67 (enc (cmdDo ((f, g, sl, op, lo), hd, rs, np, tp, av, lg, pl, tk) (0, a, b, c))))) ∨ (¬ cmdFlt ((f, g, sl, op, lo), hd, rs, np, tp, av, lg, pl, tk) (0, a, b, c) = 1000010 ∧ ∃ r, ¬ r = 0 ∧ v = some (.int 0) ∧ w' = w.set m (mO 10 [.int r, .int ch, .int ea, .int fa, .int sv0, .ref (m + 1), .ref (m + 2), .ref (m + 3), .ref (m + 4), .ref (m + 5), .ref (m + 6), .ref (m + 7), .ref (m + 8), .ref (m + 9), .ref (m + 10), .int tn, .int he, .int en, .int ln, .int iw, .int id0]))) noX := by
  refine Sp.of (by decide +kernel) (Nat.le_of_ble_eq_true rfl) (fun X hC hnl hE hR hN => ?_)
  have hC : Cx X RX9 cX9_does (d + 8) 0 0 := hC
  show Wp X 0 0 w [(0, .ref m), (1, .int 0), (2, .int a), (3, .int b), (4, .int c)] [] 0
  refine r_iload_n hC dX9_does_0 rfl (j := 1) rfl ?_
  refine r_tableIn (off := 39) (tgt := 40) hC dX9_does_1 (by decide) (by decide) (by decide) (by decide) ?_
  refine r_aload_n hC dX9_does_40 rfl (j := 0) rfl ?_
  refine r_iload_n hC dX9_does_41 rfl (j := 2) rfl ?_
  refine r_callV hC (vs := [.int a]) vX9_does_42 (sm_adds (d := d + 6) hm hv hnp) hm rfl rfl (by omega) (by omega) (by omega) (Nat.le_of_ble_eq_true rfl) (fun v_1 w_1 hP_1 hlen_1 => ?_) (fun _ _ h => h.elim)
  rcases hP_1 with ⟨he, hv9, ew⟩ | ⟨he, hv9, ew⟩
  · rw [hv9]
    refine r_iret hC hE hR dX9_does_45 (by omega) (by omega) hlen_1 ?_
    exact Or.inl ⟨he, _, rfl, ew⟩
  · rw [hv9]
    refine r_iret hC hE hR dX9_does_45 (by omega) (by omega) hlen_1 ?_
    exact Or.inr ⟨he, _, nE_ne, rfl, ew⟩
set_option maxRecDepth 100000 in
set_option maxHeartbeats 4000000 in
theorem sm_does1 {d : Nat} {w : mW} {m : Nat} {th ch ea fa sv0 tn he en ln iw id0 : Int32} {a b c : Int32} {f g : Nat → Int32} {sl op lo : Int32} {hd rs : Nat → Int32} {np : Nat} {tp av lg pl tk : Int32} (hm : w[m]? = some (mO 10 [.int th, .int ch, .int ea, .int fa, .int sv0, .ref (m + 1), .ref (m + 2), .ref (m + 3), .ref (m + 4), .ref (m + 5), .ref (m + 6), .ref (m + 7), .ref (m + 8), .ref (m + 9), .ref (m + 10), .int tn, .int he, .int en, .int ln, .int iw, .int id0])) (hv : w[m + 1]? = some (mI 0 67 (enc ((f, g, sl, op, lo), hd, rs, np, tp, av, lg, pl, tk)))) (h25 : f 25 = 0) (hop : op = 0 ∨ op = 1) (hlg : ¬ lg < 0) (hnp : np ≤ 4) (hT : cmdFlt ((f, g, sl, op, lo), hd, rs, np, tp, av, lg, pl, tk) (1, a, b, c) = 1000010 → hNx (hRestF (cmdHill ((f, g, sl, op, lo), hd, rs, np, tp, av, lg, pl, tk) (1, a, b, c))).2 = none) : Sp (d + 8) yX9_does cX9_does 5 (some .int) [.ref m, .int 1, .int a, .int b, .int c] w 0 0 (fun v w' => (cmdFlt ((f, g, sl, op, lo), hd, rs, np, tp, av, lg, pl, tk) (1, a, b, c) = 1000010 ∧ ∃ r, v = some (.int r) ∧ w' = w.set (m + 1) (mI 0 67 (enc (cmdDo ((f, g, sl, op, lo), hd, rs, np, tp, av, lg, pl, tk) (1, a, b, c))))) ∨ (¬ cmdFlt ((f, g, sl, op, lo), hd, rs, np, tp, av, lg, pl, tk) (1, a, b, c) = 1000010 ∧ ∃ r, ¬ r = 0 ∧ v = some (.int 0) ∧ w' = w.set m (mO 10 [.int r, .int ch, .int ea, .int fa, .int sv0, .ref (m + 1), .ref (m + 2), .ref (m + 3), .ref (m + 4), .ref (m + 5), .ref (m + 6), .ref (m + 7), .ref (m + 8), .ref (m + 9), .ref (m + 10), .int tn, .int he, .int en, .int ln, .int iw, .int id0]))) noX := by
  refine Sp.of (by decide +kernel) (Nat.le_of_ble_eq_true rfl) (fun X hC hnl hE hR hN => ?_)
  have hC : Cx X RX9 cX9_does (d + 8) 0 0 := hC
  show Wp X 0 0 w [(0, .ref m), (1, .int 1), (2, .int a), (3, .int b), (4, .int c)] [] 0
  refine r_iload_n hC dX9_does_0 rfl (j := 1) rfl ?_
  refine r_tableIn (off := 45) (tgt := 46) hC dX9_does_1 (by decide) (by decide) (by decide) (by decide) ?_
  refine r_aload_n hC dX9_does_46 rfl (j := 0) rfl ?_
  refine r_iload_n hC dX9_does_47 rfl (j := 2) rfl ?_
  refine r_iload_n hC dX9_does_48 rfl (j := 3) rfl ?_
  refine r_iload hC dX9_does_49 (j := 4) rfl ?_
  refine r_callV hC (vs := [.int a, .int b, .int c]) vX9_does_51 (sm_drops (d := d) hm hv h25 hop hlg hnp hT) hm rfl rfl (by omega) (by omega) (by omega) (Nat.le_of_ble_eq_true rfl) (fun v_1 w_1 hP_1 hlen_1 => ?_) (fun _ _ h => h.elim)
  rcases hP_1 with ⟨he, hv9, ew⟩ | ⟨he, hv9, ew⟩
  · rw [hv9]
    refine r_iret hC hE hR dX9_does_54 (by omega) (by omega) hlen_1 ?_
    exact Or.inl ⟨he, _, rfl, ew⟩
  · rw [hv9]
    refine r_iret hC hE hR dX9_does_54 (by omega) (by omega) hlen_1 ?_
    exact Or.inr ⟨he, _, nD_ne, rfl, ew⟩
set_option maxRecDepth 100000 in
set_option maxHeartbeats 4000000 in
theorem sm_does2 {d : Nat} {w : mW} {m : Nat} {th ch ea fa sv0 tn he en ln iw id0 : Int32} {a b c : Int32} {f g : Nat → Int32} {sl op lo : Int32} {hd rs : Nat → Int32} {np : Nat} {tp av lg pl tk : Int32} (hm : w[m]? = some (mO 10 [.int th, .int ch, .int ea, .int fa, .int sv0, .ref (m + 1), .ref (m + 2), .ref (m + 3), .ref (m + 4), .ref (m + 5), .ref (m + 6), .ref (m + 7), .ref (m + 8), .ref (m + 9), .ref (m + 10), .int tn, .int he, .int en, .int ln, .int iw, .int id0])) (hv : w[m + 1]? = some (mI 0 67 (enc ((f, g, sl, op, lo), hd, rs, np, tp, av, lg, pl, tk)))) (h25 : f 25 = 0) (hop : op = 0 ∨ op = 1) (hlg : ¬ lg < 0) (hnp : np ≤ 4) (hT : cmdFlt ((f, g, sl, op, lo), hd, rs, np, tp, av, lg, pl, tk) (2, a, b, c) = 1000010 → hNx (hRestF (cmdHill ((f, g, sl, op, lo), hd, rs, np, tp, av, lg, pl, tk) (2, a, b, c))).2 = none) : Sp (d + 8) yX9_does cX9_does 5 (some .int) [.ref m, .int 2, .int a, .int b, .int c] w 0 0 (fun v w' => (cmdFlt ((f, g, sl, op, lo), hd, rs, np, tp, av, lg, pl, tk) (2, a, b, c) = 1000010 ∧ ∃ r, v = some (.int r) ∧ w' = w.set (m + 1) (mI 0 67 (enc (cmdDo ((f, g, sl, op, lo), hd, rs, np, tp, av, lg, pl, tk) (2, a, b, c))))) ∨ (¬ cmdFlt ((f, g, sl, op, lo), hd, rs, np, tp, av, lg, pl, tk) (2, a, b, c) = 1000010 ∧ ∃ r, ¬ r = 0 ∧ v = some (.int 0) ∧ w' = w.set m (mO 10 [.int r, .int ch, .int ea, .int fa, .int sv0, .ref (m + 1), .ref (m + 2), .ref (m + 3), .ref (m + 4), .ref (m + 5), .ref (m + 6), .ref (m + 7), .ref (m + 8), .ref (m + 9), .ref (m + 10), .int tn, .int he, .int en, .int ln, .int iw, .int id0]))) noX := by
  refine Sp.of (by decide +kernel) (Nat.le_of_ble_eq_true rfl) (fun X hC hnl hE hR hN => ?_)
  have hC : Cx X RX9 cX9_does (d + 8) 0 0 := hC
  show Wp X 0 0 w [(0, .ref m), (1, .int 2), (2, .int a), (3, .int b), (4, .int c)] [] 0
  refine r_iload_n hC dX9_does_0 rfl (j := 1) rfl ?_
  refine r_tableIn (off := 54) (tgt := 55) hC dX9_does_1 (by decide) (by decide) (by decide) (by decide) ?_
  refine r_aload_n hC dX9_does_55 rfl (j := 0) rfl ?_
  refine r_iload_n hC dX9_does_56 rfl (j := 2) rfl ?_
  refine r_iload_n hC dX9_does_57 rfl (j := 3) rfl ?_
  refine r_callV hC (vs := [.int a, .int b]) vX9_does_58 (sm_piles (d := d) hm hv h25 hop hlg hT) hm rfl rfl (by omega) (by omega) (by omega) (Nat.le_of_ble_eq_true rfl) (fun v_1 w_1 hP_1 hlen_1 => ?_) (fun _ _ h => h.elim)
  rcases hP_1 with ⟨he, hv9, ew⟩ | ⟨he, hv9, ew⟩
  · rw [hv9]
    refine r_iret hC hE hR dX9_does_61 (by omega) (by omega) hlen_1 ?_
    exact Or.inl ⟨he, _, rfl, ew⟩
  · rw [hv9]
    refine r_iret hC hE hR dX9_does_61 (by omega) (by omega) hlen_1 ?_
    exact Or.inr ⟨he, _, nD_ne, rfl, ew⟩
set_option maxRecDepth 100000 in
set_option maxHeartbeats 4000000 in
theorem sm_does3 {d : Nat} {w : mW} {m : Nat} {th ch ea fa sv0 tn he en ln iw id0 : Int32} {a b c : Int32} {f g : Nat → Int32} {sl op lo : Int32} {hd rs : Nat → Int32} {np : Nat} {tp av lg pl tk : Int32} (hm : w[m]? = some (mO 10 [.int th, .int ch, .int ea, .int fa, .int sv0, .ref (m + 1), .ref (m + 2), .ref (m + 3), .ref (m + 4), .ref (m + 5), .ref (m + 6), .ref (m + 7), .ref (m + 8), .ref (m + 9), .ref (m + 10), .int tn, .int he, .int en, .int ln, .int iw, .int id0])) (hv : w[m + 1]? = some (mI 0 67 (enc ((f, g, sl, op, lo), hd, rs, np, tp, av, lg, pl, tk)))) (h25 : f 25 = 0) (hop : op = 0 ∨ op = 1) (hlg : ¬ lg < 0) (hnp : np ≤ 4) (hT : cmdFlt ((f, g, sl, op, lo), hd, rs, np, tp, av, lg, pl, tk) (3, a, b, c) = 1000010 → hNx (hRestF (cmdHill ((f, g, sl, op, lo), hd, rs, np, tp, av, lg, pl, tk) (3, a, b, c))).2 = none) : Sp (d + 8) yX9_does cX9_does 5 (some .int) [.ref m, .int 3, .int a, .int b, .int c] w 0 0 (fun v w' => (cmdFlt ((f, g, sl, op, lo), hd, rs, np, tp, av, lg, pl, tk) (3, a, b, c) = 1000010 ∧ ∃ r, v = some (.int r) ∧ w' = w.set (m + 1) (mI 0 67 (enc (cmdDo ((f, g, sl, op, lo), hd, rs, np, tp, av, lg, pl, tk) (3, a, b, c))))) ∨ (¬ cmdFlt ((f, g, sl, op, lo), hd, rs, np, tp, av, lg, pl, tk) (3, a, b, c) = 1000010 ∧ ∃ r, ¬ r = 0 ∧ v = some (.int 0) ∧ w' = w.set m (mO 10 [.int r, .int ch, .int ea, .int fa, .int sv0, .ref (m + 1), .ref (m + 2), .ref (m + 3), .ref (m + 4), .ref (m + 5), .ref (m + 6), .ref (m + 7), .ref (m + 8), .ref (m + 9), .ref (m + 10), .int tn, .int he, .int en, .int ln, .int iw, .int id0]))) noX := by
  refine Sp.of (by decide +kernel) (Nat.le_of_ble_eq_true rfl) (fun X hC hnl hE hR hN => ?_)
  have hC : Cx X RX9 cX9_does (d + 8) 0 0 := hC
  show Wp X 0 0 w [(0, .ref m), (1, .int 3), (2, .int a), (3, .int b), (4, .int c)] [] 0
  refine r_iload_n hC dX9_does_0 rfl (j := 1) rfl ?_
  refine r_tableIn (off := 61) (tgt := 62) hC dX9_does_1 (by decide) (by decide) (by decide) (by decide) ?_
  refine r_aload_n hC dX9_does_62 rfl (j := 0) rfl ?_
  refine r_iload_n hC dX9_does_63 rfl (j := 2) rfl ?_
  refine r_iload_n hC dX9_does_64 rfl (j := 3) rfl ?_
  refine r_callV hC (vs := [.int a, .int b]) vX9_does_65 (sm_takes (d := d + 1) hm hv h25 hop hlg hnp hT) hm rfl rfl (by omega) (by omega) (by omega) (Nat.le_of_ble_eq_true rfl) (fun v_1 w_1 hP_1 hlen_1 => ?_) (fun _ _ h => h.elim)
  rcases hP_1 with ⟨he, hv9, ew⟩ | ⟨he, hv9, ew⟩
  · rw [hv9]
    refine r_iret hC hE hR dX9_does_68 (by omega) (by omega) hlen_1 ?_
    exact Or.inl ⟨he, _, rfl, ew⟩
  · rw [hv9]
    refine r_iret hC hE hR dX9_does_68 (by omega) (by omega) hlen_1 ?_
    exact Or.inr ⟨he, _, nT_ne, rfl, ew⟩
set_option maxRecDepth 100000 in
set_option maxHeartbeats 4000000 in
theorem sm_does4 {d : Nat} {w : mW} {m : Nat} {th ch ea fa sv0 tn he en ln iw id0 : Int32} {a b c : Int32} {f g : Nat → Int32} {sl op lo : Int32} {hd rs : Nat → Int32} {np : Nat} {tp av lg pl tk : Int32} (hm : w[m]? = some (mO 10 [.int th, .int ch, .int ea, .int fa, .int sv0, .ref (m + 1), .ref (m + 2), .ref (m + 3), .ref (m + 4), .ref (m + 5), .ref (m + 6), .ref (m + 7), .ref (m + 8), .ref (m + 9), .ref (m + 10), .int tn, .int he, .int en, .int ln, .int iw, .int id0])) (hv : w[m + 1]? = some (mI 0 67 (enc ((f, g, sl, op, lo), hd, rs, np, tp, av, lg, pl, tk)))) (h25 : f 25 = 0) (hop : op = 0 ∨ op = 1) (hlg : ¬ lg < 0) (hnp : np ≤ 4) : Sp (d + 8) yX9_does cX9_does 5 (some .int) [.ref m, .int 4, .int a, .int b, .int c] w 0 0 (fun v w' => (cmdFlt ((f, g, sl, op, lo), hd, rs, np, tp, av, lg, pl, tk) (4, a, b, c) = 1000010 ∧ ∃ r, v = some (.int r) ∧ w' = w.set (m + 1) (mI 0 67 (enc (cmdDo ((f, g, sl, op, lo), hd, rs, np, tp, av, lg, pl, tk) (4, a, b, c))))) ∨ (¬ cmdFlt ((f, g, sl, op, lo), hd, rs, np, tp, av, lg, pl, tk) (4, a, b, c) = 1000010 ∧ ∃ r, ¬ r = 0 ∧ v = some (.int 0) ∧ w' = w.set m (mO 10 [.int r, .int ch, .int ea, .int fa, .int sv0, .ref (m + 1), .ref (m + 2), .ref (m + 3), .ref (m + 4), .ref (m + 5), .ref (m + 6), .ref (m + 7), .ref (m + 8), .ref (m + 9), .ref (m + 10), .int tn, .int he, .int en, .int ln, .int iw, .int id0]))) noX := by
  refine Sp.of (by decide +kernel) (Nat.le_of_ble_eq_true rfl) (fun X hC hnl hE hR hN => ?_)
  have hC : Cx X RX9 cX9_does (d + 8) 0 0 := hC
  show Wp X 0 0 w [(0, .ref m), (1, .int 4), (2, .int a), (3, .int b), (4, .int c)] [] 0
  refine r_iload_n hC dX9_does_0 rfl (j := 1) rfl ?_
  refine r_tableIn (off := 68) (tgt := 69) hC dX9_does_1 (by decide) (by decide) (by decide) (by decide) ?_
  refine r_aload_n hC dX9_does_69 rfl (j := 0) rfl ?_
  refine r_iconst hC dX9_does_70 (v := (-1)) (by decide) ?_
  refine r_callV hC (vs := [.int (-1)]) vX9_does_71 (sm_waits (d := d + 7) (ex := -1) hm hv hnp) hm rfl rfl (by omega) (by omega) (by omega) (Nat.le_of_ble_eq_true rfl) (fun v_1 w_1 hP_1 hlen_1 => ?_) (fun _ _ h => h.elim)
  obtain ⟨hv9, ew⟩ := hP_1
  rw [hv9]
  refine r_iret hC hE hR dX9_does_74 (by omega) (by omega) hlen_1 ?_
  exact Or.inl ⟨rfl, _, rfl, ew⟩
set_option maxRecDepth 100000 in
set_option maxHeartbeats 4000000 in
theorem sm_does5 {d : Nat} {w : mW} {m : Nat} {th ch ea fa sv0 tn he en ln iw id0 : Int32} {a b c : Int32} {f g : Nat → Int32} {sl op lo : Int32} {hd rs : Nat → Int32} {np : Nat} {tp av lg pl tk : Int32} (hm : w[m]? = some (mO 10 [.int th, .int ch, .int ea, .int fa, .int sv0, .ref (m + 1), .ref (m + 2), .ref (m + 3), .ref (m + 4), .ref (m + 5), .ref (m + 6), .ref (m + 7), .ref (m + 8), .ref (m + 9), .ref (m + 10), .int tn, .int he, .int en, .int ln, .int iw, .int id0])) (hv : w[m + 1]? = some (mI 0 67 (enc ((f, g, sl, op, lo), hd, rs, np, tp, av, lg, pl, tk)))) (h25 : f 25 = 0) (hop : op = 0 ∨ op = 1) (hlg : ¬ lg < 0) (hnp : np ≤ 4) (hT : cmdFlt ((f, g, sl, op, lo), hd, rs, np, tp, av, lg, pl, tk) (5, a, b, c) = 1000010 → hNx (hRestF (cmdHill ((f, g, sl, op, lo), hd, rs, np, tp, av, lg, pl, tk) (5, a, b, c))).2 = none) : Sp (d + 8) yX9_does cX9_does 5 (some .int) [.ref m, .int 5, .int a, .int b, .int c] w 0 0 (fun v w' => (cmdFlt ((f, g, sl, op, lo), hd, rs, np, tp, av, lg, pl, tk) (5, a, b, c) = 1000010 ∧ ∃ r, v = some (.int r) ∧ w' = w.set (m + 1) (mI 0 67 (enc (cmdDo ((f, g, sl, op, lo), hd, rs, np, tp, av, lg, pl, tk) (5, a, b, c))))) ∨ (¬ cmdFlt ((f, g, sl, op, lo), hd, rs, np, tp, av, lg, pl, tk) (5, a, b, c) = 1000010 ∧ ∃ r, ¬ r = 0 ∧ v = some (.int 0) ∧ w' = w.set m (mO 10 [.int r, .int ch, .int ea, .int fa, .int sv0, .ref (m + 1), .ref (m + 2), .ref (m + 3), .ref (m + 4), .ref (m + 5), .ref (m + 6), .ref (m + 7), .ref (m + 8), .ref (m + 9), .ref (m + 10), .int tn, .int he, .int en, .int ln, .int iw, .int id0]))) noX := by
  refine Sp.of (by decide +kernel) (Nat.le_of_ble_eq_true rfl) (fun X hC hnl hE hR hN => ?_)
  have hC : Cx X RX9 cX9_does (d + 8) 0 0 := hC
  show Wp X 0 0 w [(0, .ref m), (1, .int 5), (2, .int a), (3, .int b), (4, .int c)] [] 0
  refine r_iload_n hC dX9_does_0 rfl (j := 1) rfl ?_
  refine r_tableIn (off := 74) (tgt := 75) hC dX9_does_1 (by decide) (by decide) (by decide) (by decide) ?_
  refine r_aload_n hC dX9_does_75 rfl (j := 0) rfl ?_
  refine r_iload_n hC dX9_does_76 rfl (j := 2) rfl ?_
  refine r_callV hC (vs := [.int a]) vX9_does_77 (sm_slopes (d := d + 1) hm hv h25 hop hlg hT) hm rfl rfl (by omega) (by omega) (by omega) (Nat.le_of_ble_eq_true rfl) (fun v_1 w_1 hP_1 hlen_1 => ?_) (fun _ _ h => h.elim)
  rcases hP_1 with ⟨he, hv9, ew⟩ | ⟨he, hv9, ew⟩
  · rw [hv9]
    refine r_iret hC hE hR dX9_does_80 (by omega) (by omega) hlen_1 ?_
    exact Or.inl ⟨he, _, rfl, ew⟩
  · rw [hv9]
    refine r_iret hC hE hR dX9_does_80 (by omega) (by omega) hlen_1 ?_
    exact Or.inr ⟨he, _, nE_ne, rfl, ew⟩
set_option maxRecDepth 100000 in
set_option maxHeartbeats 4000000 in
theorem sm_does6 {d : Nat} {w : mW} {m : Nat} {th ch ea fa sv0 tn he en ln iw id0 : Int32} {a b c : Int32} {f g : Nat → Int32} {sl op lo : Int32} {hd rs : Nat → Int32} {np : Nat} {tp av lg pl tk : Int32} (hm : w[m]? = some (mO 10 [.int th, .int ch, .int ea, .int fa, .int sv0, .ref (m + 1), .ref (m + 2), .ref (m + 3), .ref (m + 4), .ref (m + 5), .ref (m + 6), .ref (m + 7), .ref (m + 8), .ref (m + 9), .ref (m + 10), .int tn, .int he, .int en, .int ln, .int iw, .int id0])) (hv : w[m + 1]? = some (mI 0 67 (enc ((f, g, sl, op, lo), hd, rs, np, tp, av, lg, pl, tk)))) (h25 : f 25 = 0) (hop : op = 0 ∨ op = 1) (hlg : ¬ lg < 0) (hnp : np ≤ 4) (hT : cmdFlt ((f, g, sl, op, lo), hd, rs, np, tp, av, lg, pl, tk) (6, a, b, c) = 1000010 → hNx (hRestF (cmdHill ((f, g, sl, op, lo), hd, rs, np, tp, av, lg, pl, tk) (6, a, b, c))).2 = none) : Sp (d + 8) yX9_does cX9_does 5 (some .int) [.ref m, .int 6, .int a, .int b, .int c] w 0 0 (fun v w' => (cmdFlt ((f, g, sl, op, lo), hd, rs, np, tp, av, lg, pl, tk) (6, a, b, c) = 1000010 ∧ ∃ r, v = some (.int r) ∧ w' = w.set (m + 1) (mI 0 67 (enc (cmdDo ((f, g, sl, op, lo), hd, rs, np, tp, av, lg, pl, tk) (6, a, b, c))))) ∨ (¬ cmdFlt ((f, g, sl, op, lo), hd, rs, np, tp, av, lg, pl, tk) (6, a, b, c) = 1000010 ∧ ∃ r, ¬ r = 0 ∧ v = some (.int 0) ∧ w' = w.set m (mO 10 [.int r, .int ch, .int ea, .int fa, .int sv0, .ref (m + 1), .ref (m + 2), .ref (m + 3), .ref (m + 4), .ref (m + 5), .ref (m + 6), .ref (m + 7), .ref (m + 8), .ref (m + 9), .ref (m + 10), .int tn, .int he, .int en, .int ln, .int iw, .int id0]))) noX := by
  refine Sp.of (by decide +kernel) (Nat.le_of_ble_eq_true rfl) (fun X hC hnl hE hR hN => ?_)
  have hC : Cx X RX9 cX9_does (d + 8) 0 0 := hC
  show Wp X 0 0 w [(0, .ref m), (1, .int 6), (2, .int a), (3, .int b), (4, .int c)] [] 0
  refine r_iload_n hC dX9_does_0 rfl (j := 1) rfl ?_
  refine r_tableOut (tgt := 81) hC dX9_does_1 (by decide) (by decide) ?_
  refine r_aload_n hC dX9_does_81 rfl (j := 0) rfl ?_
  refine r_iload_n hC dX9_does_82 rfl (j := 1) rfl ?_
  refine r_bipush hC dX9_does_83 (v := 6) (by decide) ?_
  refine r_icmp_ne hC dX9_does_85 (tgt := 92) (by decide) (fun h => absurd (by decide) h) (fun _ => ?_)
  refine r_iconst hC dX9_does_88 (v := 1) (by decide) ?_
  refine r_goto hC dX9_does_89 (tgt := 93) (by decide) ?_
  refine r_callV hC (vs := [.int 1]) vX9_does_93 (sm_opens (d := d + 1) hm hv h25 (by decide) hlg (hT rfl)) hm rfl rfl (by omega) (by omega) (by omega) (Nat.le_of_ble_eq_true rfl) (fun v_1 w_1 hP_1 hlen_1 => ?_) (fun _ _ h => h.elim)
  obtain ⟨hv9, ew⟩ := hP_1
  rw [hv9]
  refine r_iret hC hE hR dX9_does_96 (by omega) (by omega) hlen_1 ?_
  exact Or.inl ⟨rfl, _, rfl, ew⟩
set_option maxRecDepth 100000 in
set_option maxHeartbeats 4000000 in
theorem sm_does7 {d : Nat} {w : mW} {m : Nat} {th ch ea fa sv0 tn he en ln iw id0 : Int32} {a b c : Int32} {f g : Nat → Int32} {sl op lo : Int32} {hd rs : Nat → Int32} {np : Nat} {tp av lg pl tk : Int32} (hm : w[m]? = some (mO 10 [.int th, .int ch, .int ea, .int fa, .int sv0, .ref (m + 1), .ref (m + 2), .ref (m + 3), .ref (m + 4), .ref (m + 5), .ref (m + 6), .ref (m + 7), .ref (m + 8), .ref (m + 9), .ref (m + 10), .int tn, .int he, .int en, .int ln, .int iw, .int id0])) (hv : w[m + 1]? = some (mI 0 67 (enc ((f, g, sl, op, lo), hd, rs, np, tp, av, lg, pl, tk)))) (h25 : f 25 = 0) (hop : op = 0 ∨ op = 1) (hlg : ¬ lg < 0) (hnp : np ≤ 4) (hT : cmdFlt ((f, g, sl, op, lo), hd, rs, np, tp, av, lg, pl, tk) (7, a, b, c) = 1000010 → hNx (hRestF (cmdHill ((f, g, sl, op, lo), hd, rs, np, tp, av, lg, pl, tk) (7, a, b, c))).2 = none) : Sp (d + 8) yX9_does cX9_does 5 (some .int) [.ref m, .int 7, .int a, .int b, .int c] w 0 0 (fun v w' => (cmdFlt ((f, g, sl, op, lo), hd, rs, np, tp, av, lg, pl, tk) (7, a, b, c) = 1000010 ∧ ∃ r, v = some (.int r) ∧ w' = w.set (m + 1) (mI 0 67 (enc (cmdDo ((f, g, sl, op, lo), hd, rs, np, tp, av, lg, pl, tk) (7, a, b, c))))) ∨ (¬ cmdFlt ((f, g, sl, op, lo), hd, rs, np, tp, av, lg, pl, tk) (7, a, b, c) = 1000010 ∧ ∃ r, ¬ r = 0 ∧ v = some (.int 0) ∧ w' = w.set m (mO 10 [.int r, .int ch, .int ea, .int fa, .int sv0, .ref (m + 1), .ref (m + 2), .ref (m + 3), .ref (m + 4), .ref (m + 5), .ref (m + 6), .ref (m + 7), .ref (m + 8), .ref (m + 9), .ref (m + 10), .int tn, .int he, .int en, .int ln, .int iw, .int id0]))) noX := by
  refine Sp.of (by decide +kernel) (Nat.le_of_ble_eq_true rfl) (fun X hC hnl hE hR hN => ?_)
  have hC : Cx X RX9 cX9_does (d + 8) 0 0 := hC
  show Wp X 0 0 w [(0, .ref m), (1, .int 7), (2, .int a), (3, .int b), (4, .int c)] [] 0
  refine r_iload_n hC dX9_does_0 rfl (j := 1) rfl ?_
  refine r_tableOut (tgt := 81) hC dX9_does_1 (by decide) (by decide) ?_
  refine r_aload_n hC dX9_does_81 rfl (j := 0) rfl ?_
  refine r_iload_n hC dX9_does_82 rfl (j := 1) rfl ?_
  refine r_bipush hC dX9_does_83 (v := 6) (by decide) ?_
  refine r_icmp_ne hC dX9_does_85 (tgt := 92) (by decide) (fun _ => ?_) (fun h => absurd h (by decide))
  refine r_iconst hC dX9_does_92 (v := 0) (by decide) ?_
  refine r_callV hC (vs := [.int 0]) vX9_does_93 (sm_opens (d := d + 1) hm hv h25 (by decide) hlg (hT rfl)) hm rfl rfl (by omega) (by omega) (by omega) (Nat.le_of_ble_eq_true rfl) (fun v_1 w_1 hP_1 hlen_1 => ?_) (fun _ _ h => h.elim)
  obtain ⟨hv9, ew⟩ := hP_1
  rw [hv9]
  refine r_iret hC hE hR dX9_does_96 (by omega) (by omega) hlen_1 ?_
  exact Or.inl ⟨rfl, _, rfl, ew⟩
end TX4
