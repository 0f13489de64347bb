section TX6
/-- only the object, the state and the words left differ -/
def Ou (m : Nat) (w w' : mW) : Prop := w'.length = w.length ∧ ∀ k, ¬ (k = m ∨ k = m + 1 ∨ k = m + 8) → w'[k]? = w[k]?
theorem Ou.rfl {m : Nat} {w : mW} : Ou m w w := ⟨Eq.refl _, fun _ _ => Eq.refl _⟩
theorem Ou.trans {m : Nat} {w w1 w2 : mW} (h1 : Ou m w w1) (h2 : Ou m w1 w2) : Ou m w w2 := ⟨h2.1.trans h1.1, fun k hk => (h2.2 k hk).trans (h1.2 k hk)⟩
theorem Ou.set {m a : Nat} {w w1 : mW} {c : mE} (h1 : Ou m w w1) (h : a = m ∨ a = m + 1 ∨ a = m + 8) : Ou m w (w1.set a c) := ⟨by rw [List.length_set]; exact h1.1, fun k hk => by
  have : a ≠ k := fun z => hk (by rw [← z]; exact h)
  rw [List.getElem?_set_ne this]; exact h1.2 k hk⟩
/-- what follows a command -/
def pRest (t : Nat → Int32) (e : Nat) : Nat → Nat → Option (List cmdT) × Nat
  | 0, h => (none, h)
  | k + 1, h => if h < e then (if sgn t e h = 59 then (match pCmd t e (h + 1) with
      | (some c, k2) => (match pRest t e k k2 with
        | (some l, k3) => (some (c :: l), k3)
        | (none, k3) => (none, k3))
      | (none, k2) => (none, k2)) else (none, h)) else (some [], h)
/-- the commands of a text of e signs, or where it fails -/
def pAll (t : Nat → Int32) (e : Nat) : Option (List cmdT) × Nat := match pCmd t e 0 with
  | (some c, k2) => (match pRest t e 61 k2 with
    | (some l, k3) => (some (c :: l), k3)
    | (none, k3) => (none, k3))
  | (none, k2) => (none, k2)
/-- the commands carried out: which one fails, and the state -/
def exL : List cmdT → sv → Option Nat × sv
  | [], y => (none, y)
  | c :: l, y => if cmdFlt y c = 1000010 then (match exL l (cmdDo y c) with
      | (some j, y2) => (some (j + 1), y2)
      | (none, y2) => (none, y2)) else (some 0, y)
section
variable {t : Nat → Int32} {e k h k2 k3 : Nat} {c : cmdT} {l : List cmdT}
theorem pRest_end (hh : ¬ h < e) : pRest t e (k + 1) h = (some [], h) := if_neg hh
theorem pRest_sep (hh : h < e) (hs : ¬ sgn t e h = 59) : pRest t e (k + 1) h = (none, h) := (if_pos hh).trans (if_neg hs)
theorem pRest_cn (hh : h < e) (hs : sgn t e h = 59) (hc : pCmd t e (h + 1) = (none, k2)) : pRest t e (k + 1) h = (none, k2) := by
  unfold pRest
  rw [if_pos hh, if_pos hs, hc]
theorem pRest_cs (hh : h < e) (hs : sgn t e h = 59) (hc : pCmd t e (h + 1) = (some c, k2)) (hr : pRest t e k k2 = (some l, k3)) : pRest t e (k + 1) h = (some (c :: l), k3) := by
  unfold pRest
  rw [if_pos hh, if_pos hs, hc]
  simp only [hr]
theorem pRest_cb (hh : h < e) (hs : sgn t e h = 59) (hc : pCmd t e (h + 1) = (some c, k2)) (hr : pRest t e k k2 = (none, k3)) : pRest t e (k + 1) h = (none, k3) := by
  unfold pRest
  rw [if_pos hh, if_pos hs, hc]
  simp only [hr]
end
set_option maxRecDepth 100000 in
set_option maxHeartbeats 4000000 in
theorem cm_loop0 {X : mC} {d : Nat} {F : Nat → Int32} {m : Nat} {ch ea fa sv0 tn ln : Int32} {tx : Nat → Int32} {e : Nat} (hC : Cx X RX9 cX9_commands (d + 10) 0 0) (hnl : mNL X = 2) (he : e ≤ 60) : ∀ (k h : Nat) (w : mW) (lt : Nat → Int32) (x : Int32), e - h < k → h ≤ e → w[m]? = some (mO 10 [.int 0, .int ch, .int ea, .int fa, .int sv0, .ref (m + 1), .ref (m + 2), .ref (m + 3), .ref (m + 4), .ref (m + 5), .ref (m + 6), .ref (m + 7), .ref (m + 8), .ref (m + 9), .ref (m + 10), .int tn, .int (nI h), .int (nI e), .int ln, .int 0, .int 0]) → w[m + 6]? = some (mI 0 60 tx) → w[m + 8]? = some (mI 0 8 lt) → w[m + 9]? = some (mI 0 41 wdF) → w[m + 10]? = some (mI 0 9 waF) → w[m + 1]? = some (mI 0 67 (F)) → (∀ (w' : mW) (lt' : Nat → Int32) (x' : Int32) (l : List cmdT) (k2 : Nat), pRest tx e k h = (some l, k2) → Ou m w w' → w'[m]? = some (mO 10 [.int 0, .int ch, .int ea, .int fa, .int sv0, .ref (m + 1), .ref (m + 2), .ref (m + 3), .ref (m + 4), .ref (m + 5), .ref (m + 6), .ref (m + 7), .ref (m + 8), .ref (m + 9), .ref (m + 10), .int tn, .int (nI k2), .int (nI e), .int ln, .int 0, .int 0]) → w'[m + 8]? = some (mI 0 8 lt') → w'[m + 1]? = some (mI 0 67 (F)) → Wp X 0 0 w' [(1, .int x'), (0, .ref m)] [] 64) → (∀ (w' : mW) (lt' : Nat → Int32) (x' : Int32) (k2 : Nat), pRest tx e k h = (none, k2) → Ou m w w' → w'[m]? = some (mO 10 [.int 0, .int ch, .int ea, .int fa, .int sv0, .ref (m + 1), .ref (m + 2), .ref (m + 3), .ref (m + 4), .ref (m + 5), .ref (m + 6), .ref (m + 7), .ref (m + 8), .ref (m + 9), .ref (m + 10), .int tn, .int (nI k2), .int (nI e), .int ln, .int 1, .int 0]) → w'[m + 8]? = some (mI 0 8 lt') → w'[m + 1]? = some (mI 0 67 (F)) → Wp X 0 0 w' [(1, .int x'), (0, .ref m)] [] 64) → Wp X 0 0 w [(1, .int x), (0, .ref m)] [] 16 := by
  intro k
  induction k with
  | zero =>
    intro h w lt x h9
    omega
  | succ k ih =>
    intro h w lt x h9 hh hm htx hlt hwd hwa hv kk1 kk0
    have hF0 : Ou m w w := Ou.rfl
    refine r_aload_n hC dX9_commands_16 rfl (j := 1) rfl ?_
    refine r_get hC gX9_commands_17 hm (v := .int 0) rfl ?_
    refine r_if_ne hC dX9_commands_20 (tgt := 64) (by decide) (fun h => absurd (by decide) h) (fun _ => ?_)
    refine r_aload_n hC dX9_commands_23 rfl (j := 1) rfl ?_
    refine r_get hC gX9_commands_24 hm (v := .int 0) rfl ?_
    refine r_if_ne hC dX9_commands_27 (tgt := 64) (by decide) (fun h => absurd (by decide) h) (fun _ => ?_)
    refine r_aload_n hC dX9_commands_30 rfl (j := 1) rfl ?_
    refine r_get hC gX9_commands_31 hm (v := .int (nI h)) rfl ?_
    refine r_aload_n hC dX9_commands_34 rfl (j := 1) rfl ?_
    refine r_get hC gX9_commands_35 hm (v := .int (nI e)) rfl ?_
    refine r_icmp_ge hC dX9_commands_38 (tgt := 64) (by decide) (fun c38 => ?_) (fun c38 => ?_)
    · exact kk1 w lt x [] h (pRest_end (fun z => absurd c38 (nI_ge z (by omega)))) hF0 hm hlt hv
    · refine r_aload_n hC dX9_commands_41 rfl (j := 1) rfl ?_
      refine r_bipush hC dX9_commands_42 (v := 59) (by decide) ?_
      have hlt9 : h < e := Nat.lt_of_not_le (fun z => c38 (nI_le z (by omega)))
      refine r_callV hC (vs := [.int 59]) vX9_commands_44 (sm_mark (d := d + 8) (c := 59) (h := h) (e := e) hm htx he hh) hm rfl rfl (by omega) (by omega) (by omega) (Nat.le_of_ble_eq_true rfl) (fun v_1 w_1 hP_1 hlen_1 => ?_) (fun _ _ h => h.elim)
      rcases hP_1 with ⟨hs_1, hv_1, ew_1⟩ | ⟨hs_1, hv_1, ew_1⟩
      · rw [hv_1]
        have hf1_m : w_1[m]? = some (mO 10 [.int 0, .int ch, .int ea, .int fa, .int sv0, .ref (m + 1), .ref (m + 2), .ref (m + 3), .ref (m + 4), .ref (m + 5), .ref (m + 6), .ref (m + 7), .ref (m + 8), .ref (m + 9), .ref (m + 10), .int tn, .int (nI (h + 1)), .int (nI e), .int ln, .int 0, .int 0]) := by rw [ew_1]; exact List.getElem?_set_self (lt_of_get hm)
        have hf1__m___6_ : w_1[(m + 6)]? = some (mI 0 60 tx) := by rw [ew_1, List.getElem?_set_ne (by omega)]; exact htx
        have hf1__m___8_ : w_1[(m + 8)]? = some (mI 0 8 lt) := by rw [ew_1, List.getElem?_set_ne (by omega)]; exact hlt
        have hf1__m___9_ : w_1[(m + 9)]? = some (mI 0 41 wdF) := by rw [ew_1, List.getElem?_set_ne (by omega)]; exact hwd
        have hf1__m___10_ : w_1[(m + 10)]? = some (mI 0 9 waF) := by rw [ew_1, List.getElem?_set_ne (by omega)]; exact hwa
        have hf1__m___1_ : w_1[(m + 1)]? = some (mI 0 67 F) := by rw [ew_1, List.getElem?_set_ne (by omega)]; exact hv
        have hF_1 : Ou m w w_1 := by rw [ew_1]; exact (Ou.set hF0 (by omega))
        show Wp X 0 0 w_1 [(1, .int x), (0, .ref m)] [] 47
        refine r_aload_n hC dX9_commands_47 rfl (j := 1) rfl ?_
        refine r_get hC gX9_commands_48 hf1_m (v := .int 0) rfl ?_
        refine r_if_ne hC dX9_commands_51 (tgt := 58) (by decide) (fun h => absurd (by decide) h) (fun _ => ?_)
        refine r_aload_n hC dX9_commands_54 rfl (j := 1) rfl ?_
        refine r_callV hC (vs := []) vX9_commands_55 (sm_command0 (d := d) (h := h + 1) (e := e) hf1_m hf1__m___6_ hf1__m___8_ hf1__m___9_ hf1__m___10_ he (sgn_lt hs_1 (by decide))) hf1_m rfl rfl (by omega) (by omega) (by omega) (Nat.le_of_ble_eq_true rfl) (fun v_2 w_2 hP_2 hlen_2 => ?_) (fun _ _ h => h.elim)
        rcases hP_2 with ⟨C_2, k_2, lt_2, hc_2, hk2_2, hk_2, hv_2, ew_2⟩ | ⟨k_2, lt_2, hc_2, hk_2, hv_2, ew_2⟩
        · rw [hv_2]
          have hf2_m : w_2[m]? = some (mO 10 [.int 0, .int ch, .int ea, .int fa, .int sv0, .ref (m + 1), .ref (m + 2), .ref (m + 3), .ref (m + 4), .ref (m + 5), .ref (m + 6), .ref (m + 7), .ref (m + 8), .ref (m + 9), .ref (m + 10), .int tn, .int (nI k_2), .int (nI e), .int ln, .int 0, .int 0]) := by rw [ew_2]; exact List.getElem?_set_self (by simp only [List.length_set]; exact lt_of_get hf1_m)
          have hf2__m___6_ : w_2[(m + 6)]? = some (mI 0 60 tx) := by rw [ew_2, List.getElem?_set_ne (by omega), List.getElem?_set_ne (by omega)]; exact hf1__m___6_
          have hf2__m___8_ : w_2[(m + 8)]? = some (mI 0 8 lt_2) := by rw [ew_2, List.getElem?_set_ne (by omega)]; exact List.getElem?_set_self (lt_of_get hf1__m___8_)
          have hf2__m___9_ : w_2[(m + 9)]? = some (mI 0 41 wdF) := by rw [ew_2, List.getElem?_set_ne (by omega), List.getElem?_set_ne (by omega)]; exact hf1__m___9_
          have hf2__m___10_ : w_2[(m + 10)]? = some (mI 0 9 waF) := by rw [ew_2, List.getElem?_set_ne (by omega), List.getElem?_set_ne (by omega)]; exact hf1__m___10_
          have hf2__m___1_ : w_2[(m + 1)]? = some (mI 0 67 F) := by rw [ew_2, List.getElem?_set_ne (by omega), List.getElem?_set_ne (by omega)]; exact hf1__m___1_
          have hF_2 : Ou m w w_2 := by rw [ew_2]; exact (Ou.set (Ou.set hF_1 (by omega)) (by omega))
          show Wp X 0 0 w_2 [(1, .int x), (0, .ref m)] [] 58
          refine r_iinc hC dX9_commands_58 (j := 0) rfl (v := x + 1) rfl (by rw [hnl]; decide) (L' := [(1, .int (x + 1)), (0, .ref m)]) rfl ?_
          refine r_goto hC dX9_commands_61 (tgt := 16) (by decide) ?_
          refine ih k_2 w_2 lt_2 _ (by omega) hk_2 hf2_m hf2__m___6_ hf2__m___8_ hf2__m___9_ hf2__m___10_ hf2__m___1_ (fun w' lt' x' l k2 z1 z2 z3 z4 z5 => ?_) (fun w' lt' x' k2 z1 z2 z3 z4 z5 => ?_)
          · exact kk1 w' lt' x' _ k2 (pRest_cs hlt9 hs_1 hc_2 z1) (hF_2.trans z2) z3 z4 z5
          · exact kk0 w' lt' x' k2 (pRest_cb hlt9 hs_1 hc_2 z1) (hF_2.trans z2) z3 z4 z5
        · rw [hv_2]
          have hf2_m : w_2[m]? = some (mO 10 [.int 0, .int ch, .int ea, .int fa, .int sv0, .ref (m + 1), .ref (m + 2), .ref (m + 3), .ref (m + 4), .ref (m + 5), .ref (m + 6), .ref (m + 7), .ref (m + 8), .ref (m + 9), .ref (m + 10), .int tn, .int (nI k_2), .int (nI e), .int ln, .int 1, .int 0]) := by rw [ew_2]; exact List.getElem?_set_self (by simp only [List.length_set]; exact lt_of_get hf1_m)
          have hf2__m___6_ : w_2[(m + 6)]? = some (mI 0 60 tx) := by rw [ew_2, List.getElem?_set_ne (by omega), List.getElem?_set_ne (by omega)]; exact hf1__m___6_
          have hf2__m___8_ : w_2[(m + 8)]? = some (mI 0 8 lt_2) := by rw [ew_2, List.getElem?_set_ne (by omega)]; exact List.getElem?_set_self (lt_of_get hf1__m___8_)
          have hf2__m___9_ : w_2[(m + 9)]? = some (mI 0 41 wdF) := by rw [ew_2, List.getElem?_set_ne (by omega), List.getElem?_set_ne (by omega)]; exact hf1__m___9_
          have hf2__m___10_ : w_2[(m + 10)]? = some (mI 0 9 waF) := by rw [ew_2, List.getElem?_set_ne (by omega), List.getElem?_set_ne (by omega)]; exact hf1__m___10_
          have hf2__m___1_ : w_2[(m + 1)]? = some (mI 0 67 F) := by rw [ew_2, List.getElem?_set_ne (by omega), List.getElem?_set_ne (by omega)]; exact hf1__m___1_
          have hF_2 : Ou m w w_2 := by rw [ew_2]; exact (Ou.set (Ou.set hF_1 (by omega)) (by omega))
          show Wp X 0 0 w_2 [(1, .int x), (0, .ref m)] [] 58
          refine r_iinc hC dX9_commands_58 (j := 0) rfl (v := x + 1) rfl (by rw [hnl]; decide) (L' := [(1, .int (x + 1)), (0, .ref m)]) rfl ?_
          refine r_goto hC dX9_commands_61 (tgt := 16) (by decide) ?_
          refine r_aload_n hC dX9_commands_16 rfl (j := 1) rfl ?_
          refine r_get hC gX9_commands_17 hf2_m (v := .int 1) rfl ?_
          refine r_if_ne hC dX9_commands_20 (tgt := 64) (by decide) (fun _ => ?_) (fun h => absurd h (by decide))
          exact kk0 _ lt_2 _ k_2 (pRest_cn hlt9 hs_1 hc_2) hF_2 hf2_m hf2__m___8_ hf2__m___1_
      · rw [hv_1]
        have hf1_m : w_1[m]? = some (mO 10 [.int 0, .int ch, .int ea, .int fa, .int sv0, .ref (m + 1), .ref (m + 2), .ref (m + 3), .ref (m + 4), .ref (m + 5), .ref (m + 6), .ref (m + 7), .ref (m + 8), .ref (m + 9), .ref (m + 10), .int tn, .int (nI h), .int (nI e), .int ln, .int 1, .int 0]) := by rw [ew_1]; exact List.getElem?_set_self (lt_of_get hm)
        have hf1__m___6_ : w_1[(m + 6)]? = some (mI 0 60 tx) := by rw [ew_1, List.getElem?_set_ne (by omega)]; exact htx
        have hf1__m___8_ : w_1[(m + 8)]? = some (mI 0 8 lt) := by rw [ew_1, List.getElem?_set_ne (by omega)]; exact hlt
        have hf1__m___9_ : w_1[(m + 9)]? = some (mI 0 41 wdF) := by rw [ew_1, List.getElem?_set_ne (by omega)]; exact hwd
        have hf1__m___10_ : w_1[(m + 10)]? = some (mI 0 9 waF) := by rw [ew_1, List.getElem?_set_ne (by omega)]; exact hwa
        have hf1__m___1_ : w_1[(m + 1)]? = some (mI 0 67 F) := by rw [ew_1, List.getElem?_set_ne (by omega)]; exact hv
        have hF_1 : Ou m w w_1 := by rw [ew_1]; exact (Ou.set hF0 (by omega))
        show Wp X 0 0 w_1 [(1, .int x), (0, .ref m)] [] 47
        refine r_aload_n hC dX9_commands_47 rfl (j := 1) rfl ?_
        refine r_get hC gX9_commands_48 hf1_m (v := .int 1) rfl ?_
        refine r_if_ne hC dX9_commands_51 (tgt := 58) (by decide) (fun _ => ?_) (fun h => absurd h (by decide))
        refine r_iinc hC dX9_commands_58 (j := 0) rfl (v := x + 1) rfl (by rw [hnl]; decide) (L' := [(1, .int (x + 1)), (0, .ref m)]) rfl ?_
        refine r_goto hC dX9_commands_61 (tgt := 16) (by decide) ?_
        refine r_aload_n hC dX9_commands_16 rfl (j := 1) rfl ?_
        refine r_get hC gX9_commands_17 hf1_m (v := .int 1) rfl ?_
        refine r_if_ne hC dX9_commands_20 (tgt := 64) (by decide) (fun _ => ?_) (fun h => absurd h (by decide))
        exact kk0 _ lt _ h (pRest_sep hlt9 hs_1) hF_1 hf1_m hf1__m___8_ hf1__m___1_
theorem exL_cn {c : cmdT} {l : List cmdT} {y y2 : sv} (h : cmdFlt y c = 1000010) (hx : exL l (cmdDo y c) = (none, y2)) : exL (c :: l) y = (none, y2) := by
  unfold exL
  rw [if_pos h, hx]
theorem exL_cs {c : cmdT} {l : List cmdT} {y y2 : sv} {j : Nat} (h : cmdFlt y c = 1000010) (hx : exL l (cmdDo y c) = (some j, y2)) : exL (c :: l) y = (some (j + 1), y2) := by
  unfold exL
  rw [if_pos h, hx]
set_option maxRecDepth 100000 in
set_option maxHeartbeats 4000000 in
theorem cm_loop1 {X : mC} {d : Nat} {m : Nat} {ch ea fa sv0 tn ln : Int32} {tx : Nat → Int32} {e : Nat} (hC : Cx X RX9 cX9_commands (d + 10) 0 0) (hnl : mNL X = 2) (he : e ≤ 60) : ∀ (k h : Nat) (w : mW) (lt : Nat → Int32) (n : Nat) (l : List cmdT) (k3 : Nat) (f g : Nat → Int32) (sl op lo : Int32) (hd rs : Nat → Int32) (np : Nat) (tp av lg pl tk : Int32), pRest tx e k h = (some l, k3) → SInv ((f, g, sl, op, lo), hd, rs, np, tp, av, lg, pl, tk) → e - h < k → h ≤ e → w[m]? = some (mO 10 [.int 0, .int ch, .int ea, .int fa, .int sv0, .ref (m + 1), .ref (m + 2), .ref (m + 3), .ref (m + 4), .ref (m + 5), .ref (m + 6), .ref (m + 7), .ref (m + 8), .ref (m + 9), .ref (m + 10), .int tn, .int (nI h), .int (nI e), .int ln, .int 0, .int 1]) → w[m + 6]? = some (mI 0 60 tx) → w[m + 8]? = some (mI 0 8 lt) → w[m + 9]? = some (mI 0 41 wdF) → w[m + 10]? = some (mI 0 9 waF) → w[m + 1]? = some (mI 0 67 (enc ((f, g, sl, op, lo), hd, rs, np, tp, av, lg, pl, tk))) → (∀ (w' : mW) (lt' : Nat → Int32) (y' : sv) (k2 : Nat), exL l ((f, g, sl, op, lo), hd, rs, np, tp, av, lg, pl, tk) = (none, y') → Ou m w w' → w'[m]? = some (mO 10 [.int 0, .int ch, .int ea, .int fa, .int sv0, .ref (m + 1), .ref (m + 2), .ref (m + 3), .ref (m + 4), .ref (m + 5), .ref (m + 6), .ref (m + 7), .ref (m + 8), .ref (m + 9), .ref (m + 10), .int tn, .int (nI k2), .int (nI e), .int ln, .int 0, .int 1]) → w'[m + 8]? = some (mI 0 8 lt') → w'[m + 1]? = some (mI 0 67 (enc y')) → Wp X 0 0 w' [(1, .int (nI (n + l.length))), (0, .ref m)] [] 64) → (∀ (w' : mW) (lt' : Nat → Int32) (y' : sv) (k2 j : Nat) (r : Int32), exL l ((f, g, sl, op, lo), hd, rs, np, tp, av, lg, pl, tk) = (some j, y') → ¬ r = 0 → Ou m w w' → w'[m]? = some (mO 10 [.int r, .int ch, .int ea, .int fa, .int sv0, .ref (m + 1), .ref (m + 2), .ref (m + 3), .ref (m + 4), .ref (m + 5), .ref (m + 6), .ref (m + 7), .ref (m + 8), .ref (m + 9), .ref (m + 10), .int tn, .int (nI k2), .int (nI e), .int ln, .int 0, .int 1]) → w'[m + 8]? = some (mI 0 8 lt') → w'[m + 1]? = some (mI 0 67 (enc y')) → Wp X 0 0 w' [(1, .int (nI (n + j + 1))), (0, .ref m)] [] 64) → Wp X 0 0 w [(1, .int (nI n)), (0, .ref m)] [] 16 := by
  intro k
  induction k with
  | zero =>
    intro h w lt n l k3 f g sl op lo hd rs np tp av lg pl tk hr hI h9
    omega
  | succ k ih =>
    intro h w lt n l k3 f g sl op lo hd rs np tp av lg pl tk hr hI h9 hh hm htx hlt hwd hwa hv kk1 kk0
    have hF0 : Ou m w w := Ou.rfl
    refine r_aload_n hC dX9_commands_16 rfl (j := 1) rfl ?_
    refine r_get hC gX9_commands_17 hm (v := .int 0) rfl ?_
    refine r_if_ne hC dX9_commands_20 (tgt := 64) (by decide) (fun h => absurd (by decide) h) (fun _ => ?_)
    refine r_aload_n hC dX9_commands_23 rfl (j := 1) rfl ?_
    refine r_get hC gX9_commands_24 hm (v := .int 0) rfl ?_
    refine r_if_ne hC dX9_commands_27 (tgt := 64) (by decide) (fun h => absurd (by decide) h) (fun _ => ?_)
    refine r_aload_n hC dX9_commands_30 rfl (j := 1) rfl ?_
    refine r_get hC gX9_commands_31 hm (v := .int (nI h)) rfl ?_
    refine r_aload_n hC dX9_commands_34 rfl (j := 1) rfl ?_
    refine r_get hC gX9_commands_35 hm (v := .int (nI e)) rfl ?_
    refine r_icmp_ge hC dX9_commands_38 (tgt := 64) (by decide) (fun c38 => ?_) (fun c38 => ?_)
    · rw [pRest_end (fun z => absurd c38 (nI_ge z (by omega)))] at hr
      cases hr
      exact kk1 w lt _ h rfl hF0 hm hlt hv
    · refine r_aload_n hC dX9_commands_41 rfl (j := 1) rfl ?_
      refine r_bipush hC dX9_commands_42 (v := 59) (by decide) ?_
      have hlt9 : h < e := Nat.lt_of_not_le (fun z => c38 (nI_le z (by omega)))
      refine r_callV hC (vs := [.int 59]) vX9_commands_44 (sm_mark (d := d + 8) (c := 59) (h := h) (e := e) hm htx he hh) hm rfl rfl (by omega) (by omega) (by omega) (Nat.le_of_ble_eq_true rfl) (fun v_1 w_1 hP_1 hlen_1 => ?_) (fun _ _ h => h.elim)
      rcases hP_1 with ⟨hs_1, hv_1, ew_1⟩ | ⟨hs_1, hv_1, ew_1⟩
      · rw [hv_1]
        have hf1_m : w_1[m]? = some (mO 10 [.int 0, .int ch, .int ea, .int fa, .int sv0, .ref (m + 1), .ref (m + 2), .ref (m + 3), .ref (m + 4), .ref (m + 5), .ref (m + 6), .ref (m + 7), .ref (m + 8), .ref (m + 9), .ref (m + 10), .int tn, .int (nI (h + 1)), .int (nI e), .int ln, .int 0, .int 1]) := by rw [ew_1]; exact List.getElem?_set_self (lt_of_get hm)
        have hf1__m___6_ : w_1[(m + 6)]? = some (mI 0 60 tx) := by rw [ew_1, List.getElem?_set_ne (by omega)]; exact htx
        have hf1__m___8_ : w_1[(m + 8)]? = some (mI 0 8 lt) := by rw [ew_1, List.getElem?_set_ne (by omega)]; exact hlt
        have hf1__m___9_ : w_1[(m + 9)]? = some (mI 0 41 wdF) := by rw [ew_1, List.getElem?_set_ne (by omega)]; exact hwd
        have hf1__m___10_ : w_1[(m + 10)]? = some (mI 0 9 waF) := by rw [ew_1, List.getElem?_set_ne (by omega)]; exact hwa
        have hf1__m___1_ : w_1[(m + 1)]? = some (mI 0 67 (enc ((f, g, sl, op, lo), hd, rs, np, tp, av, lg, pl, tk))) := by rw [ew_1, List.getElem?_set_ne (by omega)]; exact hv
        have hF_1 : Ou m w w_1 := by rw [ew_1]; exact (Ou.set hF0 (by omega))
        show Wp X 0 0 w_1 [(1, .int (nI n)), (0, .ref m)] [] 47
        refine r_aload_n hC dX9_commands_47 rfl (j := 1) rfl ?_
        refine r_get hC gX9_commands_48 hf1_m (v := .int 0) rfl ?_
        refine r_if_ne hC dX9_commands_51 (tgt := 58) (by decide) (fun h => absurd (by decide) h) (fun _ => ?_)
        refine r_aload_n hC dX9_commands_54 rfl (j := 1) rfl ?_
        refine r_callV hC (vs := []) vX9_commands_55 (sm_command1 (d := d) (h := h + 1) (e := e) hf1_m hf1__m___1_ hf1__m___6_ hf1__m___8_ hf1__m___9_ hf1__m___10_ he (sgn_lt hs_1 (by decide)) hI.1.2.1 hI.1.2.2.1 hI.2.1 hI.2.2 (fun C _ _ => cmd_T9 hI)) hf1_m rfl rfl (by omega) (by omega) (by omega) (Nat.le_of_ble_eq_true rfl) (fun v_2 w_2 hP_2 hlen_2 => ?_) (fun _ _ h => h.elim)
        rcases hP_2 with ⟨C_2, k_2, lt_2, hc_2, hk2_2, hk_2, hz_2, hv_2, ew_2⟩ | ⟨C_2, k_2, lt_2, r_2, hc_2, hk2_2, hk_2, hz_2, hr_2, hv_2, ew_2⟩ | ⟨k_2, lt_2, hc_2, hk_2, hv_2, ew_2⟩
        · rw [hv_2]
          have hf2_m : w_2[m]? = some (mO 10 [.int 0, .int ch, .int ea, .int fa, .int sv0, .ref (m + 1), .ref (m + 2), .ref (m + 3), .ref (m + 4), .ref (m + 5), .ref (m + 6), .ref (m + 7), .ref (m + 8), .ref (m + 9), .ref (m + 10), .int tn, .int (nI k_2), .int (nI e), .int ln, .int 0, .int 1]) := by rw [ew_2, List.getElem?_set_ne (by omega)]; exact List.getElem?_set_self (by simp only [List.length_set]; exact lt_of_get hf1_m)
          have hf2__m___6_ : w_2[(m + 6)]? = some (mI 0 60 tx) := by rw [ew_2, List.getElem?_set_ne (by omega), List.getElem?_set_ne (by omega), List.getElem?_set_ne (by omega)]; exact hf1__m___6_
          have hf2__m___8_ : w_2[(m + 8)]? = some (mI 0 8 lt_2) := by rw [ew_2, List.getElem?_set_ne (by omega), List.getElem?_set_ne (by omega)]; exact List.getElem?_set_self (lt_of_get hf1__m___8_)
          have hf2__m___9_ : w_2[(m + 9)]? = some (mI 0 41 wdF) := by rw [ew_2, List.getElem?_set_ne (by omega), List.getElem?_set_ne (by omega), List.getElem?_set_ne (by omega)]; exact hf1__m___9_
          have hf2__m___10_ : w_2[(m + 10)]? = some (mI 0 9 waF) := by rw [ew_2, List.getElem?_set_ne (by omega), List.getElem?_set_ne (by omega), List.getElem?_set_ne (by omega)]; exact hf1__m___10_
          have hf2__m___1_ : w_2[(m + 1)]? = some (mI 0 67 (enc (((cmdDo ((f, g, sl, op, lo), hd, rs, np, tp, av, lg, pl, tk) C_2).1.1, (cmdDo ((f, g, sl, op, lo), hd, rs, np, tp, av, lg, pl, tk) C_2).1.2.1, (cmdDo ((f, g, sl, op, lo), hd, rs, np, tp, av, lg, pl, tk) C_2).1.2.2.1, (cmdDo ((f, g, sl, op, lo), hd, rs, np, tp, av, lg, pl, tk) C_2).1.2.2.2.1, (cmdDo ((f, g, sl, op, lo), hd, rs, np, tp, av, lg, pl, tk) C_2).1.2.2.2.2), (cmdDo ((f, g, sl, op, lo), hd, rs, np, tp, av, lg, pl, tk) C_2).2.1, (cmdDo ((f, g, sl, op, lo), hd, rs, np, tp, av, lg, pl, tk) C_2).2.2.1, (cmdDo ((f, g, sl, op, lo), hd, rs, np, tp, av, lg, pl, tk) C_2).2.2.2.1, (cmdDo ((f, g, sl, op, lo), hd, rs, np, tp, av, lg, pl, tk) C_2).2.2.2.2.1, (cmdDo ((f, g, sl, op, lo), hd, rs, np, tp, av, lg, pl, tk) C_2).2.2.2.2.2.1, (cmdDo ((f, g, sl, op, lo), hd, rs, np, tp, av, lg, pl, tk) C_2).2.2.2.2.2.2.1, (cmdDo ((f, g, sl, op, lo), hd, rs, np, tp, av, lg, pl, tk) C_2).2.2.2.2.2.2.2.1, (cmdDo ((f, g, sl, op, lo), hd, rs, np, tp, av, lg, pl, tk) C_2).2.2.2.2.2.2.2.2))) := by rw [ew_2]; exact List.getElem?_set_self (by simp only [List.length_set]; exact lt_of_get hf1__m___1_)
          have hF_2 : Ou m w w_2 := by rw [ew_2]; exact (Ou.set (Ou.set (Ou.set hF_1 (by omega)) (by omega)) (by omega))
          show Wp X 0 0 w_2 [(1, .int (nI n)), (0, .ref m)] [] 58
          refine r_iinc hC dX9_commands_58 (j := 0) rfl (v := nI (n + 1)) (nI_succ n).symm (by rw [hnl]; decide) (L' := [(1, .int (nI (n + 1))), (0, .ref m)]) rfl ?_
          refine r_goto hC dX9_commands_61 (tgt := 16) (by decide) ?_
          cases hr9 : pRest tx e k k_2 with
          | mk o k4 =>
            cases o with
            | none => exact absurd ((pRest_cb hlt9 hs_1 hc_2 hr9).symm.trans hr) (by simp)
            | some l9 =>
              have e5 := (pRest_cs hlt9 hs_1 hc_2 hr9).symm.trans hr
              simp only [Prod.mk.injEq, Option.some.injEq] at e5
              obtain ⟨rfl, rfl⟩ := e5
              refine ih k_2 w_2 lt_2 (n + 1) l9 k4 _ _ _ _ _ _ _ _ _ _ _ _ _ hr9 (cmd_inv hI hz_2) (by omega) hk_2 hf2_m hf2__m___6_ hf2__m___8_ hf2__m___9_ hf2__m___10_ hf2__m___1_ (fun w' lt' y' k2 z1 z2 z3 z4 z5 => ?_) (fun w' lt' y' k2 j r z1 z0 z2 z3 z4 z5 => ?_)
              · have := kk1 w' lt' y' k2 (exL_cn hz_2 z1) (hF_2.trans z2) z3 z4 z5
                rw [show n + (C_2 :: l9).length = n + 1 + l9.length from by rw [List.length_cons]; omega] at this
                exact this
              · have := kk0 w' lt' y' k2 (j + 1) r (exL_cs hz_2 z1) z0 (hF_2.trans z2) z3 z4 z5
                rw [show n + (j + 1) + 1 = n + 1 + j + 1 from by omega] at this
                exact this
        · rw [hv_2]
          have hf2_m : w_2[m]? = some (mO 10 [.int r_2, .int ch, .int ea, .int fa, .int sv0, .ref (m + 1), .ref (m + 2), .ref (m + 3), .ref (m + 4), .ref (m + 5), .ref (m + 6), .ref (m + 7), .ref (m + 8), .ref (m + 9), .ref (m + 10), .int tn, .int (nI k_2), .int (nI e), .int ln, .int 0, .int 1]) := by rw [ew_2]; exact List.getElem?_set_self (by simp only [List.length_set]; exact lt_of_get hf1_m)
          have hf2__m___6_ : w_2[(m + 6)]? = some (mI 0 60 tx) := by rw [ew_2, List.getElem?_set_ne (by omega), List.getElem?_set_ne (by omega)]; exact hf1__m___6_
          have hf2__m___8_ : w_2[(m + 8)]? = some (mI 0 8 lt_2) := by rw [ew_2, List.getElem?_set_ne (by omega)]; exact List.getElem?_set_self (lt_of_get hf1__m___8_)
          have hf2__m___9_ : w_2[(m + 9)]? = some (mI 0 41 wdF) := by rw [ew_2, List.getElem?_set_ne (by omega), List.getElem?_set_ne (by omega)]; exact hf1__m___9_
          have hf2__m___10_ : w_2[(m + 10)]? = some (mI 0 9 waF) := by rw [ew_2, List.getElem?_set_ne (by omega), List.getElem?_set_ne (by omega)]; exact hf1__m___10_
          have hf2__m___1_ : w_2[(m + 1)]? = some (mI 0 67 (enc ((f, g, sl, op, lo), hd, rs, np, tp, av, lg, pl, tk))) := by rw [ew_2, List.getElem?_set_ne (by omega), List.getElem?_set_ne (by omega)]; exact hf1__m___1_
          have hF_2 : Ou m w w_2 := by rw [ew_2]; exact (Ou.set (Ou.set hF_1 (by omega)) (by omega))
          show Wp X 0 0 w_2 [(1, .int (nI n)), (0, .ref m)] [] 58
          refine r_iinc hC dX9_commands_58 (j := 0) rfl (v := nI (n + 1)) (nI_succ n).symm (by rw [hnl]; decide) (L' := [(1, .int (nI (n + 1))), (0, .ref m)]) rfl ?_
          refine r_goto hC dX9_commands_61 (tgt := 16) (by decide) ?_
          refine r_aload_n hC dX9_commands_16 rfl (j := 1) rfl ?_
          refine r_get hC gX9_commands_17 hf2_m (v := .int 0) rfl ?_
          refine r_if_ne hC dX9_commands_20 (tgt := 64) (by decide) (fun h => absurd (by decide) h) (fun _ => ?_)
          refine r_aload_n hC dX9_commands_23 rfl (j := 1) rfl ?_
          refine r_get hC gX9_commands_24 hf2_m (v := .int r_2) rfl ?_
          refine r_if_ne hC dX9_commands_27 (tgt := 64) (by decide) (fun _ => ?_) (fun h => absurd h hr_2)
          cases hr9 : pRest tx e k k_2 with
          | mk o k4 =>
            cases o with
            | none => exact absurd ((pRest_cb hlt9 hs_1 hc_2 hr9).symm.trans hr) (by simp)
            | some l9 =>
              have e5 := (pRest_cs hlt9 hs_1 hc_2 hr9).symm.trans hr
              simp only [Prod.mk.injEq, Option.some.injEq] at e5
              obtain ⟨rfl, rfl⟩ := e5
              exact kk0 _ lt_2 _ k_2 0 r_2 (if_neg hz_2) hr_2 hF_2 hf2_m hf2__m___8_ hf2__m___1_
        · rw [hv_2]
          have hf2_m : w_2[m]? = some (mO 10 [.int 0, .int ch, .int ea, .int fa, .int sv0, .ref (m + 1), .ref (m + 2), .ref (m + 3), .ref (m + 4), .ref (m + 5), .ref (m + 6), .ref (m + 7), .ref (m + 8), .ref (m + 9), .ref (m + 10), .int tn, .int (nI k_2), .int (nI e), .int ln, .int 1, .int 1]) := by rw [ew_2]; exact List.getElem?_set_self (by simp only [List.length_set]; exact lt_of_get hf1_m)
          have hf2__m___6_ : w_2[(m + 6)]? = some (mI 0 60 tx) := by rw [ew_2, List.getElem?_set_ne (by omega), List.getElem?_set_ne (by omega)]; exact hf1__m___6_
          have hf2__m___8_ : w_2[(m + 8)]? = some (mI 0 8 lt_2) := by rw [ew_2, List.getElem?_set_ne (by omega)]; exact List.getElem?_set_self (lt_of_get hf1__m___8_)
          have hf2__m___9_ : w_2[(m + 9)]? = some (mI 0 41 wdF) := by rw [ew_2, List.getElem?_set_ne (by omega), List.getElem?_set_ne (by omega)]; exact hf1__m___9_
          have hf2__m___10_ : w_2[(m + 10)]? = some (mI 0 9 waF) := by rw [ew_2, List.getElem?_set_ne (by omega), List.getElem?_set_ne (by omega)]; exact hf1__m___10_
          have hf2__m___1_ : w_2[(m + 1)]? = some (mI 0 67 (enc ((f, g, sl, op, lo), hd, rs, np, tp, av, lg, pl, tk))) := by rw [ew_2, List.getElem?_set_ne (by omega), List.getElem?_set_ne (by omega)]; exact hf1__m___1_
          have hF_2 : Ou m w w_2 := by rw [ew_2]; exact (Ou.set (Ou.set hF_1 (by omega)) (by omega))
          show Wp X 0 0 w_2 [(1, .int (nI n)), (0, .ref m)] [] 58
          refine r_iinc hC dX9_commands_58 (j := 0) rfl (v := nI (n + 1)) (nI_succ n).symm (by rw [hnl]; decide) (L' := [(1, .int (nI (n + 1))), (0, .ref m)]) rfl ?_
          refine r_goto hC dX9_commands_61 (tgt := 16) (by decide) ?_
          refine r_aload_n hC dX9_commands_16 rfl (j := 1) rfl ?_
          refine r_get hC gX9_commands_17 hf2_m (v := .int 1) rfl ?_
          refine r_if_ne hC dX9_commands_20 (tgt := 64) (by decide) (fun _ => ?_) (fun h => absurd h (by decide))
          exact absurd ((pRest_cn hlt9 hs_1 hc_2).symm.trans hr) (by simp)
      · rw [hv_1]
        have hf1_m : w_1[m]? = some (mO 10 [.int 0, .int ch, .int ea, .int fa, .int sv0, .ref (m + 1), .ref (m + 2), .ref (m + 3), .ref (m + 4), .ref (m + 5), .ref (m + 6), .ref (m + 7), .ref (m + 8), .ref (m + 9), .ref (m + 10), .int tn, .int (nI h), .int (nI e), .int ln, .int 1, .int 1]) := by rw [ew_1]; exact List.getElem?_set_self (lt_of_get hm)
        have hf1__m___6_ : w_1[(m + 6)]? = some (mI 0 60 tx) := by rw [ew_1, List.getElem?_set_ne (by omega)]; exact htx
        have hf1__m___8_ : w_1[(m + 8)]? = some (mI 0 8 lt) := by rw [ew_1, List.getElem?_set_ne (by omega)]; exact hlt
        have hf1__m___9_ : w_1[(m + 9)]? = some (mI 0 41 wdF) := by rw [ew_1, List.getElem?_set_ne (by omega)]; exact hwd
        have hf1__m___10_ : w_1[(m + 10)]? = some (mI 0 9 waF) := by rw [ew_1, List.getElem?_set_ne (by omega)]; exact hwa
        have hf1__m___1_ : w_1[(m + 1)]? = some (mI 0 67 (enc ((f, g, sl, op, lo), hd, rs, np, tp, av, lg, pl, tk))) := by rw [ew_1, List.getElem?_set_ne (by omega)]; exact hv
        have hF_1 : Ou m w w_1 := by rw [ew_1]; exact (Ou.set hF0 (by omega))
        show Wp X 0 0 w_1 [(1, .int (nI n)), (0, .ref m)] [] 47
        refine r_aload_n hC dX9_commands_47 rfl (j := 1) rfl ?_
        refine r_get hC gX9_commands_48 hf1_m (v := .int 1) rfl ?_
        refine r_if_ne hC dX9_commands_51 (tgt := 58) (by decide) (fun _ => ?_) (fun h => absurd h (by decide))
        refine r_iinc hC dX9_commands_58 (j := 0) rfl (v := nI (n + 1)) (nI_succ n).symm (by rw [hnl]; decide) (L' := [(1, .int (nI (n + 1))), (0, .ref m)]) rfl ?_
        refine r_goto hC dX9_commands_61 (tgt := 16) (by decide) ?_
        refine r_aload_n hC dX9_commands_16 rfl (j := 1) rfl ?_
        refine r_get hC gX9_commands_17 hf1_m (v := .int 1) rfl ?_
        refine r_if_ne hC dX9_commands_20 (tgt := 64) (by decide) (fun _ => ?_) (fun h => absurd h (by decide))
        exact absurd ((pRest_sep hlt9 hs_1).symm.trans hr) (by simp)
end TX6
