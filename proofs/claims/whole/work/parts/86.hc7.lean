section HC7
theorem cKey_lt {t : Nat → Int32} {e h : Nat} : ∀ {ws : List (List Int32)} {c lg i k : Nat}, cKey t e h ws c lg = (some i, k) → i < c + ws.length
  | [], c, lg, i, k, q => by cases q
  | w :: r, c, lg, i, k, q => by
    rw [List.length_cons]
    by_cases z : cAl t e w h = w.length
    · rw [cKey_p z] at q
      cases q
      omega
    · rw [cKey_n z] at q
      have := cKey_lt q
      omega
theorem cArgs_kw {t : Nat → Int32} {e : Nat} : ∀ {ms : List Nat} {g h k : Nat} {c c' : cmdT}, cArgs t e ms g c h = (some c', k) → c'.1 = c.1
  | [], g, h, k, c, c', q => by
    cases q
    rfl
  | m :: ms, g, h, k, c, c', q => by
    unfold cArgs at q
    split at q
    · have := cArgs_kw q
      rw [this]
      unfold setA
      split <;> rfl
    · cases q
theorem cCmd_lt {t : Nat → Int32} {e h k : Nat} {c0 c : cmdT} (q : cCmd t e h c0 = (some c, k)) : c.1 < 8 := by
  unfold cCmd at q
  split at q
  · rename_i hk
    have h1 := cKey_lt hk
    have h2 := cArgs_kw q
    have h3 : kwL.length = 8 := rfl
    rw [h2]
    show _ < 8
    omega
  · cases q
theorem cAllR_lt {t : Nat → Int32} {e : Nat} {cs : Nat → cmdT} : ∀ {f n h k : Nat} {l : List cmdT}, cAllR t e cs f n h = (some l, k) → ∀ c ∈ l, c.1 < 8
  | 0, n, h, k, l, q => by cases q
  | f + 1, n, h, k, l, q => by
    intro c hc
    unfold cAllR at q
    split at q
    · cases q
    · rename_i hcm
      split at q
      · cases q
        rcases List.mem_cons.mp hc with z | z
        · rw [z]; exact cCmd_lt hcm
        · cases z
      · split at q
        · split at q
          · rename_i hr
            cases q
            rcases List.mem_cons.mp hc with z | z
            · rw [z]; exact cCmd_lt hcm
            · exact cAllR_lt hr c z
          · cases q
        · cases q
theorem all_n {d t k : Nat} {w : mW} {tx : List Nat} {cn ps : Int32} {cs : Nat → cmdT} (H : TxAt w t tx cn ps cs) (hl : tx.length ≤ 60) (hr : cAllR (tT tx) tx.length cs 12 0 0 = (none, k)) : Sp (d + 8) yX2_readAll cX2_readAll 1 (some .boolean) [.ref t] w 0 0 (fun v w' => v = some (.int 0) ∧ ∃ cn' cs', TxTo w w' t tx cn' (nI k) cs') noX :=
  (sx_all (d := d) H hl).imp (fun v w' h => by
    rcases h with ⟨l, k2, cs', h1, -⟩ | ⟨k2, cn', cs', h1, hv, T⟩
    · rw [hr] at h1; cases h1
    · rw [hr] at h1; cases h1; exact ⟨hv, cn', cs', T⟩)
theorem all_s {d t k : Nat} {w : mW} {tx : List Nat} {cn ps : Int32} {cs : Nat → cmdT} {l : List cmdT} (H : TxAt w t tx cn ps cs) (hl : tx.length ≤ 60) (hr : cAllR (tT tx) tx.length cs 12 0 0 = (some l, k)) : Sp (d + 8) yX2_readAll cX2_readAll 1 (some .boolean) [.ref t] w 0 0 (fun v w' => v = some (.int 1) ∧ ∃ cs', TxTo w w' t tx (nI l.length) (nI k) cs' ∧ l.length ≤ 12 ∧ ∀ j, j < l.length → cs' j = l.getD j cmd0) noX :=
  (sx_all (d := d) H hl).imp (fun v w' h => by
    rcases h with ⟨l, k2, cs', h1, hv, T, h2, h3⟩ | ⟨k2, cn', cs', h1, hv, T⟩
    · rw [hr] at h1; cases h1; exact ⟨hv, cs', T, h2, h3⟩
    · rw [hr] at h1; cases h1)
theorem TxAt.clear {w w' : mW} {t : Nat} {tx : List Nat} {cn ps : Int32} {cs : Nat → cmdT} (H : TxAt w t tx cn ps cs) (e : w' = w.set (t + 1) (mT [])) : TxAt w' t [] cn ps cs := by
  have F : ∀ k, k ≠ t + 1 → w'[k]? = w[k]? := fun k hk => by rw [e]; exact List.getElem?_set_ne (Ne.symm hk)
  exact ⟨(F _ (by omega)).trans H.1, by rw [e]; exact List.getElem?_set_self (lt_of_get H.2.1), (F _ (by omega)).trans H.2.2.1, fun i hi => (F _ (by omega)).trans (H.2.2.2 i hi)⟩
theorem flt_in9 {y : sv} {C : cmdT} (h8 : C.1 < 8) : cmdFlt y C ∈ gIs := by
  obtain ⟨k, a, b, c⟩ := C
  match k, h8 with
  | 0, _ => exact flt_gi fr_entry
  | 1, _ => exact flt_gi fr_drop
  | 2, _ => exact flt_gi fr_pile
  | 3, _ => exact flt_gi fr_take
  | 4, _ => exact flt_in (i := 0) (by decide)
  | 5, _ => exact flt_gi fr_slope
  | 6, _ => exact flt_in (i := 0) (by decide)
  | 7, _ => exact flt_in (i := 0) (by decide)
/-- what is left to do, from a state, says how the whole goes -/
def exM (r : List cmdT) (y : sv) (j : Nat) : Option Nat × sv := match exL r y with
  | (some i, y2) => (some (i + j), y2)
  | (none, y2) => (none, y2)
theorem exM_0 {l : List cmdT} {y : sv} : exM l y 0 = exL l y := by
  unfold exM
  split
  · rename_i h; rw [h]; rfl
  · rename_i h; rw [h]
theorem exM_nil {y : sv} {j : Nat} : exM [] y j = (none, y) := rfl
theorem exM_bad {C : cmdT} {r : List cmdT} {y : sv} {j : Nat} (h : ¬ cmdFlt y C = 1000010) : exM (C :: r) y j = (some j, y) := by
  unfold exM
  rw [show exL (C :: r) y = (some 0, y) from if_neg h]
  show (some (0 + j), y) = _
  rw [Nat.zero_add]
theorem exM_ok {C : cmdT} {r : List cmdT} {y : sv} {j : Nat} (h : cmdFlt y C = 1000010) : exM (C :: r) y j = exM r (cmdDo y C) (j + 1) := by
  unfold exM
  rw [show exL (C :: r) y = (match exL r (cmdDo y C) with
      | (some j, y2) => (some (j + 1), y2)
      | (none, y2) => (none, y2)) from if_pos h]
  cases e : exL r (cmdDo y C) with
  | mk o y2 =>
    cases o with
    | none => rfl
    | some i => show (some (i + 1 + j), y2) = (some (i + (j + 1)), y2); rw [show i + 1 + j = i + (j + 1) by omega]
set_option maxRecDepth 100000 in
set_option maxHeartbeats 4000000 in
theorem hr_loop {X : mC} {d n0 k3 : Nat} {cs0 cs2 : Nat → cmdT} {l2 : List cmdT} {w : mW} {x : Nat} {f g : Nat → Int32} {sl op lo : Int32} {hd rs : Nat → Int32} {np : Nat} {tp av lg pl tk : Int32} {l : List sv} {ea fa : Int32} {so : Option sv} {tx ln : List Nat} (hI : SInv ((f, g, sl, op, lo), hd, rs, np, tp, av, lg, pl, tk)) (hC : Cx X RX8 cX8_run (d + 9) 1 6) (hnl : mNL X = 4) (hE : mEnd X n0 1 6 (fun v w' => ∃ cs0 l2 k y', cAllR (tT tx) tx.length cs0 12 0 0 = (some l2, k) ∧ exL l2 ((f, g, sl, op, lo), hd, rs, np, tp, av, lg, pl, tk) = (none, y') ∧ v = some (.int (nI l2.length)) ∧ CtTo w w' x y' (push8 l ((f, g, sl, op, lo), hd, rs, np, tp, av, lg, pl, tk)) ea fa so [] ln) (fun E w' => (E = "java/lang/IllegalArgumentException" ∧ ∃ cs0 k, cAllR (tT tx) tx.length cs0 12 0 0 = (none, k) ∧ CtTo w w' x ((f, g, sl, op, lo), hd, rs, np, tp, av, lg, pl, tk) l (nI k) fa so [] ln) ∨ (E = "java/lang/IllegalStateException" ∧ ∃ cs0 l2 k j y', cAllR (tT tx) tx.length cs0 12 0 0 = (some l2, k) ∧ exL l2 ((f, g, sl, op, lo), hd, rs, np, tp, av, lg, pl, tk) = (some j, y') ∧ CtTo w w' x ((f, g, sl, op, lo), hd, rs, np, tp, av, lg, pl, tk) l ea (nI j) so [] ln))) (hR : mRet X (some .int)) (hN : mNoTab X) (hn0 : w.length = n0) (hcr : cAllR (tT tx) tx.length cs0 12 0 0 = (some l2, k3)) (hl12 : l2.length ≤ 12) (hcs : ∀ j, j < l2.length → cs2 j = l2.getD j cmd0) : ∀ (r dn : List cmdT) (y9 : sv) (w9 : mW), l2 = dn ++ r → exL l2 ((f, g, sl, op, lo), hd, rs, np, tp, av, lg, pl, tk) = exM r y9 dn.length → SInv y9 → w9.length = w.length → CtTo w w9 x y9 l ea fa so [] ln → StAt w9 (x + 7) ((f, g, sl, op, lo), hd, rs, np, tp, av, lg, pl, tk) → TxAt w9 (x + 25) [] (nI l2.length) (nI k3) cs2 → Wp X 0 0 w9 [(0, .ref x), (1, .int 1), (2, .int (nI dn.length))] [] 57 := by
  intro r
  induction r with
  | nil =>
    intro dn y9 w9 h9 hex hI9 hl9 T hB9 hX
    obtain rfl : l2 = dn := h9.trans (List.append_nil dn)
    have hop : op = 0 ∨ op = 1 := hI.1.2.2.1
    have H9 := T.1
    obtain ⟨ol, hs, yb, ys, hx, q, qn, cn, ps, cs, ho, hY, hB, hS, hA, hT, hX0, hL, hHs, hol, hll, hring, hsnap⟩ := id H9
    refine r_iload_n hC dX8_run_57 rfl (j := 2) rfl ?_
    refine r_aload_n hC dX8_run_58 rfl (j := 0) rfl ?_
    refine r_get hC gX8_run_59 ho (v := .ref (x + 25)) rfl ?_
    refine r_get hC gX8_run_62 hX.1 (v := .int (nI l2.length)) rfl ?_
    refine r_icmp_ge hC dX8_run_65 (tgt := 127) (by decide) (fun _ => ?_) (fun h => absurd (Int32.le_refl _) h)
    refine r_aload_n hC dX8_run_127 rfl (j := 0) rfl ?_
    refine r_aload_n hC dX8_run_128 rfl (j := 0) rfl ?_
    refine r_get hC gX8_run_129 ho (v := .ref (x + 7)) rfl ?_
    refine r_callV hC (vs := [.ref (x + 7)]) vX8_run_132 (sh_keep (d := d + 6) H9 (Or.inr rfl) hB9 hop) ho rfl rfl (by omega) (by omega) (by omega) (Nat.le_of_ble_eq_true rfl) (fun v_1 w_1 hP_1 hlen_1 => ?_) (fun _ _ h => h.elim)
    rw [hP_1.1]
    have hn_1 : w_1.length = w9.length := hlen_1.trans (rfl)
    obtain ⟨ol, hs, yb, ys, hx, q, qn, cn, ps, cs, ho, -⟩ := id hP_1.2.1
    have hX9 : w_1[x + 25]? = some (mO 5 [.ref (x + 26), .ref (x + 27), .int (nI l2.length), .int (nI k3)]) := (hP_1.2.2 _ (by omega)).trans hX.1
    show Wp X 0 0 w_1 [(0, .ref x), (1, .int 1), (2, .int (nI l2.length))] [] 135
    refine r_aload_n hC dX8_run_135 rfl (j := 0) rfl ?_
    refine r_get hC gX8_run_136 ho (v := .ref (x + 25)) rfl ?_
    refine r_get hC gX8_run_139 hX9 (v := .int (nI l2.length)) rfl ?_
    refine r_iret hC hE hR dX8_run_142 (by omega) (by omega) ((hn_1.trans hl9).trans hn0) ?_
    exact ⟨cs0, l2, k3, y9, hcr, hex.trans exM_nil, rfl, hP_1.2.1, fun k hk => (hP_1.2.2 k (by omega)).trans (T.2 k hk)⟩
  | cons C r ih =>
    intro dn y9 w9 h9 hex hI9 hl9 T hB9 hX
    have hop : op = 0 ∨ op = 1 := hI.1.2.2.1
    have hjl : dn.length < l2.length := by rw [h9, List.length_append, List.length_cons]; omega
    have hCj : cs2 dn.length = C := by rw [hcs _ hjl, h9, List.getD_eq_getElem?_getD, List.getElem?_append_right (Nat.le_refl _), Nat.sub_self]; rfl
    have h8 : C.1 < 8 := cAllR_lt hcr C (by rw [h9]; exact List.mem_append_right _ List.mem_cons_self)
    have hcc : w9[x + 25 + 3 + dn.length]? = some (cmC C) := by rw [← hCj]; exact hX.2.2.2 _ (by omega)
    have H9 := T.1
    obtain ⟨ol, hs, yb, ys, hx, q, qn, cn, ps, cs, ho, hY, hB, hS, hA, hT, hX0, hL, hHs, hol, hll, hring, hsnap⟩ := id H9
    refine r_iload_n hC dX8_run_57 rfl (j := 2) rfl ?_
    refine r_aload_n hC dX8_run_58 rfl (j := 0) rfl ?_
    refine r_get hC gX8_run_59 ho (v := .ref (x + 25)) rfl ?_
    refine r_get hC gX8_run_62 hX.1 (v := .int (nI l2.length)) rfl ?_
    refine r_icmp_ge hC dX8_run_65 (tgt := 127) (by decide) (fun h => absurd h (fun z => absurd ((nI_leI (by omega) (by omega)).mp z) (by omega))) (fun _ => ?_)
    refine r_aload_n hC dX8_run_68 rfl (j := 0) rfl ?_
    refine r_get hC gX8_run_69 ho (v := .ref (x + 25)) rfl ?_
    refine r_get hC gX8_run_72 hX.1 (v := .ref (x + 27)) rfl ?_
    refine r_iload_n hC dX8_run_75 rfl (j := 2) rfl ?_
    refine r_aald hC dX8_run_76 (j := dn.length) (b := (x + 25 + 3 + dn.length)) hX.2.2.1 (fun _ => rfl) (mIx_nI (by omega) (by decide)) (if_pos (by omega)) ?_
    refine r_astore_n hC dX8_run_77 rfl (by rw [hnl]; decide) (L' := [(3, .ref (x + 25 + 3 + dn.length)), (0, .ref x), (1, .int 1), (2, .int (nI dn.length))]) rfl ?_
    refine r_aload_n hC dX8_run_78 rfl (j := 1) rfl ?_
    refine r_aload_n hC dX8_run_79 rfl (j := 0) rfl ?_
    refine r_callV hC (vs := [.ref (x + 25 + 3 + dn.length)]) vX8_run_80 (sh_flt (d := d + 4) H9 hI9 h8 hcc) ho rfl rfl (by omega) (by omega) (by omega) (Nat.le_of_ble_eq_true rfl) (fun v_1 w_1 hP_1 hlen_1 => ?_) (fun _ _ h => h.elim)
    rw [hP_1.1, hP_1.2]
    show Wp X 0 0 w9 [(3, .ref (x + 25 + 3 + dn.length)), (0, .ref x), (1, .int 1), (2, .int (nI dn.length))] [.ref (cmdFlt y9 C)] 83
    refine r_gets hC sX8_run_83 (v := .ref 1000010) gZ_f0 ?_
    refine r_acmp_eq hC dX8_run_86 (tgt := 116) (by decide) (flt_in9 h8) (by decide) (fun c86 => ?_) (fun c86 => ?_)
    · refine r_aload_n hC dX8_run_116 rfl (j := 1) rfl ?_
      refine r_aload_n hC dX8_run_117 rfl (j := 0) rfl ?_
      refine r_callV hC (vs := [.ref (x + 25 + 3 + dn.length)]) vX8_run_118 (sh_do (d := d + 3) H9 hI9 h8 hcc c86) ho rfl rfl (by omega) (by omega) (by omega) (Nat.le_of_ble_eq_true rfl) (fun v_2 w_2 hP_2 hlen_2 => ?_) (fun _ _ h => h.elim)
      rw [hP_2.1]
      have hn_2 : w_2.length = w9.length := hlen_2.trans (rfl)
      show Wp X 0 0 w_2 [(3, .ref (x + 25 + 3 + dn.length)), (0, .ref x), (1, .int 1), (2, .int (nI dn.length))] [] 121
      refine r_iinc hC dX8_run_121 (j := 3) rfl (v := nI (dn.length + 1)) (nI_succ _).symm (by rw [hnl]; decide) (L' := [(2, .int (nI (dn.length + 1))), (3, .ref (x + 25 + 3 + dn.length)), (0, .ref x), (1, .int 1)]) rfl ?_
      refine r_goto hC dX8_run_124 (tgt := 57) (by decide) ?_
      refine r_locals [2, 3, 0] (L' := [(0, .ref x), (1, .int 1), (2, .int (nI (dn.length + 1)))]) rfl ?_
      refine r_locals [0, 1, 2] (L' := [(0, .ref x), (1, .int 1), (2, .int (nI (dn ++ [C]).length))]) (by rw [List.length_append]; rfl) ?_
      have T9 := H9.now hP_2.2
      exact ih (dn ++ [C]) (cmdDo y9 C) w_2 (by rw [h9, List.append_assoc]; rfl) (by rw [hex, exM_ok c86, List.length_append]; rfl) (cmd_inv hI9 c86) (hn_2.trans hl9) (T.trans T9) (hB9.mono (fun k _ _ => hP_2.2.2 k (by omega))) (hX.mono (fun k _ _ => hP_2.2.2 k (by omega)))
    · refine r_aload_n hC dX8_run_89 rfl (j := 1) rfl ?_
      refine r_get hC gX8_run_90 ho (v := .ref (x + 1)) rfl ?_
      refine r_aload_n hC dX8_run_93 rfl (j := 1) rfl ?_
      refine r_get hC gX8_run_94 ho (v := .ref (x + 7)) rfl ?_
      refine r_callV hC (vs := [.ref (x + 7)]) vX8_run_97 (sp_copy (d := d + 7) hY hB9 (by omega) hop) hY.1 rfl rfl (by omega) (by omega) (by omega) (Nat.le_of_ble_eq_true rfl) (fun v_3 w_3 hP_3 hlen_3 => ?_) (fun _ _ h => h.elim)
      rw [hP_3.1]
      have hn_3 : w_3.length = w9.length := hlen_3.trans (rfl)
      have ho_3 : w_3[x]? = some (mO 9 [.ref (x + 1), .ref (x + 7), .ref (x + 13), .int (bI so.isSome), .ref (x + 19), .int (nI ol), .int (nI l.length), .ref (x + 20), .ref (x + 25), .int ea, .int fa, .ref (x + 40)]) := (hP_3.2.2 _ (by omega)).trans ho
      show Wp X 0 0 w_3 [(3, .ref (x + 25 + 3 + dn.length)), (0, .ref x), (1, .int 1), (2, .int (nI dn.length))] [] 100
      refine r_aload_n hC dX8_run_100 rfl (j := 1) rfl ?_
      refine r_iload_n hC dX8_run_101 rfl (j := 3) rfl ?_
      refine r_put' hC pX8_run_102 ho_3 (Nat.le_of_ble_eq_true rfl) (fun _ => rfl) (fun _ => rfl) (fun w_4 ew_4 => ?_)
      have hf4_x : w_4[x]? = some (mO 9 [.ref (x + 1), .ref (x + 7), .ref (x + 13), .int (bI so.isSome), .ref (x + 19), .int (nI ol), .int (nI l.length), .ref (x + 20), .ref (x + 25), .int ea, .int (nI dn.length), .ref (x + 40)]) := by rw [ew_4]; exact List.getElem?_set_self (lt_of_get ho_3)
      refine r_throwW hC hE hN tX8_run_105 (Nat.le_of_ble_eq_true rfl) (by omega) (by omega) ((by rw [ew_4, List.length_set]; exact (hn_3.trans hl9).trans hn0)) ?_
      have F : ∀ k, (k < x + 1 ∨ x + 1 + 5 < k) → k ≠ x → w_4[k]? = w9[k]? := fun k h1 h2 => by rw [ew_4, List.getElem?_set_ne (Ne.symm h2)]; exact hP_3.2.2 k h1
      have TT := CtAt.put (w := w_3) ho_3 hP_3.2.1 (hB.mono (fun k _ _ => hP_3.2.2 k (by omega))) (hS.mono (fun k _ _ => hP_3.2.2 k (by omega))) ((hP_3.2.2 _ (by omega)).trans hA) (hT.mono (fun k _ _ => hP_3.2.2 k (by omega))) (hX0.mono (fun k _ _ => hP_3.2.2 k (by omega))) ((hP_3.2.2 _ (by omega)).trans hL) (fun i hi => (hHs i hi).mono (fun k _ _ => hP_3.2.2 k (by omega))) hol hll hring hsnap rfl ew_4
      exact Or.inr ⟨rfl, cs0, l2, k3, dn.length, y9, hcr, hex.trans (exM_bad c86), TT.1, fun k hk => (F k (by omega) (by omega)).trans (T.2 k hk)⟩
set_option maxRecDepth 100000 in
set_option maxHeartbeats 4000000 in
theorem sh_run {d : Nat} {w : mW} {x : Nat} {f g : Nat → Int32} {sl op lo : Int32} {hd rs : Nat → Int32} {np : Nat} {tp av lg pl tk : Int32} {l : List sv} {ea fa : Int32} {so : Option sv} {tx ln : List Nat} (H : CtAt w x ((f, g, sl, op, lo), hd, rs, np, tp, av, lg, pl, tk) l ea fa so tx ln) (hI : SInv ((f, g, sl, op, lo), hd, rs, np, tp, av, lg, pl, tk)) (htl : tx.length ≤ 60) : Sp (d + 9) yX8_run cX8_run 4 (some .int) [.ref x] w 1 6 (fun v w' => ∃ cs0 l2 k y', cAllR (tT tx) tx.length cs0 12 0 0 = (some l2, k) ∧ exL l2 ((f, g, sl, op, lo), hd, rs, np, tp, av, lg, pl, tk) = (none, y') ∧ v = some (.int (nI l2.length)) ∧ CtTo w w' x y' (push8 l ((f, g, sl, op, lo), hd, rs, np, tp, av, lg, pl, tk)) ea fa so [] ln) (fun E w' => (E = "java/lang/IllegalArgumentException" ∧ ∃ cs0 k, cAllR (tT tx) tx.length cs0 12 0 0 = (none, k) ∧ CtTo w w' x ((f, g, sl, op, lo), hd, rs, np, tp, av, lg, pl, tk) l (nI k) fa so [] ln) ∨ (E = "java/lang/IllegalStateException" ∧ ∃ cs0 l2 k j y', cAllR (tT tx) tx.length cs0 12 0 0 = (some l2, k) ∧ exL l2 ((f, g, sl, op, lo), hd, rs, np, tp, av, lg, pl, tk) = (some j, y') ∧ CtTo w w' x ((f, g, sl, op, lo), hd, rs, np, tp, av, lg, pl, tk) l ea (nI j) so [] ln)) := by
  refine Sp.of (by decide +kernel) (Nat.le_of_ble_eq_true rfl) (fun X hC hnl hE hR hN => ?_)
  have hC : Cx X RX8 cX8_run (d + 9) 1 6 := hC
  show Wp X 0 0 w [(0, .ref x)] [] 0
  have hop : op = 0 ∨ op = 1 := hI.1.2.2.1
  obtain ⟨ol, hs, yb, ys, hx, q, qn, cn, ps, cs, ho, hY, hB, hS, hA, hT, hX, hL, hHs, hol, hll, hring, hsnap⟩ := id H
  have hy0 : w[x + 1]? = some (mO 7 [.ref (x + 2), .ref (x + 5), .ref (x + 6), .int (nI np), .int tp, .int av, .int lg, .int pl, .int tk]) := hY.1
  have hh : HillAt w (x + 2) (x + 3) (x + 4) (f, g, sl, op, lo) := hY.2.1
  have hy1 : w[x + 2]? = some (mO 6 [.ref (x + 3), .ref (x + 4), .int sl, .int op, .int lo]) := hh.1
  have hy2 : w[x + 3]? = some (mI 0 26 f) := hh.2.1
  have hy3 : w[x + 4]? = some (mI 0 25 g) := hh.2.2
  have hy4 : w[x + 5]? = some (mI 0 4 hd) := hY.2.2.1
  have hy5 : w[x + 6]? = some (mI 0 4 rs) := hY.2.2.2
  rcases hcr : cAllR (tT tx) tx.length cs 12 0 0 with ⟨_ | l2, k3⟩
  · refine r_aload_n hC dX8_run_0 rfl (j := 0) rfl ?_
    refine r_get hC gX8_run_1 ho (v := .ref (x + 25)) rfl ?_
    refine r_callV hC (vs := []) vX8_run_4 (all_n (d := d) hX htl hcr) hX.1 rfl rfl (by omega) (by omega) (by omega) (Nat.le_of_ble_eq_true rfl) (fun v_1 w_1 hP_1 hlen_1 => ?_) (fun _ _ h => h.elim)
    rw [hP_1.1]
    have hn_1 : w_1.length = w.length := hlen_1.trans (rfl)
    obtain ⟨cn', cs', T_1⟩ := hP_1.2
    have ho_1 : w_1[x]? = some (mO 9 [.ref (x + 1), .ref (x + 7), .ref (x + 13), .int (bI so.isSome), .ref (x + 19), .int (nI ol), .int (nI l.length), .ref (x + 20), .ref (x + 25), .int ea, .int fa, .ref (x + 40)]) := (T_1.2 _ (by omega)).trans ho
    show Wp X 0 0 w_1 [(0, .ref x)] [.int 0] 7
    refine r_istore_n hC dX8_run_7 rfl (by rw [hnl]; decide) (L' := [(1, .int 0), (0, .ref x)]) rfl ?_
    refine r_aload_n hC dX8_run_8 rfl (j := 1) rfl ?_
    refine r_get hC gX8_run_9 ho_1 (v := .ref (x + 25)) rfl ?_
    refine r_get hC gX8_run_12 T_1.1.1 (v := .ref (x + 26)) rfl ?_
    refine r_iconst hC dX8_run_15 (v := 0) (by decide) ?_
    refine r_callXT hC (vs := [.int 0]) vX8_run_16.x (st_set0 (d := d + 6) T_1.1.2.1) T_1.1.2.1 rfl rfl (by omega) (by omega) (by omega) (Nat.le_of_ble_eq_true rfl) (fun v_2 w_2 hP_2 hlen_2 => ?_)
    rw [hP_2.1]
    have ew_2 := hP_2.2
    have hf2_x : w_2[x]? = some (mO 9 [.ref (x + 1), .ref (x + 7), .ref (x + 13), .int (bI so.isSome), .ref (x + 19), .int (nI ol), .int (nI l.length), .ref (x + 20), .ref (x + 25), .int ea, .int fa, .ref (x + 40)]) := by rw [ew_2, List.getElem?_set_ne (by omega)]; exact ho_1
    have hf2__x___25_ : w_2[(x + 25)]? = some (mO 5 [.ref (x + 26), .ref (x + 27), .int cn', .int (nI k3)]) := by rw [ew_2, List.getElem?_set_ne (by omega)]; exact T_1.1.1
    have hf2__x___26_ : w_2[(x + 26)]? = some (mT []) := by rw [ew_2]; exact List.getElem?_set_self (lt_of_get T_1.1.2.1)
    show Wp X 0 0 w_2 [(1, .int 0), (0, .ref x)] [] 19
    refine r_iload_n hC dX8_run_19 rfl (j := 0) rfl ?_
    refine r_if_ne hC dX8_run_20 (tgt := 44) (by decide) (fun h => absurd (by decide) h) (fun _ => ?_)
    refine r_aload_n hC dX8_run_23 rfl (j := 1) rfl ?_
    refine r_aload_n hC dX8_run_24 rfl (j := 1) rfl ?_
    refine r_get hC gX8_run_25 hf2_x (v := .ref (x + 25)) rfl ?_
    refine r_get hC gX8_run_28 hf2__x___25_ (v := .int (nI k3)) rfl ?_
    refine r_put' hC pX8_run_31 hf2_x (Nat.le_of_ble_eq_true rfl) (fun _ => rfl) (fun _ => rfl) (fun w_3 ew_3 => ?_)
    have hf3_x : w_3[x]? = some (mO 9 [.ref (x + 1), .ref (x + 7), .ref (x + 13), .int (bI so.isSome), .ref (x + 19), .int (nI ol), .int (nI l.length), .ref (x + 20), .ref (x + 25), .int (nI k3), .int fa, .ref (x + 40)]) := by rw [ew_3]; exact List.getElem?_set_self (lt_of_get hf2_x)
    have hf3__x___25_ : w_3[(x + 25)]? = some (mO 5 [.ref (x + 26), .ref (x + 27), .int cn', .int (nI k3)]) := by rw [ew_3, List.getElem?_set_ne (by omega)]; exact hf2__x___25_
    have hf3__x___26_ : w_3[(x + 26)]? = some (mT []) := by rw [ew_3, List.getElem?_set_ne (by omega)]; exact hf2__x___26_
    refine r_throw hC hE hN tX8_run_34 (Nat.le_of_ble_eq_true rfl) (by omega) (by omega) (by simp only [ew_3, ew_2, List.length_set]; exact hn_1) ?_
    have X2 := T_1.1.clear ew_2
    have F : ∀ k, k ≠ x → (k < x + 25 ∨ x + 25 + 14 < k) → w_3[k]? = w[k]? := fun k h1 h2 => by rw [ew_3, List.getElem?_set_ne (Ne.symm h1), ew_2, List.getElem?_set_ne (by omega)]; exact T_1.2 k h2
    exact Or.inl ⟨rfl, cs, k3, hcr, ⟨ol, hs, yb, ys, hx, q, qn, cn', nI k3, cs', hf3_x, hY.mono (fun k _ _ => F k (by omega) (by omega)), hB.mono (fun k _ _ => F k (by omega) (by omega)), hS.mono (fun k _ _ => F k (by omega) (by omega)), (F _ (by omega) (by omega)).trans hA, hT.mono (fun k _ _ => F k (by omega) (by omega)), X2.mono (fun k _ _ => by rw [ew_3, List.getElem?_set_ne (by omega)]), (F _ (by omega) (by omega)).trans hL, fun i hi => (hHs i hi).mono (fun k _ _ => F k (by omega) (by omega)), hol, hll, hring, hsnap⟩, fun k hk => F k (by omega) (by omega)⟩
  · refine r_aload_n hC dX8_run_0 rfl (j := 0) rfl ?_
    refine r_get hC gX8_run_1 ho (v := .ref (x + 25)) rfl ?_
    refine r_callV hC (vs := []) vX8_run_4 (all_s (d := d) hX htl hcr) hX.1 rfl rfl (by omega) (by omega) (by omega) (Nat.le_of_ble_eq_true rfl) (fun v_1 w_1 hP_1 hlen_1 => ?_) (fun _ _ h => h.elim)
    rw [hP_1.1]
    have hn_1 : w_1.length = w.length := hlen_1.trans (rfl)
    obtain ⟨cs', T_1, hl12, hcs⟩ := hP_1.2
    have ho_1 : w_1[x]? = some (mO 9 [.ref (x + 1), .ref (x + 7), .ref (x + 13), .int (bI so.isSome), .ref (x + 19), .int (nI ol), .int (nI l.length), .ref (x + 20), .ref (x + 25), .int ea, .int fa, .ref (x + 40)]) := (T_1.2 _ (by omega)).trans ho
    have hy_1 : w_1[x + 1]? = some (mO 7 [.ref (x + 2), .ref (x + 5), .ref (x + 6), .int (nI np), .int tp, .int av, .int lg, .int pl, .int tk]) := (T_1.2 _ (by omega)).trans hy0
    have hb_1 : w_1[x + 7]? = some (mO 7 [.ref (x + 8), .ref (x + 11), .ref (x + 12), .int (nI yb.2.2.2.1), .int yb.2.2.2.2.1, .int yb.2.2.2.2.2.1, .int yb.2.2.2.2.2.2.1, .int yb.2.2.2.2.2.2.2.1, .int yb.2.2.2.2.2.2.2.2]) := (T_1.2 _ (by omega)).trans hB.1
    show Wp X 0 0 w_1 [(0, .ref x)] [.int 1] 7
    refine r_istore_n hC dX8_run_7 rfl (by rw [hnl]; decide) (L' := [(1, .int 1), (0, .ref x)]) rfl ?_
    refine r_aload_n hC dX8_run_8 rfl (j := 1) rfl ?_
    refine r_get hC gX8_run_9 ho_1 (v := .ref (x + 25)) rfl ?_
    refine r_get hC gX8_run_12 T_1.1.1 (v := .ref (x + 26)) rfl ?_
    refine r_iconst hC dX8_run_15 (v := 0) (by decide) ?_
    refine r_callXT hC (vs := [.int 0]) vX8_run_16.x (st_set0 (d := d + 6) T_1.1.2.1) T_1.1.2.1 rfl rfl (by omega) (by omega) (by omega) (Nat.le_of_ble_eq_true rfl) (fun v_2 w_2 hP_2 hlen_2 => ?_)
    rw [hP_2.1]
    have ew_2 := hP_2.2
    have hf2_x : w_2[x]? = some (mO 9 [.ref (x + 1), .ref (x + 7), .ref (x + 13), .int (bI so.isSome), .ref (x + 19), .int (nI ol), .int (nI l.length), .ref (x + 20), .ref (x + 25), .int ea, .int fa, .ref (x + 40)]) := by rw [ew_2, List.getElem?_set_ne (by omega)]; exact ho_1
    have hf2__x___25_ : w_2[(x + 25)]? = some (mO 5 [.ref (x + 26), .ref (x + 27), .int (nI l2.length), .int (nI k3)]) := by rw [ew_2, List.getElem?_set_ne (by omega)]; exact T_1.1.1
    have hf2__x___26_ : w_2[(x + 26)]? = some (mT []) := by rw [ew_2]; exact List.getElem?_set_self (lt_of_get T_1.1.2.1)
    have hf2__x___1_ : w_2[(x + 1)]? = some (mO 7 [.ref (x + 2), .ref (x + 5), .ref (x + 6), .int (nI np), .int tp, .int av, .int lg, .int pl, .int tk]) := by rw [ew_2, List.getElem?_set_ne (by omega)]; exact hy_1
    have hf2__x___7_ : w_2[(x + 7)]? = some (mO 7 [.ref (x + 8), .ref (x + 11), .ref (x + 12), .int (nI yb.2.2.2.1), .int yb.2.2.2.2.1, .int yb.2.2.2.2.2.1, .int yb.2.2.2.2.2.2.1, .int yb.2.2.2.2.2.2.2.1, .int yb.2.2.2.2.2.2.2.2]) := by rw [ew_2, List.getElem?_set_ne (by omega)]; exact hb_1
    show Wp X 0 0 w_2 [(1, .int 1), (0, .ref x)] [] 19
    refine r_iload_n hC dX8_run_19 rfl (j := 0) rfl ?_
    refine r_if_ne hC dX8_run_20 (tgt := 44) (by decide) (fun _ => ?_) (fun h => absurd h (by decide))
    have X2 := T_1.1.clear ew_2
    have F2 : ∀ k, (k < x + 25 ∨ x + 25 + 14 < k) → w_2[k]? = w[k]? := fun k h1 => by rw [ew_2, List.getElem?_set_ne (by omega)]; exact T_1.2 k h1
    refine r_aload_n hC dX8_run_44 rfl (j := 1) rfl ?_
    refine r_get hC gX8_run_45 hf2_x (v := .ref (x + 7)) rfl ?_
    refine r_aload_n hC dX8_run_48 rfl (j := 1) rfl ?_
    refine r_get hC gX8_run_49 hf2_x (v := .ref (x + 1)) rfl ?_
    refine r_callV hC (vs := [.ref (x + 1)]) vX8_run_52 (sp_copy (d := d + 7) (hB.mono (fun k _ _ => F2 k (by omega))) (hY.mono (fun k _ _ => F2 k (by omega))) (by omega) hop) hf2__x___7_ rfl rfl (by omega) (by omega) (by omega) (Nat.le_of_ble_eq_true rfl) (fun v_3 w_3 hP_3 hlen_3 => ?_) (fun _ _ h => h.elim)
    rw [hP_3.1]
    have hn_3 : w_3.length = w.length := hlen_3.trans (by simp only [ew_2, List.length_set]; exact hn_1)
    show Wp X 0 0 w_3 [(1, .int 1), (0, .ref x)] [] 55
    refine r_iconst hC dX8_run_55 (v := 0) (by decide) ?_
    refine r_istore_n hC dX8_run_56 rfl (by rw [hnl]; decide) (L' := [(2, .int 0), (1, .int 1), (0, .ref x)]) rfl ?_
    refine r_locals [2, 1, 0] (L' := [(0, .ref x), (1, .int 1), (2, .int 0)]) rfl ?_
    have hex : exL l2 ((f, g, sl, op, lo), hd, rs, np, tp, av, lg, pl, tk) = exM l2 ((f, g, sl, op, lo), hd, rs, np, tp, av, lg, pl, tk) ([] : List cmdT).length := exM_0.symm
    have G : ∀ k, (k < x + 25 ∨ x + 25 + 14 < k) → (k < x + 7 ∨ x + 7 + 5 < k) → w_3[k]? = w[k]? := fun k h1 h2 => (hP_3.2.2 k h2).trans (by rw [ew_2, List.getElem?_set_ne (by omega)]; exact T_1.2 k h1)
    exact hr_loop (d := d) (w := w) hI hC hnl hE hR hN rfl hcr hl12 hcs l2 [] ((f, g, sl, op, lo), hd, rs, np, tp, av, lg, pl, tk) w_3 rfl hex hI hn_3 ⟨⟨ol, hs, _, ys, hx, q, qn, nI l2.length, nI k3, cs', (G _ (by omega) (by omega)).trans ho, hY.mono (fun k _ _ => G k (by omega) (by omega)), hP_3.2.1, hS.mono (fun k _ _ => G k (by omega) (by omega)), (G _ (by omega) (by omega)).trans hA, hT.mono (fun k _ _ => G k (by omega) (by omega)), X2.mono (fun k _ _ => hP_3.2.2 k (by omega)), (G _ (by omega) (by omega)).trans hL, fun i hi => (hHs i hi).mono (fun k _ _ => G k (by omega) (by omega)), hol, hll, hring, hsnap⟩, fun k hk => G k (by omega) (by omega)⟩ hP_3.2.1 (X2.mono (fun k _ _ => hP_3.2.2 k (by omega)))
end HC7
