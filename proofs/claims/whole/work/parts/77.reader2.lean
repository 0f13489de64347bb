section RK
def kwL : List (List Int32) := [mSt30, mSt31, mSt32, mSt33, mSt34, mSt35, mSt36, mSt37]
/-- which of the words stands at h, or how far the text goes along one of them -/
def cKey (t : Nat → Int32) (e h : Nat) : List (List Int32) → Nat → Nat → Option Nat × Nat
  | [], _, lg => (none, h + lg)
  | w :: r, c, lg => if cAl t e w h = w.length then (some c, h + w.length) else cKey t e h r (c + 1) (max lg (cAl t e w h))
theorem cKey_n {t : Nat → Int32} {e h c lg : Nat} {w : List Int32} {r : List (List Int32)} (z : ¬ cAl t e w h = w.length) : cKey t e h (w :: r) c lg = cKey t e h r (c + 1) (max lg (cAl t e w h)) := if_neg z
theorem cKey_p {t : Nat → Int32} {e h c lg : Nat} {w : List Int32} {r : List (List Int32)} (z : cAl t e w h = w.length) : cKey t e h (w :: r) c lg = (some c, h + w.length) := if_pos z
theorem cKey_0 {t : Nat → Int32} {e h c lg : Nat} : cKey t e h [] c lg = (none, h + lg) := rfl
set_option maxRecDepth 100000 in
set_option maxHeartbeats 4000000 in
theorem sx_key {d : Nat} {i kw : Nat} {x1 x2 x3 : Int32} {w : mW} {t h : Nat} {tx : List Nat} {cn : Int32} {cs : Nat → cmdT} (H : TxAt w t tx cn (nI h) cs) (hl : tx.length ≤ 60) (hh : h ≤ tx.length) (hc : w[t + 3 + i]? = some (mO 4 [.ref kw, .int x1, .int x2, .int x3])) : Sp (d + 6) yX2_readKeyword cX2_readKeyword 8 (some .boolean) [.ref t, .ref (t + 3 + i)] w 0 0 (fun v w' => (∃ c k, c < 8 ∧ cKey (tT tx) tx.length h kwL 0 0 = (some c, k) ∧ v = some (.int 1) ∧ w' = (txP w t cn (nI k)).set (t + 3 + i) (mO 4 [.ref (1000020 + c), .int x1, .int x2, .int x3])) ∨ (∃ k, cKey (tT tx) tx.length h kwL 0 0 = (none, k) ∧ v = some (.int 0) ∧ w' = txP w t cn (nI k))) noX := by
  refine Sp.of (by decide +kernel) (Nat.le_of_ble_eq_true rfl) (fun X hC hnl hE hR hN => ?_)
  have hC : Cx X RX2 cX2_readKeyword (d + 6) 0 0 := hC
  show Wp X 0 0 w [(0, .ref t), (1, .ref (t + 3 + i))] [] 0
  have ho := H.1
  have hs := H.2.1
  obtain ⟨A, hA⟩ : ∃ A : Nat → Nat, ∀ c, A c = cAl (tT tx) tx.length (kwL.getD c []) h := ⟨_, fun _ => rfl⟩
  have hA0 : A 0 = cAl (tT tx) tx.length mSt30 h := hA 0
  have hA1 : A 1 = cAl (tT tx) tx.length mSt31 h := hA 1
  have hA2 : A 2 = cAl (tT tx) tx.length mSt32 h := hA 2
  have hA3 : A 3 = cAl (tT tx) tx.length mSt33 h := hA 3
  have hA4 : A 4 = cAl (tT tx) tx.length mSt34 h := hA 4
  have hA5 : A 5 = cAl (tT tx) tx.length mSt35 h := hA 5
  have hA6 : A 6 = cAl (tT tx) tx.length mSt36 h := hA 6
  have hA7 : A 7 = cAl (tT tx) tx.length mSt37 h := hA 7
  have hb : ∀ c, A c ≤ 10 := fun c => by
    rw [hA c]
    refine Nat.le_trans cAl_le ?_
    rcases Nat.lt_or_ge c 8 with z | z
    · have : ∀ c, c < 8 → (kwL.getD c []).length ≤ 10 := by decide
      exact this c z
    · rw [List.getD_eq_getElem?_getD, List.getElem?_eq_none (show kwL.length ≤ c from z)]; decide
  have hb0 := hb 0
  have hb1 := hb 1
  have hb2 := hb 2
  have hb3 := hb 3
  have hb4 := hb 4
  have hb5 := hb 5
  have hb6 := hb 6
  have hb7 := hb 7
  have hm0 : 0 ≤ 10 := Nat.zero_le _
  have hm1 : (max 0 (A 0)) ≤ 10 := Nat.max_le.mpr ⟨hm0, hb0⟩
  have hm2 : (max (max 0 (A 0)) (A 1)) ≤ 10 := Nat.max_le.mpr ⟨hm1, hb1⟩
  have hm3 : (max (max (max 0 (A 0)) (A 1)) (A 2)) ≤ 10 := Nat.max_le.mpr ⟨hm2, hb2⟩
  have hm4 : (max (max (max (max 0 (A 0)) (A 1)) (A 2)) (A 3)) ≤ 10 := Nat.max_le.mpr ⟨hm3, hb3⟩
  have hm5 : (max (max (max (max (max 0 (A 0)) (A 1)) (A 2)) (A 3)) (A 4)) ≤ 10 := Nat.max_le.mpr ⟨hm4, hb4⟩
  have hm6 : (max (max (max (max (max (max 0 (A 0)) (A 1)) (A 2)) (A 3)) (A 4)) (A 5)) ≤ 10 := Nat.max_le.mpr ⟨hm5, hb5⟩
  have hm7 : (max (max (max (max (max (max (max 0 (A 0)) (A 1)) (A 2)) (A 3)) (A 4)) (A 5)) (A 6)) ≤ 10 := Nat.max_le.mpr ⟨hm6, hb6⟩
  have hm8 : (max (max (max (max (max (max (max (max 0 (A 0)) (A 1)) (A 2)) (A 3)) (A 4)) (A 5)) (A 6)) (A 7)) ≤ 10 := Nat.max_le.mpr ⟨hm7, hb7⟩
  refine r_iconst hC dX2_readKeyword_0 (v := 0) (by decide) ?_
  refine r_istore_n hC dX2_readKeyword_1 rfl (by rw [hnl]; decide) (L' := [(2, .int 0), (0, .ref t), (1, .ref (t + 3 + i))]) rfl ?_
  refine r_gets hC sX2_readKeyword_2 (v := .ref 1000001) gZ_kw ?_
  refine r_astore_n hC dX2_readKeyword_5 rfl (by rw [hnl]; decide) (L' := [(3, .ref 1000001), (2, .int 0), (0, .ref t), (1, .ref (t + 3 + i))]) rfl ?_
  refine r_aload_n hC dX2_readKeyword_6 rfl (j := 0) rfl ?_
  refine r_alenS hC dX2_readKeyword_7 (v := 8) gT_kw (by decide) ?_
  refine r_istore hC dX2_readKeyword_8 (by rw [hnl]; decide) (L' := [(4, .int 8), (3, .ref 1000001), (2, .int 0), (0, .ref t), (1, .ref (t + 3 + i))]) rfl ?_
  refine r_iconst hC dX2_readKeyword_10 (v := 0) (by decide) ?_
  refine r_istore hC dX2_readKeyword_11 (by rw [hnl]; decide) (L' := [(5, .int 0), (4, .int 8), (3, .ref 1000001), (2, .int 0), (0, .ref t), (1, .ref (t + 3 + i))]) rfl ?_
  refine r_iload hC dX2_readKeyword_13 (j := 0) rfl ?_
  refine r_iload hC dX2_readKeyword_15 (j := 1) rfl ?_
  refine r_icmp_ge hC dX2_readKeyword_17 (tgt := 82) (by decide) (fun h => absurd h (by decide)) (fun _ => ?_)
  refine r_aload_n hC dX2_readKeyword_20 rfl (j := 2) rfl ?_
  refine r_iload hC dX2_readKeyword_21 (j := 0) rfl ?_
  refine r_aaldS hC dX2_readKeyword_23 (j := 0) gT_kw ⟨by decide, by decide, by decide⟩ ?_
  show Wp X 0 0 w [(5, .int 0), (4, .int 8), (3, .ref 1000001), (2, .int 0), (0, .ref t), (1, .ref (t + 3 + i))] [.ref 1000020] 24
  refine r_astore hC dX2_readKeyword_24 (by rw [hnl]; decide) (L' := [(6, .ref 1000020), (5, .int 0), (4, .int 8), (3, .ref 1000001), (2, .int 0), (0, .ref t), (1, .ref (t + 3 + i))]) rfl ?_
  refine r_aload_n hC dX2_readKeyword_26 rfl (j := 5) rfl ?_
  refine r_aload hC dX2_readKeyword_27 (j := 0) rfl ?_
  refine r_getk hC gX2_readKeyword_29 (v := .ref 1000030) (List.mem_of_getElem? (i := 1) rfl) ?_
  refine r_callV hC (vs := [.ref 1000030]) vX2_readKeyword_32 (sx_alike (d := d) H hl hh kw_0) ho rfl rfl (by omega) (by omega) (by omega) (Nat.le_of_ble_eq_true rfl) (fun v_1 w_1 hP_1 hlen_1 => ?_) (fun _ _ h => h.elim)
  rw [hP_1.1, hP_1.2]
  show Wp X 0 0 w [(6, .ref 1000020), (5, .int 0), (4, .int 8), (3, .ref 1000001), (2, .int 0), (0, .ref t), (1, .ref (t + 3 + i))] [.int (nI (cAl (tT tx) tx.length mSt30 h))] 35
  rw [← hA0]
  refine r_istore hC dX2_readKeyword_35 (by rw [hnl]; decide) (L' := [(7, .int (nI (A 0))), (6, .ref 1000020), (5, .int 0), (4, .int 8), (3, .ref 1000001), (2, .int 0), (0, .ref t), (1, .ref (t + 3 + i))]) rfl ?_
  refine r_iload hC dX2_readKeyword_37 (j := 0) rfl ?_
  refine r_aload hC dX2_readKeyword_39 (j := 1) rfl ?_
  refine r_getk hC gX2_readKeyword_41 (v := .ref 1000030) (List.mem_of_getElem? (i := 1) rfl) ?_
  refine r_callXK hC (vs := []) vX2_readKeyword_44.x (sk_len (d := d) kw_0.1 kw_0.2.1 kw_0.2.2.1 kw_0.2.2.2.1) kw_0.2.2.1 rfl (by omega) (by omega) (by omega) (Nat.le_of_ble_eq_true rfl) (fun v_2 w_2 hP_2 hlen_2 => ?_)
  rw [hP_2.1, hP_2.2]
  show Wp X 0 0 w [(7, .int (nI (A 0))), (6, .ref 1000020), (5, .int 0), (4, .int 8), (3, .ref 1000001), (2, .int 0), (0, .ref t), (1, .ref (t + 3 + i))] [.int (nI mSt30.length), .int (nI (A 0))] 47
  refine r_icmp_ne hC dX2_readKeyword_47 (tgt := 69) (by decide) (fun c47_0 => ?_) (fun c47_0 => ?_)
  · refine r_iload_n hC dX2_readKeyword_69 rfl (j := 5) rfl ?_
    refine r_iload hC dX2_readKeyword_70 (j := 0) rfl ?_
    refine r_max hC vX2_readKeyword_72 (Nat.le_of_ble_eq_true rfl) (by omega) (by omega) (by omega) ?_
    rw [show (if (0 : Int32) < nI (A 0) then nI (A 0) else 0) = nI (max 0 (A 0)) from nI_max (g := 0) (p := A 0) (by omega) (by omega)]
    refine r_istore_n hC dX2_readKeyword_75 rfl (by rw [hnl]; decide) (L' := [(2, .int (nI (max 0 (A 0)))), (7, .int (nI (A 0))), (6, .ref 1000020), (5, .int 0), (4, .int 8), (3, .ref 1000001), (0, .ref t), (1, .ref (t + 3 + i))]) rfl ?_
    refine r_iinc hC dX2_readKeyword_76 (j := 3) rfl (v := 1) (by decide) (by rw [hnl]; decide) (L' := [(5, .int 1), (2, .int (nI (max 0 (A 0)))), (7, .int (nI (A 0))), (6, .ref 1000020), (4, .int 8), (3, .ref 1000001), (0, .ref t), (1, .ref (t + 3 + i))]) rfl ?_
    refine r_goto hC dX2_readKeyword_79 (tgt := 13) (by decide) ?_
    refine r_iload hC dX2_readKeyword_13 (j := 0) rfl ?_
    refine r_iload hC dX2_readKeyword_15 (j := 4) rfl ?_
    refine r_icmp_ge hC dX2_readKeyword_17 (tgt := 82) (by decide) (fun h => absurd h (by decide)) (fun _ => ?_)
    refine r_aload_n hC dX2_readKeyword_20 rfl (j := 5) rfl ?_
    refine r_iload hC dX2_readKeyword_21 (j := 0) rfl ?_
    refine r_aaldS hC dX2_readKeyword_23 (j := 1) gT_kw ⟨by decide, by decide, by decide⟩ ?_
    show Wp X 0 0 w [(5, .int 1), (2, .int (nI (max 0 (A 0)))), (7, .int (nI (A 0))), (6, .ref 1000020), (4, .int 8), (3, .ref 1000001), (0, .ref t), (1, .ref (t + 3 + i))] [.ref 1000021] 24
    refine r_astore hC dX2_readKeyword_24 (by rw [hnl]; decide) (L' := [(6, .ref 1000021), (5, .int 1), (2, .int (nI (max 0 (A 0)))), (7, .int (nI (A 0))), (4, .int 8), (3, .ref 1000001), (0, .ref t), (1, .ref (t + 3 + i))]) rfl ?_
    refine r_aload_n hC dX2_readKeyword_26 rfl (j := 6) rfl ?_
    refine r_aload hC dX2_readKeyword_27 (j := 0) rfl ?_
    refine r_getk hC gX2_readKeyword_29 (v := .ref 1000031) (List.mem_of_getElem? (i := 4) rfl) ?_
    refine r_callV hC (vs := [.ref 1000031]) vX2_readKeyword_32 (sx_alike (d := d) H hl hh kw_1) ho rfl rfl (by omega) (by omega) (by omega) (Nat.le_of_ble_eq_true rfl) (fun v_4 w_4 hP_4 hlen_4 => ?_) (fun _ _ h => h.elim)
    rw [hP_4.1, hP_4.2]
    show Wp X 0 0 w [(6, .ref 1000021), (5, .int 1), (2, .int (nI (max 0 (A 0)))), (7, .int (nI (A 0))), (4, .int 8), (3, .ref 1000001), (0, .ref t), (1, .ref (t + 3 + i))] [.int (nI (cAl (tT tx) tx.length mSt31 h))] 35
    rw [← hA1]
    refine r_istore hC dX2_readKeyword_35 (by rw [hnl]; decide) (L' := [(7, .int (nI (A 1))), (6, .ref 1000021), (5, .int 1), (2, .int (nI (max 0 (A 0)))), (4, .int 8), (3, .ref 1000001), (0, .ref t), (1, .ref (t + 3 + i))]) rfl ?_
    refine r_iload hC dX2_readKeyword_37 (j := 0) rfl ?_
    refine r_aload hC dX2_readKeyword_39 (j := 1) rfl ?_
    refine r_getk hC gX2_readKeyword_41 (v := .ref 1000031) (List.mem_of_getElem? (i := 4) rfl) ?_
    refine r_callXK hC (vs := []) vX2_readKeyword_44.x (sk_len (d := d) kw_1.1 kw_1.2.1 kw_1.2.2.1 kw_1.2.2.2.1) kw_1.2.2.1 rfl (by omega) (by omega) (by omega) (Nat.le_of_ble_eq_true rfl) (fun v_5 w_5 hP_5 hlen_5 => ?_)
    rw [hP_5.1, hP_5.2]
    show Wp X 0 0 w [(7, .int (nI (A 1))), (6, .ref 1000021), (5, .int 1), (2, .int (nI (max 0 (A 0)))), (4, .int 8), (3, .ref 1000001), (0, .ref t), (1, .ref (t + 3 + i))] [.int (nI mSt31.length), .int (nI (A 1))] 47
    refine r_icmp_ne hC dX2_readKeyword_47 (tgt := 69) (by decide) (fun c47_1 => ?_) (fun c47_1 => ?_)
    · refine r_iload_n hC dX2_readKeyword_69 rfl (j := 3) rfl ?_
      refine r_iload hC dX2_readKeyword_70 (j := 0) rfl ?_
      refine r_max hC vX2_readKeyword_72 (Nat.le_of_ble_eq_true rfl) (by omega) (by omega) (by omega) ?_
      rw [nI_max (g := (max 0 (A 0))) (p := A 1) (by omega) (by omega)]
      refine r_istore_n hC dX2_readKeyword_75 rfl (by rw [hnl]; decide) (L' := [(2, .int (nI (max (max 0 (A 0)) (A 1)))), (7, .int (nI (A 1))), (6, .ref 1000021), (5, .int 1), (4, .int 8), (3, .ref 1000001), (0, .ref t), (1, .ref (t + 3 + i))]) rfl ?_
      refine r_iinc hC dX2_readKeyword_76 (j := 3) rfl (v := 2) (by decide) (by rw [hnl]; decide) (L' := [(5, .int 2), (2, .int (nI (max (max 0 (A 0)) (A 1)))), (7, .int (nI (A 1))), (6, .ref 1000021), (4, .int 8), (3, .ref 1000001), (0, .ref t), (1, .ref (t + 3 + i))]) rfl ?_
      refine r_goto hC dX2_readKeyword_79 (tgt := 13) (by decide) ?_
      refine r_iload hC dX2_readKeyword_13 (j := 0) rfl ?_
      refine r_iload hC dX2_readKeyword_15 (j := 4) rfl ?_
      refine r_icmp_ge hC dX2_readKeyword_17 (tgt := 82) (by decide) (fun h => absurd h (by decide)) (fun _ => ?_)
      refine r_aload_n hC dX2_readKeyword_20 rfl (j := 5) rfl ?_
      refine r_iload hC dX2_readKeyword_21 (j := 0) rfl ?_
      refine r_aaldS hC dX2_readKeyword_23 (j := 2) gT_kw ⟨by decide, by decide, by decide⟩ ?_
      show Wp X 0 0 w [(5, .int 2), (2, .int (nI (max (max 0 (A 0)) (A 1)))), (7, .int (nI (A 1))), (6, .ref 1000021), (4, .int 8), (3, .ref 1000001), (0, .ref t), (1, .ref (t + 3 + i))] [.ref 1000022] 24
      refine r_astore hC dX2_readKeyword_24 (by rw [hnl]; decide) (L' := [(6, .ref 1000022), (5, .int 2), (2, .int (nI (max (max 0 (A 0)) (A 1)))), (7, .int (nI (A 1))), (4, .int 8), (3, .ref 1000001), (0, .ref t), (1, .ref (t + 3 + i))]) rfl ?_
      refine r_aload_n hC dX2_readKeyword_26 rfl (j := 6) rfl ?_
      refine r_aload hC dX2_readKeyword_27 (j := 0) rfl ?_
      refine r_getk hC gX2_readKeyword_29 (v := .ref 1000032) (List.mem_of_getElem? (i := 7) rfl) ?_
      refine r_callV hC (vs := [.ref 1000032]) vX2_readKeyword_32 (sx_alike (d := d) H hl hh kw_2) ho rfl rfl (by omega) (by omega) (by omega) (Nat.le_of_ble_eq_true rfl) (fun v_7 w_7 hP_7 hlen_7 => ?_) (fun _ _ h => h.elim)
      rw [hP_7.1, hP_7.2]
      show Wp X 0 0 w [(6, .ref 1000022), (5, .int 2), (2, .int (nI (max (max 0 (A 0)) (A 1)))), (7, .int (nI (A 1))), (4, .int 8), (3, .ref 1000001), (0, .ref t), (1, .ref (t + 3 + i))] [.int (nI (cAl (tT tx) tx.length mSt32 h))] 35
      rw [← hA2]
      refine r_istore hC dX2_readKeyword_35 (by rw [hnl]; decide) (L' := [(7, .int (nI (A 2))), (6, .ref 1000022), (5, .int 2), (2, .int (nI (max (max 0 (A 0)) (A 1)))), (4, .int 8), (3, .ref 1000001), (0, .ref t), (1, .ref (t + 3 + i))]) rfl ?_
      refine r_iload hC dX2_readKeyword_37 (j := 0) rfl ?_
      refine r_aload hC dX2_readKeyword_39 (j := 1) rfl ?_
      refine r_getk hC gX2_readKeyword_41 (v := .ref 1000032) (List.mem_of_getElem? (i := 7) rfl) ?_
      refine r_callXK hC (vs := []) vX2_readKeyword_44.x (sk_len (d := d) kw_2.1 kw_2.2.1 kw_2.2.2.1 kw_2.2.2.2.1) kw_2.2.2.1 rfl (by omega) (by omega) (by omega) (Nat.le_of_ble_eq_true rfl) (fun v_8 w_8 hP_8 hlen_8 => ?_)
      rw [hP_8.1, hP_8.2]
      show Wp X 0 0 w [(7, .int (nI (A 2))), (6, .ref 1000022), (5, .int 2), (2, .int (nI (max (max 0 (A 0)) (A 1)))), (4, .int 8), (3, .ref 1000001), (0, .ref t), (1, .ref (t + 3 + i))] [.int (nI mSt32.length), .int (nI (A 2))] 47
      refine r_icmp_ne hC dX2_readKeyword_47 (tgt := 69) (by decide) (fun c47_2 => ?_) (fun c47_2 => ?_)
      · refine r_iload_n hC dX2_readKeyword_69 rfl (j := 3) rfl ?_
        refine r_iload hC dX2_readKeyword_70 (j := 0) rfl ?_
        refine r_max hC vX2_readKeyword_72 (Nat.le_of_ble_eq_true rfl) (by omega) (by omega) (by omega) ?_
        rw [nI_max (g := (max (max 0 (A 0)) (A 1))) (p := A 2) (by omega) (by omega)]
        refine r_istore_n hC dX2_readKeyword_75 rfl (by rw [hnl]; decide) (L' := [(2, .int (nI (max (max (max 0 (A 0)) (A 1)) (A 2)))), (7, .int (nI (A 2))), (6, .ref 1000022), (5, .int 2), (4, .int 8), (3, .ref 1000001), (0, .ref t), (1, .ref (t + 3 + i))]) rfl ?_
        refine r_iinc hC dX2_readKeyword_76 (j := 3) rfl (v := 3) (by decide) (by rw [hnl]; decide) (L' := [(5, .int 3), (2, .int (nI (max (max (max 0 (A 0)) (A 1)) (A 2)))), (7, .int (nI (A 2))), (6, .ref 1000022), (4, .int 8), (3, .ref 1000001), (0, .ref t), (1, .ref (t + 3 + i))]) rfl ?_
        refine r_goto hC dX2_readKeyword_79 (tgt := 13) (by decide) ?_
        refine r_iload hC dX2_readKeyword_13 (j := 0) rfl ?_
        refine r_iload hC dX2_readKeyword_15 (j := 4) rfl ?_
        refine r_icmp_ge hC dX2_readKeyword_17 (tgt := 82) (by decide) (fun h => absurd h (by decide)) (fun _ => ?_)
        refine r_aload_n hC dX2_readKeyword_20 rfl (j := 5) rfl ?_
        refine r_iload hC dX2_readKeyword_21 (j := 0) rfl ?_
        refine r_aaldS hC dX2_readKeyword_23 (j := 3) gT_kw ⟨by decide, by decide, by decide⟩ ?_
        show Wp X 0 0 w [(5, .int 3), (2, .int (nI (max (max (max 0 (A 0)) (A 1)) (A 2)))), (7, .int (nI (A 2))), (6, .ref 1000022), (4, .int 8), (3, .ref 1000001), (0, .ref t), (1, .ref (t + 3 + i))] [.ref 1000023] 24
        refine r_astore hC dX2_readKeyword_24 (by rw [hnl]; decide) (L' := [(6, .ref 1000023), (5, .int 3), (2, .int (nI (max (max (max 0 (A 0)) (A 1)) (A 2)))), (7, .int (nI (A 2))), (4, .int 8), (3, .ref 1000001), (0, .ref t), (1, .ref (t + 3 + i))]) rfl ?_
        refine r_aload_n hC dX2_readKeyword_26 rfl (j := 6) rfl ?_
        refine r_aload hC dX2_readKeyword_27 (j := 0) rfl ?_
        refine r_getk hC gX2_readKeyword_29 (v := .ref 1000033) (List.mem_of_getElem? (i := 10) rfl) ?_
        refine r_callV hC (vs := [.ref 1000033]) vX2_readKeyword_32 (sx_alike (d := d) H hl hh kw_3) ho rfl rfl (by omega) (by omega) (by omega) (Nat.le_of_ble_eq_true rfl) (fun v_10 w_10 hP_10 hlen_10 => ?_) (fun _ _ h => h.elim)
        rw [hP_10.1, hP_10.2]
        show Wp X 0 0 w [(6, .ref 1000023), (5, .int 3), (2, .int (nI (max (max (max 0 (A 0)) (A 1)) (A 2)))), (7, .int (nI (A 2))), (4, .int 8), (3, .ref 1000001), (0, .ref t), (1, .ref (t + 3 + i))] [.int (nI (cAl (tT tx) tx.length mSt33 h))] 35
        rw [← hA3]
        refine r_istore hC dX2_readKeyword_35 (by rw [hnl]; decide) (L' := [(7, .int (nI (A 3))), (6, .ref 1000023), (5, .int 3), (2, .int (nI (max (max (max 0 (A 0)) (A 1)) (A 2)))), (4, .int 8), (3, .ref 1000001), (0, .ref t), (1, .ref (t + 3 + i))]) rfl ?_
        refine r_iload hC dX2_readKeyword_37 (j := 0) rfl ?_
        refine r_aload hC dX2_readKeyword_39 (j := 1) rfl ?_
        refine r_getk hC gX2_readKeyword_41 (v := .ref 1000033) (List.mem_of_getElem? (i := 10) rfl) ?_
        refine r_callXK hC (vs := []) vX2_readKeyword_44.x (sk_len (d := d) kw_3.1 kw_3.2.1 kw_3.2.2.1 kw_3.2.2.2.1) kw_3.2.2.1 rfl (by omega) (by omega) (by omega) (Nat.le_of_ble_eq_true rfl) (fun v_11 w_11 hP_11 hlen_11 => ?_)
        rw [hP_11.1, hP_11.2]
        show Wp X 0 0 w [(7, .int (nI (A 3))), (6, .ref 1000023), (5, .int 3), (2, .int (nI (max (max (max 0 (A 0)) (A 1)) (A 2)))), (4, .int 8), (3, .ref 1000001), (0, .ref t), (1, .ref (t + 3 + i))] [.int (nI mSt33.length), .int (nI (A 3))] 47
        refine r_icmp_ne hC dX2_readKeyword_47 (tgt := 69) (by decide) (fun c47_3 => ?_) (fun c47_3 => ?_)
        · refine r_iload_n hC dX2_readKeyword_69 rfl (j := 3) rfl ?_
          refine r_iload hC dX2_readKeyword_70 (j := 0) rfl ?_
          refine r_max hC vX2_readKeyword_72 (Nat.le_of_ble_eq_true rfl) (by omega) (by omega) (by omega) ?_
          rw [nI_max (g := (max (max (max 0 (A 0)) (A 1)) (A 2))) (p := A 3) (by omega) (by omega)]
          refine r_istore_n hC dX2_readKeyword_75 rfl (by rw [hnl]; decide) (L' := [(2, .int (nI (max (max (max (max 0 (A 0)) (A 1)) (A 2)) (A 3)))), (7, .int (nI (A 3))), (6, .ref 1000023), (5, .int 3), (4, .int 8), (3, .ref 1000001), (0, .ref t), (1, .ref (t + 3 + i))]) rfl ?_
          refine r_iinc hC dX2_readKeyword_76 (j := 3) rfl (v := 4) (by decide) (by rw [hnl]; decide) (L' := [(5, .int 4), (2, .int (nI (max (max (max (max 0 (A 0)) (A 1)) (A 2)) (A 3)))), (7, .int (nI (A 3))), (6, .ref 1000023), (4, .int 8), (3, .ref 1000001), (0, .ref t), (1, .ref (t + 3 + i))]) rfl ?_
          refine r_goto hC dX2_readKeyword_79 (tgt := 13) (by decide) ?_
          refine r_iload hC dX2_readKeyword_13 (j := 0) rfl ?_
          refine r_iload hC dX2_readKeyword_15 (j := 4) rfl ?_
          refine r_icmp_ge hC dX2_readKeyword_17 (tgt := 82) (by decide) (fun h => absurd h (by decide)) (fun _ => ?_)
          refine r_aload_n hC dX2_readKeyword_20 rfl (j := 5) rfl ?_
          refine r_iload hC dX2_readKeyword_21 (j := 0) rfl ?_
          refine r_aaldS hC dX2_readKeyword_23 (j := 4) gT_kw ⟨by decide, by decide, by decide⟩ ?_
          show Wp X 0 0 w [(5, .int 4), (2, .int (nI (max (max (max (max 0 (A 0)) (A 1)) (A 2)) (A 3)))), (7, .int (nI (A 3))), (6, .ref 1000023), (4, .int 8), (3, .ref 1000001), (0, .ref t), (1, .ref (t + 3 + i))] [.ref 1000024] 24
          refine r_astore hC dX2_readKeyword_24 (by rw [hnl]; decide) (L' := [(6, .ref 1000024), (5, .int 4), (2, .int (nI (max (max (max (max 0 (A 0)) (A 1)) (A 2)) (A 3)))), (7, .int (nI (A 3))), (4, .int 8), (3, .ref 1000001), (0, .ref t), (1, .ref (t + 3 + i))]) rfl ?_
          refine r_aload_n hC dX2_readKeyword_26 rfl (j := 6) rfl ?_
          refine r_aload hC dX2_readKeyword_27 (j := 0) rfl ?_
          refine r_getk hC gX2_readKeyword_29 (v := .ref 1000034) (List.mem_of_getElem? (i := 13) rfl) ?_
          refine r_callV hC (vs := [.ref 1000034]) vX2_readKeyword_32 (sx_alike (d := d) H hl hh kw_4) ho rfl rfl (by omega) (by omega) (by omega) (Nat.le_of_ble_eq_true rfl) (fun v_13 w_13 hP_13 hlen_13 => ?_) (fun _ _ h => h.elim)
          rw [hP_13.1, hP_13.2]
          show Wp X 0 0 w [(6, .ref 1000024), (5, .int 4), (2, .int (nI (max (max (max (max 0 (A 0)) (A 1)) (A 2)) (A 3)))), (7, .int (nI (A 3))), (4, .int 8), (3, .ref 1000001), (0, .ref t), (1, .ref (t + 3 + i))] [.int (nI (cAl (tT tx) tx.length mSt34 h))] 35
          rw [← hA4]
          refine r_istore hC dX2_readKeyword_35 (by rw [hnl]; decide) (L' := [(7, .int (nI (A 4))), (6, .ref 1000024), (5, .int 4), (2, .int (nI (max (max (max (max 0 (A 0)) (A 1)) (A 2)) (A 3)))), (4, .int 8), (3, .ref 1000001), (0, .ref t), (1, .ref (t + 3 + i))]) rfl ?_
          refine r_iload hC dX2_readKeyword_37 (j := 0) rfl ?_
          refine r_aload hC dX2_readKeyword_39 (j := 1) rfl ?_
          refine r_getk hC gX2_readKeyword_41 (v := .ref 1000034) (List.mem_of_getElem? (i := 13) rfl) ?_
          refine r_callXK hC (vs := []) vX2_readKeyword_44.x (sk_len (d := d) kw_4.1 kw_4.2.1 kw_4.2.2.1 kw_4.2.2.2.1) kw_4.2.2.1 rfl (by omega) (by omega) (by omega) (Nat.le_of_ble_eq_true rfl) (fun v_14 w_14 hP_14 hlen_14 => ?_)
          rw [hP_14.1, hP_14.2]
          show Wp X 0 0 w [(7, .int (nI (A 4))), (6, .ref 1000024), (5, .int 4), (2, .int (nI (max (max (max (max 0 (A 0)) (A 1)) (A 2)) (A 3)))), (4, .int 8), (3, .ref 1000001), (0, .ref t), (1, .ref (t + 3 + i))] [.int (nI mSt34.length), .int (nI (A 4))] 47
          refine r_icmp_ne hC dX2_readKeyword_47 (tgt := 69) (by decide) (fun c47_4 => ?_) (fun c47_4 => ?_)
          · refine r_iload_n hC dX2_readKeyword_69 rfl (j := 3) rfl ?_
            refine r_iload hC dX2_readKeyword_70 (j := 0) rfl ?_
            refine r_max hC vX2_readKeyword_72 (Nat.le_of_ble_eq_true rfl) (by omega) (by omega) (by omega) ?_
            rw [nI_max (g := (max (max (max (max 0 (A 0)) (A 1)) (A 2)) (A 3))) (p := A 4) (by omega) (by omega)]
            refine r_istore_n hC dX2_readKeyword_75 rfl (by rw [hnl]; decide) (L' := [(2, .int (nI (max (max (max (max (max 0 (A 0)) (A 1)) (A 2)) (A 3)) (A 4)))), (7, .int (nI (A 4))), (6, .ref 1000024), (5, .int 4), (4, .int 8), (3, .ref 1000001), (0, .ref t), (1, .ref (t + 3 + i))]) rfl ?_
            refine r_iinc hC dX2_readKeyword_76 (j := 3) rfl (v := 5) (by decide) (by rw [hnl]; decide) (L' := [(5, .int 5), (2, .int (nI (max (max (max (max (max 0 (A 0)) (A 1)) (A 2)) (A 3)) (A 4)))), (7, .int (nI (A 4))), (6, .ref 1000024), (4, .int 8), (3, .ref 1000001), (0, .ref t), (1, .ref (t + 3 + i))]) rfl ?_
            refine r_goto hC dX2_readKeyword_79 (tgt := 13) (by decide) ?_
            refine r_iload hC dX2_readKeyword_13 (j := 0) rfl ?_
            refine r_iload hC dX2_readKeyword_15 (j := 4) rfl ?_
            refine r_icmp_ge hC dX2_readKeyword_17 (tgt := 82) (by decide) (fun h => absurd h (by decide)) (fun _ => ?_)
            refine r_aload_n hC dX2_readKeyword_20 rfl (j := 5) rfl ?_
            refine r_iload hC dX2_readKeyword_21 (j := 0) rfl ?_
            refine r_aaldS hC dX2_readKeyword_23 (j := 5) gT_kw ⟨by decide, by decide, by decide⟩ ?_
            show Wp X 0 0 w [(5, .int 5), (2, .int (nI (max (max (max (max (max 0 (A 0)) (A 1)) (A 2)) (A 3)) (A 4)))), (7, .int (nI (A 4))), (6, .ref 1000024), (4, .int 8), (3, .ref 1000001), (0, .ref t), (1, .ref (t + 3 + i))] [.ref 1000025] 24
            refine r_astore hC dX2_readKeyword_24 (by rw [hnl]; decide) (L' := [(6, .ref 1000025), (5, .int 5), (2, .int (nI (max (max (max (max (max 0 (A 0)) (A 1)) (A 2)) (A 3)) (A 4)))), (7, .int (nI (A 4))), (4, .int 8), (3, .ref 1000001), (0, .ref t), (1, .ref (t + 3 + i))]) rfl ?_
            refine r_aload_n hC dX2_readKeyword_26 rfl (j := 6) rfl ?_
            refine r_aload hC dX2_readKeyword_27 (j := 0) rfl ?_
            refine r_getk hC gX2_readKeyword_29 (v := .ref 1000035) (List.mem_of_getElem? (i := 16) rfl) ?_
            refine r_callV hC (vs := [.ref 1000035]) vX2_readKeyword_32 (sx_alike (d := d) H hl hh kw_5) ho rfl rfl (by omega) (by omega) (by omega) (Nat.le_of_ble_eq_true rfl) (fun v_16 w_16 hP_16 hlen_16 => ?_) (fun _ _ h => h.elim)
            rw [hP_16.1, hP_16.2]
            show Wp X 0 0 w [(6, .ref 1000025), (5, .int 5), (2, .int (nI (max (max (max (max (max 0 (A 0)) (A 1)) (A 2)) (A 3)) (A 4)))), (7, .int (nI (A 4))), (4, .int 8), (3, .ref 1000001), (0, .ref t), (1, .ref (t + 3 + i))] [.int (nI (cAl (tT tx) tx.length mSt35 h))] 35
            rw [← hA5]
            refine r_istore hC dX2_readKeyword_35 (by rw [hnl]; decide) (L' := [(7, .int (nI (A 5))), (6, .ref 1000025), (5, .int 5), (2, .int (nI (max (max (max (max (max 0 (A 0)) (A 1)) (A 2)) (A 3)) (A 4)))), (4, .int 8), (3, .ref 1000001), (0, .ref t), (1, .ref (t + 3 + i))]) rfl ?_
            refine r_iload hC dX2_readKeyword_37 (j := 0) rfl ?_
            refine r_aload hC dX2_readKeyword_39 (j := 1) rfl ?_
            refine r_getk hC gX2_readKeyword_41 (v := .ref 1000035) (List.mem_of_getElem? (i := 16) rfl) ?_
            refine r_callXK hC (vs := []) vX2_readKeyword_44.x (sk_len (d := d) kw_5.1 kw_5.2.1 kw_5.2.2.1 kw_5.2.2.2.1) kw_5.2.2.1 rfl (by omega) (by omega) (by omega) (Nat.le_of_ble_eq_true rfl) (fun v_17 w_17 hP_17 hlen_17 => ?_)
            rw [hP_17.1, hP_17.2]
            show Wp X 0 0 w [(7, .int (nI (A 5))), (6, .ref 1000025), (5, .int 5), (2, .int (nI (max (max (max (max (max 0 (A 0)) (A 1)) (A 2)) (A 3)) (A 4)))), (4, .int 8), (3, .ref 1000001), (0, .ref t), (1, .ref (t + 3 + i))] [.int (nI mSt35.length), .int (nI (A 5))] 47
            refine r_icmp_ne hC dX2_readKeyword_47 (tgt := 69) (by decide) (fun c47_5 => ?_) (fun c47_5 => ?_)
            · refine r_iload_n hC dX2_readKeyword_69 rfl (j := 3) rfl ?_
              refine r_iload hC dX2_readKeyword_70 (j := 0) rfl ?_
              refine r_max hC vX2_readKeyword_72 (Nat.le_of_ble_eq_true rfl) (by omega) (by omega) (by omega) ?_
              rw [nI_max (g := (max (max (max (max (max 0 (A 0)) (A 1)) (A 2)) (A 3)) (A 4))) (p := A 5) (by omega) (by omega)]
              refine r_istore_n hC dX2_readKeyword_75 rfl (by rw [hnl]; decide) (L' := [(2, .int (nI (max (max (max (max (max (max 0 (A 0)) (A 1)) (A 2)) (A 3)) (A 4)) (A 5)))), (7, .int (nI (A 5))), (6, .ref 1000025), (5, .int 5), (4, .int 8), (3, .ref 1000001), (0, .ref t), (1, .ref (t + 3 + i))]) rfl ?_
              refine r_iinc hC dX2_readKeyword_76 (j := 3) rfl (v := 6) (by decide) (by rw [hnl]; decide) (L' := [(5, .int 6), (2, .int (nI (max (max (max (max (max (max 0 (A 0)) (A 1)) (A 2)) (A 3)) (A 4)) (A 5)))), (7, .int (nI (A 5))), (6, .ref 1000025), (4, .int 8), (3, .ref 1000001), (0, .ref t), (1, .ref (t + 3 + i))]) rfl ?_
              refine r_goto hC dX2_readKeyword_79 (tgt := 13) (by decide) ?_
              refine r_iload hC dX2_readKeyword_13 (j := 0) rfl ?_
              refine r_iload hC dX2_readKeyword_15 (j := 4) rfl ?_
              refine r_icmp_ge hC dX2_readKeyword_17 (tgt := 82) (by decide) (fun h => absurd h (by decide)) (fun _ => ?_)
              refine r_aload_n hC dX2_readKeyword_20 rfl (j := 5) rfl ?_
              refine r_iload hC dX2_readKeyword_21 (j := 0) rfl ?_
              refine r_aaldS hC dX2_readKeyword_23 (j := 6) gT_kw ⟨by decide, by decide, by decide⟩ ?_
              show Wp X 0 0 w [(5, .int 6), (2, .int (nI (max (max (max (max (max (max 0 (A 0)) (A 1)) (A 2)) (A 3)) (A 4)) (A 5)))), (7, .int (nI (A 5))), (6, .ref 1000025), (4, .int 8), (3, .ref 1000001), (0, .ref t), (1, .ref (t + 3 + i))] [.ref 1000026] 24
              refine r_astore hC dX2_readKeyword_24 (by rw [hnl]; decide) (L' := [(6, .ref 1000026), (5, .int 6), (2, .int (nI (max (max (max (max (max (max 0 (A 0)) (A 1)) (A 2)) (A 3)) (A 4)) (A 5)))), (7, .int (nI (A 5))), (4, .int 8), (3, .ref 1000001), (0, .ref t), (1, .ref (t + 3 + i))]) rfl ?_
              refine r_aload_n hC dX2_readKeyword_26 rfl (j := 6) rfl ?_
              refine r_aload hC dX2_readKeyword_27 (j := 0) rfl ?_
              refine r_getk hC gX2_readKeyword_29 (v := .ref 1000036) (List.mem_of_getElem? (i := 19) rfl) ?_
              refine r_callV hC (vs := [.ref 1000036]) vX2_readKeyword_32 (sx_alike (d := d) H hl hh kw_6) ho rfl rfl (by omega) (by omega) (by omega) (Nat.le_of_ble_eq_true rfl) (fun v_19 w_19 hP_19 hlen_19 => ?_) (fun _ _ h => h.elim)
              rw [hP_19.1, hP_19.2]
              show Wp X 0 0 w [(6, .ref 1000026), (5, .int 6), (2, .int (nI (max (max (max (max (max (max 0 (A 0)) (A 1)) (A 2)) (A 3)) (A 4)) (A 5)))), (7, .int (nI (A 5))), (4, .int 8), (3, .ref 1000001), (0, .ref t), (1, .ref (t + 3 + i))] [.int (nI (cAl (tT tx) tx.length mSt36 h))] 35
              rw [← hA6]
              refine r_istore hC dX2_readKeyword_35 (by rw [hnl]; decide) (L' := [(7, .int (nI (A 6))), (6, .ref 1000026), (5, .int 6), (2, .int (nI (max (max (max (max (max (max 0 (A 0)) (A 1)) (A 2)) (A 3)) (A 4)) (A 5)))), (4, .int 8), (3, .ref 1000001), (0, .ref t), (1, .ref (t + 3 + i))]) rfl ?_
              refine r_iload hC dX2_readKeyword_37 (j := 0) rfl ?_
              refine r_aload hC dX2_readKeyword_39 (j := 1) rfl ?_
              refine r_getk hC gX2_readKeyword_41 (v := .ref 1000036) (List.mem_of_getElem? (i := 19) rfl) ?_
              refine r_callXK hC (vs := []) vX2_readKeyword_44.x (sk_len (d := d) kw_6.1 kw_6.2.1 kw_6.2.2.1 kw_6.2.2.2.1) kw_6.2.2.1 rfl (by omega) (by omega) (by omega) (Nat.le_of_ble_eq_true rfl) (fun v_20 w_20 hP_20 hlen_20 => ?_)
              rw [hP_20.1, hP_20.2]
              show Wp X 0 0 w [(7, .int (nI (A 6))), (6, .ref 1000026), (5, .int 6), (2, .int (nI (max (max (max (max (max (max 0 (A 0)) (A 1)) (A 2)) (A 3)) (A 4)) (A 5)))), (4, .int 8), (3, .ref 1000001), (0, .ref t), (1, .ref (t + 3 + i))] [.int (nI mSt36.length), .int (nI (A 6))] 47
              refine r_icmp_ne hC dX2_readKeyword_47 (tgt := 69) (by decide) (fun c47_6 => ?_) (fun c47_6 => ?_)
              · refine r_iload_n hC dX2_readKeyword_69 rfl (j := 3) rfl ?_
                refine r_iload hC dX2_readKeyword_70 (j := 0) rfl ?_
                refine r_max hC vX2_readKeyword_72 (Nat.le_of_ble_eq_true rfl) (by omega) (by omega) (by omega) ?_
                rw [nI_max (g := (max (max (max (max (max (max 0 (A 0)) (A 1)) (A 2)) (A 3)) (A 4)) (A 5))) (p := A 6) (by omega) (by omega)]
                refine r_istore_n hC dX2_readKeyword_75 rfl (by rw [hnl]; decide) (L' := [(2, .int (nI (max (max (max (max (max (max (max 0 (A 0)) (A 1)) (A 2)) (A 3)) (A 4)) (A 5)) (A 6)))), (7, .int (nI (A 6))), (6, .ref 1000026), (5, .int 6), (4, .int 8), (3, .ref 1000001), (0, .ref t), (1, .ref (t + 3 + i))]) rfl ?_
                refine r_iinc hC dX2_readKeyword_76 (j := 3) rfl (v := 7) (by decide) (by rw [hnl]; decide) (L' := [(5, .int 7), (2, .int (nI (max (max (max (max (max (max (max 0 (A 0)) (A 1)) (A 2)) (A 3)) (A 4)) (A 5)) (A 6)))), (7, .int (nI (A 6))), (6, .ref 1000026), (4, .int 8), (3, .ref 1000001), (0, .ref t), (1, .ref (t + 3 + i))]) rfl ?_
                refine r_goto hC dX2_readKeyword_79 (tgt := 13) (by decide) ?_
                refine r_iload hC dX2_readKeyword_13 (j := 0) rfl ?_
                refine r_iload hC dX2_readKeyword_15 (j := 4) rfl ?_
                refine r_icmp_ge hC dX2_readKeyword_17 (tgt := 82) (by decide) (fun h => absurd h (by decide)) (fun _ => ?_)
                refine r_aload_n hC dX2_readKeyword_20 rfl (j := 5) rfl ?_
                refine r_iload hC dX2_readKeyword_21 (j := 0) rfl ?_
                refine r_aaldS hC dX2_readKeyword_23 (j := 7) gT_kw ⟨by decide, by decide, by decide⟩ ?_
                show Wp X 0 0 w [(5, .int 7), (2, .int (nI (max (max (max (max (max (max (max 0 (A 0)) (A 1)) (A 2)) (A 3)) (A 4)) (A 5)) (A 6)))), (7, .int (nI (A 6))), (6, .ref 1000026), (4, .int 8), (3, .ref 1000001), (0, .ref t), (1, .ref (t + 3 + i))] [.ref 1000027] 24
                refine r_astore hC dX2_readKeyword_24 (by rw [hnl]; decide) (L' := [(6, .ref 1000027), (5, .int 7), (2, .int (nI (max (max (max (max (max (max (max 0 (A 0)) (A 1)) (A 2)) (A 3)) (A 4)) (A 5)) (A 6)))), (7, .int (nI (A 6))), (4, .int 8), (3, .ref 1000001), (0, .ref t), (1, .ref (t + 3 + i))]) rfl ?_
                refine r_aload_n hC dX2_readKeyword_26 rfl (j := 6) rfl ?_
                refine r_aload hC dX2_readKeyword_27 (j := 0) rfl ?_
                refine r_getk hC gX2_readKeyword_29 (v := .ref 1000037) (List.mem_of_getElem? (i := 22) rfl) ?_
                refine r_callV hC (vs := [.ref 1000037]) vX2_readKeyword_32 (sx_alike (d := d) H hl hh kw_7) ho rfl rfl (by omega) (by omega) (by omega) (Nat.le_of_ble_eq_true rfl) (fun v_22 w_22 hP_22 hlen_22 => ?_) (fun _ _ h => h.elim)
                rw [hP_22.1, hP_22.2]
                show Wp X 0 0 w [(6, .ref 1000027), (5, .int 7), (2, .int (nI (max (max (max (max (max (max (max 0 (A 0)) (A 1)) (A 2)) (A 3)) (A 4)) (A 5)) (A 6)))), (7, .int (nI (A 6))), (4, .int 8), (3, .ref 1000001), (0, .ref t), (1, .ref (t + 3 + i))] [.int (nI (cAl (tT tx) tx.length mSt37 h))] 35
                rw [← hA7]
                refine r_istore hC dX2_readKeyword_35 (by rw [hnl]; decide) (L' := [(7, .int (nI (A 7))), (6, .ref 1000027), (5, .int 7), (2, .int (nI (max (max (max (max (max (max (max 0 (A 0)) (A 1)) (A 2)) (A 3)) (A 4)) (A 5)) (A 6)))), (4, .int 8), (3, .ref 1000001), (0, .ref t), (1, .ref (t + 3 + i))]) rfl ?_
                refine r_iload hC dX2_readKeyword_37 (j := 0) rfl ?_
                refine r_aload hC dX2_readKeyword_39 (j := 1) rfl ?_
                refine r_getk hC gX2_readKeyword_41 (v := .ref 1000037) (List.mem_of_getElem? (i := 22) rfl) ?_
                refine r_callXK hC (vs := []) vX2_readKeyword_44.x (sk_len (d := d) kw_7.1 kw_7.2.1 kw_7.2.2.1 kw_7.2.2.2.1) kw_7.2.2.1 rfl (by omega) (by omega) (by omega) (Nat.le_of_ble_eq_true rfl) (fun v_23 w_23 hP_23 hlen_23 => ?_)
                rw [hP_23.1, hP_23.2]
                show Wp X 0 0 w [(7, .int (nI (A 7))), (6, .ref 1000027), (5, .int 7), (2, .int (nI (max (max (max (max (max (max (max 0 (A 0)) (A 1)) (A 2)) (A 3)) (A 4)) (A 5)) (A 6)))), (4, .int 8), (3, .ref 1000001), (0, .ref t), (1, .ref (t + 3 + i))] [.int (nI mSt37.length), .int (nI (A 7))] 47
                refine r_icmp_ne hC dX2_readKeyword_47 (tgt := 69) (by decide) (fun c47_7 => ?_) (fun c47_7 => ?_)
                · refine r_iload_n hC dX2_readKeyword_69 rfl (j := 3) rfl ?_
                  refine r_iload hC dX2_readKeyword_70 (j := 0) rfl ?_
                  refine r_max hC vX2_readKeyword_72 (Nat.le_of_ble_eq_true rfl) (by omega) (by omega) (by omega) ?_
                  rw [nI_max (g := (max (max (max (max (max (max (max 0 (A 0)) (A 1)) (A 2)) (A 3)) (A 4)) (A 5)) (A 6))) (p := A 7) (by omega) (by omega)]
                  refine r_istore_n hC dX2_readKeyword_75 rfl (by rw [hnl]; decide) (L' := [(2, .int (nI (max (max (max (max (max (max (max (max 0 (A 0)) (A 1)) (A 2)) (A 3)) (A 4)) (A 5)) (A 6)) (A 7)))), (7, .int (nI (A 7))), (6, .ref 1000027), (5, .int 7), (4, .int 8), (3, .ref 1000001), (0, .ref t), (1, .ref (t + 3 + i))]) rfl ?_
                  refine r_iinc hC dX2_readKeyword_76 (j := 3) rfl (v := 8) (by decide) (by rw [hnl]; decide) (L' := [(5, .int 8), (2, .int (nI (max (max (max (max (max (max (max (max 0 (A 0)) (A 1)) (A 2)) (A 3)) (A 4)) (A 5)) (A 6)) (A 7)))), (7, .int (nI (A 7))), (6, .ref 1000027), (4, .int 8), (3, .ref 1000001), (0, .ref t), (1, .ref (t + 3 + i))]) rfl ?_
                  refine r_goto hC dX2_readKeyword_79 (tgt := 13) (by decide) ?_
                  refine r_iload hC dX2_readKeyword_13 (j := 0) rfl ?_
                  refine r_iload hC dX2_readKeyword_15 (j := 4) rfl ?_
                  refine r_icmp_ge hC dX2_readKeyword_17 (tgt := 82) (by decide) (fun _ => ?_) (fun h => absurd (by decide) h)
                  refine r_aload_n hC dX2_readKeyword_82 rfl (j := 6) rfl ?_
                  refine r_dup hC dX2_readKeyword_83 rfl ?_
                  refine r_get hC gX2_readKeyword_84 ho (v := .int (nI h)) rfl ?_
                  refine r_iload_n hC dX2_readKeyword_87 rfl (j := 1) rfl ?_
                  refine r_iadd hC dX2_readKeyword_88 ?_
                  rw [nI_add h (max (max (max (max (max (max (max (max 0 (A 0)) (A 1)) (A 2)) (A 3)) (A 4)) (A 5)) (A 6)) (A 7))]
                  refine r_put' hC pX2_readKeyword_89 ho (Nat.le_of_ble_eq_true rfl) (fun _ => rfl) (fun _ => rfl) (fun w_25 ew_25 => ?_)
                  have hf25_t : w_25[t]? = some (mO 5 [.ref (t + 1), .ref (t + 2), .int cn, .int (nI (h + (max (max (max (max (max (max (max (max 0 (A 0)) (A 1)) (A 2)) (A 3)) (A 4)) (A 5)) (A 6)) (A 7))))]) := by rw [ew_25]; exact List.getElem?_set_self (lt_of_get ho)
                  have hf25__t___1_ : w_25[(t + 1)]? = some (mT tx) := by rw [ew_25, List.getElem?_set_ne (by omega)]; exact hs
                  have hf25__t___3___i_ : w_25[(t + 3 + i)]? = some (mO 4 [.ref kw, .int x1, .int x2, .int x3]) := by rw [ew_25, List.getElem?_set_ne (by omega)]; exact hc
                  refine r_iconst hC dX2_readKeyword_92 (v := 0) (by decide) ?_
                  refine r_nret hC hE hR dX2_readKeyword_93 (by decide) (by omega) (by omega) (by simp only [ew_25, List.length_set]) ?_
                  have n0 : ¬ cAl (tT tx) tx.length mSt30 h = mSt30.length := fun z => c47_0 (by rw [hA0, z])
                  have n1 : ¬ cAl (tT tx) tx.length mSt31 h = mSt31.length := fun z => c47_1 (by rw [hA1, z])
                  have n2 : ¬ cAl (tT tx) tx.length mSt32 h = mSt32.length := fun z => c47_2 (by rw [hA2, z])
                  have n3 : ¬ cAl (tT tx) tx.length mSt33 h = mSt33.length := fun z => c47_3 (by rw [hA3, z])
                  have n4 : ¬ cAl (tT tx) tx.length mSt34 h = mSt34.length := fun z => c47_4 (by rw [hA4, z])
                  have n5 : ¬ cAl (tT tx) tx.length mSt35 h = mSt35.length := fun z => c47_5 (by rw [hA5, z])
                  have n6 : ¬ cAl (tT tx) tx.length mSt36 h = mSt36.length := fun z => c47_6 (by rw [hA6, z])
                  have n7 : ¬ cAl (tT tx) tx.length mSt37 h = mSt37.length := fun z => c47_7 (by rw [hA7, z])
                  have e9 : cKey (tT tx) tx.length h kwL 0 0 = (none, h + (max (max (max (max (max (max (max (max 0 (A 0)) (A 1)) (A 2)) (A 3)) (A 4)) (A 5)) (A 6)) (A 7))) := by
                    rw [hA0, hA1, hA2, hA3, hA4, hA5, hA6, hA7]
                    exact (cKey_n n0).trans ((cKey_n n1).trans ((cKey_n n2).trans ((cKey_n n3).trans ((cKey_n n4).trans ((cKey_n n5).trans ((cKey_n n6).trans ((cKey_n n7).trans (cKey_0))))))))
                  exact Or.inr ⟨h + (max (max (max (max (max (max (max (max 0 (A 0)) (A 1)) (A 2)) (A 3)) (A 4)) (A 5)) (A 6)) (A 7)), e9, rfl, ew_25⟩
                · refine r_aload_n hC dX2_readKeyword_50 rfl (j := 6) rfl ?_
                  refine r_dup hC dX2_readKeyword_51 rfl ?_
                  refine r_get hC gX2_readKeyword_52 ho (v := .int (nI h)) rfl ?_
                  refine r_iload hC dX2_readKeyword_55 (j := 0) rfl ?_
                  refine r_iadd hC dX2_readKeyword_57 ?_
                  rw [nI_add h (A 7)]
                  refine r_put' hC pX2_readKeyword_58 ho (Nat.le_of_ble_eq_true rfl) (fun _ => rfl) (fun _ => rfl) (fun w_26 ew_26 => ?_)
                  have hf26_t : w_26[t]? = some (mO 5 [.ref (t + 1), .ref (t + 2), .int cn, .int (nI (h + A 7))]) := by rw [ew_26]; exact List.getElem?_set_self (lt_of_get ho)
                  have hf26__t___1_ : w_26[(t + 1)]? = some (mT tx) := by rw [ew_26, List.getElem?_set_ne (by omega)]; exact hs
                  have hf26__t___3___i_ : w_26[(t + 3 + i)]? = some (mO 4 [.ref kw, .int x1, .int x2, .int x3]) := by rw [ew_26, List.getElem?_set_ne (by omega)]; exact hc
                  refine r_aload_n hC dX2_readKeyword_61 rfl (j := 7) rfl ?_
                  refine r_aload hC dX2_readKeyword_62 (j := 1) rfl ?_
                  refine r_put' hC pX2_readKeyword_64 hf26__t___3___i_ (Nat.le_of_ble_eq_true rfl) (fun _ => rfl) (fun _ => rfl) (fun w_27 ew_27 => ?_)
                  have hf27_t : w_27[t]? = some (mO 5 [.ref (t + 1), .ref (t + 2), .int cn, .int (nI (h + A 7))]) := by rw [ew_27, List.getElem?_set_ne (by omega)]; exact hf26_t
                  have hf27__t___1_ : w_27[(t + 1)]? = some (mT tx) := by rw [ew_27, List.getElem?_set_ne (by omega)]; exact hf26__t___1_
                  have hf27__t___3___i_ : w_27[(t + 3 + i)]? = some (mO 4 [.ref 1000027, .int x1, .int x2, .int x3]) := by rw [ew_27]; exact List.getElem?_set_self (lt_of_get hf26__t___3___i_)
                  refine r_iconst hC dX2_readKeyword_67 (v := 1) (by decide) ?_
                  refine r_nret hC hE hR dX2_readKeyword_68 (by decide) (by omega) (by omega) (by simp only [ew_27, ew_26, List.length_set]) ?_
                  have n0 : ¬ cAl (tT tx) tx.length mSt30 h = mSt30.length := fun z => c47_0 (by rw [hA0, z])
                  have n1 : ¬ cAl (tT tx) tx.length mSt31 h = mSt31.length := fun z => c47_1 (by rw [hA1, z])
                  have n2 : ¬ cAl (tT tx) tx.length mSt32 h = mSt32.length := fun z => c47_2 (by rw [hA2, z])
                  have n3 : ¬ cAl (tT tx) tx.length mSt33 h = mSt33.length := fun z => c47_3 (by rw [hA3, z])
                  have n4 : ¬ cAl (tT tx) tx.length mSt34 h = mSt34.length := fun z => c47_4 (by rw [hA4, z])
                  have n5 : ¬ cAl (tT tx) tx.length mSt35 h = mSt35.length := fun z => c47_5 (by rw [hA5, z])
                  have n6 : ¬ cAl (tT tx) tx.length mSt36 h = mSt36.length := fun z => c47_6 (by rw [hA6, z])
                  have pk : cAl (tT tx) tx.length mSt37 h = mSt37.length := by rw [← hA7]; exact (nI_eq (by have := hb 7; omega) (by decide)).mp (c47_7)
                  have e9 : cKey (tT tx) tx.length h kwL 0 0 = (some 7, h + mSt37.length) := (cKey_n n0).trans ((cKey_n n1).trans ((cKey_n n2).trans ((cKey_n n3).trans ((cKey_n n4).trans ((cKey_n n5).trans ((cKey_n n6).trans (cKey_p pk)))))))
                  exact Or.inl ⟨7, h + mSt37.length, by decide, e9, rfl, by rw [ew_27, ew_26, show A 7 = mSt37.length from hA7.trans pk]; rfl⟩
              · refine r_aload_n hC dX2_readKeyword_50 rfl (j := 6) rfl ?_
                refine r_dup hC dX2_readKeyword_51 rfl ?_
                refine r_get hC gX2_readKeyword_52 ho (v := .int (nI h)) rfl ?_
                refine r_iload hC dX2_readKeyword_55 (j := 0) rfl ?_
                refine r_iadd hC dX2_readKeyword_57 ?_
                rw [nI_add h (A 6)]
                refine r_put' hC pX2_readKeyword_58 ho (Nat.le_of_ble_eq_true rfl) (fun _ => rfl) (fun _ => rfl) (fun w_28 ew_28 => ?_)
                have hf28_t : w_28[t]? = some (mO 5 [.ref (t + 1), .ref (t + 2), .int cn, .int (nI (h + A 6))]) := by rw [ew_28]; exact List.getElem?_set_self (lt_of_get ho)
                have hf28__t___1_ : w_28[(t + 1)]? = some (mT tx) := by rw [ew_28, List.getElem?_set_ne (by omega)]; exact hs
                have hf28__t___3___i_ : w_28[(t + 3 + i)]? = some (mO 4 [.ref kw, .int x1, .int x2, .int x3]) := by rw [ew_28, List.getElem?_set_ne (by omega)]; exact hc
                refine r_aload_n hC dX2_readKeyword_61 rfl (j := 7) rfl ?_
                refine r_aload hC dX2_readKeyword_62 (j := 1) rfl ?_
                refine r_put' hC pX2_readKeyword_64 hf28__t___3___i_ (Nat.le_of_ble_eq_true rfl) (fun _ => rfl) (fun _ => rfl) (fun w_29 ew_29 => ?_)
                have hf29_t : w_29[t]? = some (mO 5 [.ref (t + 1), .ref (t + 2), .int cn, .int (nI (h + A 6))]) := by rw [ew_29, List.getElem?_set_ne (by omega)]; exact hf28_t
                have hf29__t___1_ : w_29[(t + 1)]? = some (mT tx) := by rw [ew_29, List.getElem?_set_ne (by omega)]; exact hf28__t___1_
                have hf29__t___3___i_ : w_29[(t + 3 + i)]? = some (mO 4 [.ref 1000026, .int x1, .int x2, .int x3]) := by rw [ew_29]; exact List.getElem?_set_self (lt_of_get hf28__t___3___i_)
                refine r_iconst hC dX2_readKeyword_67 (v := 1) (by decide) ?_
                refine r_nret hC hE hR dX2_readKeyword_68 (by decide) (by omega) (by omega) (by simp only [ew_29, ew_28, List.length_set]) ?_
                have n0 : ¬ cAl (tT tx) tx.length mSt30 h = mSt30.length := fun z => c47_0 (by rw [hA0, z])
                have n1 : ¬ cAl (tT tx) tx.length mSt31 h = mSt31.length := fun z => c47_1 (by rw [hA1, z])
                have n2 : ¬ cAl (tT tx) tx.length mSt32 h = mSt32.length := fun z => c47_2 (by rw [hA2, z])
                have n3 : ¬ cAl (tT tx) tx.length mSt33 h = mSt33.length := fun z => c47_3 (by rw [hA3, z])
                have n4 : ¬ cAl (tT tx) tx.length mSt34 h = mSt34.length := fun z => c47_4 (by rw [hA4, z])
                have n5 : ¬ cAl (tT tx) tx.length mSt35 h = mSt35.length := fun z => c47_5 (by rw [hA5, z])
                have pk : cAl (tT tx) tx.length mSt36 h = mSt36.length := by rw [← hA6]; exact (nI_eq (by have := hb 6; omega) (by decide)).mp (c47_6)
                have e9 : cKey (tT tx) tx.length h kwL 0 0 = (some 6, h + mSt36.length) := (cKey_n n0).trans ((cKey_n n1).trans ((cKey_n n2).trans ((cKey_n n3).trans ((cKey_n n4).trans ((cKey_n n5).trans (cKey_p pk))))))
                exact Or.inl ⟨6, h + mSt36.length, by decide, e9, rfl, by rw [ew_29, ew_28, show A 6 = mSt36.length from hA6.trans pk]; rfl⟩
            · refine r_aload_n hC dX2_readKeyword_50 rfl (j := 6) rfl ?_
              refine r_dup hC dX2_readKeyword_51 rfl ?_
              refine r_get hC gX2_readKeyword_52 ho (v := .int (nI h)) rfl ?_
              refine r_iload hC dX2_readKeyword_55 (j := 0) rfl ?_
              refine r_iadd hC dX2_readKeyword_57 ?_
              rw [nI_add h (A 5)]
              refine r_put' hC pX2_readKeyword_58 ho (Nat.le_of_ble_eq_true rfl) (fun _ => rfl) (fun _ => rfl) (fun w_30 ew_30 => ?_)
              have hf30_t : w_30[t]? = some (mO 5 [.ref (t + 1), .ref (t + 2), .int cn, .int (nI (h + A 5))]) := by rw [ew_30]; exact List.getElem?_set_self (lt_of_get ho)
              have hf30__t___1_ : w_30[(t + 1)]? = some (mT tx) := by rw [ew_30, List.getElem?_set_ne (by omega)]; exact hs
              have hf30__t___3___i_ : w_30[(t + 3 + i)]? = some (mO 4 [.ref kw, .int x1, .int x2, .int x3]) := by rw [ew_30, List.getElem?_set_ne (by omega)]; exact hc
              refine r_aload_n hC dX2_readKeyword_61 rfl (j := 7) rfl ?_
              refine r_aload hC dX2_readKeyword_62 (j := 1) rfl ?_
              refine r_put' hC pX2_readKeyword_64 hf30__t___3___i_ (Nat.le_of_ble_eq_true rfl) (fun _ => rfl) (fun _ => rfl) (fun w_31 ew_31 => ?_)
              have hf31_t : w_31[t]? = some (mO 5 [.ref (t + 1), .ref (t + 2), .int cn, .int (nI (h + A 5))]) := by rw [ew_31, List.getElem?_set_ne (by omega)]; exact hf30_t
              have hf31__t___1_ : w_31[(t + 1)]? = some (mT tx) := by rw [ew_31, List.getElem?_set_ne (by omega)]; exact hf30__t___1_
              have hf31__t___3___i_ : w_31[(t + 3 + i)]? = some (mO 4 [.ref 1000025, .int x1, .int x2, .int x3]) := by rw [ew_31]; exact List.getElem?_set_self (lt_of_get hf30__t___3___i_)
              refine r_iconst hC dX2_readKeyword_67 (v := 1) (by decide) ?_
              refine r_nret hC hE hR dX2_readKeyword_68 (by decide) (by omega) (by omega) (by simp only [ew_31, ew_30, List.length_set]) ?_
              have n0 : ¬ cAl (tT tx) tx.length mSt30 h = mSt30.length := fun z => c47_0 (by rw [hA0, z])
              have n1 : ¬ cAl (tT tx) tx.length mSt31 h = mSt31.length := fun z => c47_1 (by rw [hA1, z])
              have n2 : ¬ cAl (tT tx) tx.length mSt32 h = mSt32.length := fun z => c47_2 (by rw [hA2, z])
              have n3 : ¬ cAl (tT tx) tx.length mSt33 h = mSt33.length := fun z => c47_3 (by rw [hA3, z])
              have n4 : ¬ cAl (tT tx) tx.length mSt34 h = mSt34.length := fun z => c47_4 (by rw [hA4, z])
              have pk : cAl (tT tx) tx.length mSt35 h = mSt35.length := by rw [← hA5]; exact (nI_eq (by have := hb 5; omega) (by decide)).mp (c47_5)
              have e9 : cKey (tT tx) tx.length h kwL 0 0 = (some 5, h + mSt35.length) := (cKey_n n0).trans ((cKey_n n1).trans ((cKey_n n2).trans ((cKey_n n3).trans ((cKey_n n4).trans (cKey_p pk)))))
              exact Or.inl ⟨5, h + mSt35.length, by decide, e9, rfl, by rw [ew_31, ew_30, show A 5 = mSt35.length from hA5.trans pk]; rfl⟩
          · refine r_aload_n hC dX2_readKeyword_50 rfl (j := 6) rfl ?_
            refine r_dup hC dX2_readKeyword_51 rfl ?_
            refine r_get hC gX2_readKeyword_52 ho (v := .int (nI h)) rfl ?_
            refine r_iload hC dX2_readKeyword_55 (j := 0) rfl ?_
            refine r_iadd hC dX2_readKeyword_57 ?_
            rw [nI_add h (A 4)]
            refine r_put' hC pX2_readKeyword_58 ho (Nat.le_of_ble_eq_true rfl) (fun _ => rfl) (fun _ => rfl) (fun w_32 ew_32 => ?_)
            have hf32_t : w_32[t]? = some (mO 5 [.ref (t + 1), .ref (t + 2), .int cn, .int (nI (h + A 4))]) := by rw [ew_32]; exact List.getElem?_set_self (lt_of_get ho)
            have hf32__t___1_ : w_32[(t + 1)]? = some (mT tx) := by rw [ew_32, List.getElem?_set_ne (by omega)]; exact hs
            have hf32__t___3___i_ : w_32[(t + 3 + i)]? = some (mO 4 [.ref kw, .int x1, .int x2, .int x3]) := by rw [ew_32, List.getElem?_set_ne (by omega)]; exact hc
            refine r_aload_n hC dX2_readKeyword_61 rfl (j := 7) rfl ?_
            refine r_aload hC dX2_readKeyword_62 (j := 1) rfl ?_
            refine r_put' hC pX2_readKeyword_64 hf32__t___3___i_ (Nat.le_of_ble_eq_true rfl) (fun _ => rfl) (fun _ => rfl) (fun w_33 ew_33 => ?_)
            have hf33_t : w_33[t]? = some (mO 5 [.ref (t + 1), .ref (t + 2), .int cn, .int (nI (h + A 4))]) := by rw [ew_33, List.getElem?_set_ne (by omega)]; exact hf32_t
            have hf33__t___1_ : w_33[(t + 1)]? = some (mT tx) := by rw [ew_33, List.getElem?_set_ne (by omega)]; exact hf32__t___1_
            have hf33__t___3___i_ : w_33[(t + 3 + i)]? = some (mO 4 [.ref 1000024, .int x1, .int x2, .int x3]) := by rw [ew_33]; exact List.getElem?_set_self (lt_of_get hf32__t___3___i_)
            refine r_iconst hC dX2_readKeyword_67 (v := 1) (by decide) ?_
            refine r_nret hC hE hR dX2_readKeyword_68 (by decide) (by omega) (by omega) (by simp only [ew_33, ew_32, List.length_set]) ?_
            have n0 : ¬ cAl (tT tx) tx.length mSt30 h = mSt30.length := fun z => c47_0 (by rw [hA0, z])
            have n1 : ¬ cAl (tT tx) tx.length mSt31 h = mSt31.length := fun z => c47_1 (by rw [hA1, z])
            have n2 : ¬ cAl (tT tx) tx.length mSt32 h = mSt32.length := fun z => c47_2 (by rw [hA2, z])
            have n3 : ¬ cAl (tT tx) tx.length mSt33 h = mSt33.length := fun z => c47_3 (by rw [hA3, z])
            have pk : cAl (tT tx) tx.length mSt34 h = mSt34.length := by rw [← hA4]; exact (nI_eq (by have := hb 4; omega) (by decide)).mp (c47_4)
            have e9 : cKey (tT tx) tx.length h kwL 0 0 = (some 4, h + mSt34.length) := (cKey_n n0).trans ((cKey_n n1).trans ((cKey_n n2).trans ((cKey_n n3).trans (cKey_p pk))))
            exact Or.inl ⟨4, h + mSt34.length, by decide, e9, rfl, by rw [ew_33, ew_32, show A 4 = mSt34.length from hA4.trans pk]; rfl⟩
        · refine r_aload_n hC dX2_readKeyword_50 rfl (j := 6) rfl ?_
          refine r_dup hC dX2_readKeyword_51 rfl ?_
          refine r_get hC gX2_readKeyword_52 ho (v := .int (nI h)) rfl ?_
          refine r_iload hC dX2_readKeyword_55 (j := 0) rfl ?_
          refine r_iadd hC dX2_readKeyword_57 ?_
          rw [nI_add h (A 3)]
          refine r_put' hC pX2_readKeyword_58 ho (Nat.le_of_ble_eq_true rfl) (fun _ => rfl) (fun _ => rfl) (fun w_34 ew_34 => ?_)
          have hf34_t : w_34[t]? = some (mO 5 [.ref (t + 1), .ref (t + 2), .int cn, .int (nI (h + A 3))]) := by rw [ew_34]; exact List.getElem?_set_self (lt_of_get ho)
          have hf34__t___1_ : w_34[(t + 1)]? = some (mT tx) := by rw [ew_34, List.getElem?_set_ne (by omega)]; exact hs
          have hf34__t___3___i_ : w_34[(t + 3 + i)]? = some (mO 4 [.ref kw, .int x1, .int x2, .int x3]) := by rw [ew_34, List.getElem?_set_ne (by omega)]; exact hc
          refine r_aload_n hC dX2_readKeyword_61 rfl (j := 7) rfl ?_
          refine r_aload hC dX2_readKeyword_62 (j := 1) rfl ?_
          refine r_put' hC pX2_readKeyword_64 hf34__t___3___i_ (Nat.le_of_ble_eq_true rfl) (fun _ => rfl) (fun _ => rfl) (fun w_35 ew_35 => ?_)
          have hf35_t : w_35[t]? = some (mO 5 [.ref (t + 1), .ref (t + 2), .int cn, .int (nI (h + A 3))]) := by rw [ew_35, List.getElem?_set_ne (by omega)]; exact hf34_t
          have hf35__t___1_ : w_35[(t + 1)]? = some (mT tx) := by rw [ew_35, List.getElem?_set_ne (by omega)]; exact hf34__t___1_
          have hf35__t___3___i_ : w_35[(t + 3 + i)]? = some (mO 4 [.ref 1000023, .int x1, .int x2, .int x3]) := by rw [ew_35]; exact List.getElem?_set_self (lt_of_get hf34__t___3___i_)
          refine r_iconst hC dX2_readKeyword_67 (v := 1) (by decide) ?_
          refine r_nret hC hE hR dX2_readKeyword_68 (by decide) (by omega) (by omega) (by simp only [ew_35, ew_34, List.length_set]) ?_
          have n0 : ¬ cAl (tT tx) tx.length mSt30 h = mSt30.length := fun z => c47_0 (by rw [hA0, z])
          have n1 : ¬ cAl (tT tx) tx.length mSt31 h = mSt31.length := fun z => c47_1 (by rw [hA1, z])
          have n2 : ¬ cAl (tT tx) tx.length mSt32 h = mSt32.length := fun z => c47_2 (by rw [hA2, z])
          have pk : cAl (tT tx) tx.length mSt33 h = mSt33.length := by rw [← hA3]; exact (nI_eq (by have := hb 3; omega) (by decide)).mp (c47_3)
          have e9 : cKey (tT tx) tx.length h kwL 0 0 = (some 3, h + mSt33.length) := (cKey_n n0).trans ((cKey_n n1).trans ((cKey_n n2).trans (cKey_p pk)))
          exact Or.inl ⟨3, h + mSt33.length, by decide, e9, rfl, by rw [ew_35, ew_34, show A 3 = mSt33.length from hA3.trans pk]; rfl⟩
      · refine r_aload_n hC dX2_readKeyword_50 rfl (j := 6) rfl ?_
        refine r_dup hC dX2_readKeyword_51 rfl ?_
        refine r_get hC gX2_readKeyword_52 ho (v := .int (nI h)) rfl ?_
        refine r_iload hC dX2_readKeyword_55 (j := 0) rfl ?_
        refine r_iadd hC dX2_readKeyword_57 ?_
        rw [nI_add h (A 2)]
        refine r_put' hC pX2_readKeyword_58 ho (Nat.le_of_ble_eq_true rfl) (fun _ => rfl) (fun _ => rfl) (fun w_36 ew_36 => ?_)
        have hf36_t : w_36[t]? = some (mO 5 [.ref (t + 1), .ref (t + 2), .int cn, .int (nI (h + A 2))]) := by rw [ew_36]; exact List.getElem?_set_self (lt_of_get ho)
        have hf36__t___1_ : w_36[(t + 1)]? = some (mT tx) := by rw [ew_36, List.getElem?_set_ne (by omega)]; exact hs
        have hf36__t___3___i_ : w_36[(t + 3 + i)]? = some (mO 4 [.ref kw, .int x1, .int x2, .int x3]) := by rw [ew_36, List.getElem?_set_ne (by omega)]; exact hc
        refine r_aload_n hC dX2_readKeyword_61 rfl (j := 7) rfl ?_
        refine r_aload hC dX2_readKeyword_62 (j := 1) rfl ?_
        refine r_put' hC pX2_readKeyword_64 hf36__t___3___i_ (Nat.le_of_ble_eq_true rfl) (fun _ => rfl) (fun _ => rfl) (fun w_37 ew_37 => ?_)
        have hf37_t : w_37[t]? = some (mO 5 [.ref (t + 1), .ref (t + 2), .int cn, .int (nI (h + A 2))]) := by rw [ew_37, List.getElem?_set_ne (by omega)]; exact hf36_t
        have hf37__t___1_ : w_37[(t + 1)]? = some (mT tx) := by rw [ew_37, List.getElem?_set_ne (by omega)]; exact hf36__t___1_
        have hf37__t___3___i_ : w_37[(t + 3 + i)]? = some (mO 4 [.ref 1000022, .int x1, .int x2, .int x3]) := by rw [ew_37]; exact List.getElem?_set_self (lt_of_get hf36__t___3___i_)
        refine r_iconst hC dX2_readKeyword_67 (v := 1) (by decide) ?_
        refine r_nret hC hE hR dX2_readKeyword_68 (by decide) (by omega) (by omega) (by simp only [ew_37, ew_36, List.length_set]) ?_
        have n0 : ¬ cAl (tT tx) tx.length mSt30 h = mSt30.length := fun z => c47_0 (by rw [hA0, z])
        have n1 : ¬ cAl (tT tx) tx.length mSt31 h = mSt31.length := fun z => c47_1 (by rw [hA1, z])
        have pk : cAl (tT tx) tx.length mSt32 h = mSt32.length := by rw [← hA2]; exact (nI_eq (by have := hb 2; omega) (by decide)).mp (c47_2)
        have e9 : cKey (tT tx) tx.length h kwL 0 0 = (some 2, h + mSt32.length) := (cKey_n n0).trans ((cKey_n n1).trans (cKey_p pk))
        exact Or.inl ⟨2, h + mSt32.length, by decide, e9, rfl, by rw [ew_37, ew_36, show A 2 = mSt32.length from hA2.trans pk]; rfl⟩
    · refine r_aload_n hC dX2_readKeyword_50 rfl (j := 6) rfl ?_
      refine r_dup hC dX2_readKeyword_51 rfl ?_
      refine r_get hC gX2_readKeyword_52 ho (v := .int (nI h)) rfl ?_
      refine r_iload hC dX2_readKeyword_55 (j := 0) rfl ?_
      refine r_iadd hC dX2_readKeyword_57 ?_
      rw [nI_add h (A 1)]
      refine r_put' hC pX2_readKeyword_58 ho (Nat.le_of_ble_eq_true rfl) (fun _ => rfl) (fun _ => rfl) (fun w_38 ew_38 => ?_)
      have hf38_t : w_38[t]? = some (mO 5 [.ref (t + 1), .ref (t + 2), .int cn, .int (nI (h + A 1))]) := by rw [ew_38]; exact List.getElem?_set_self (lt_of_get ho)
      have hf38__t___1_ : w_38[(t + 1)]? = some (mT tx) := by rw [ew_38, List.getElem?_set_ne (by omega)]; exact hs
      have hf38__t___3___i_ : w_38[(t + 3 + i)]? = some (mO 4 [.ref kw, .int x1, .int x2, .int x3]) := by rw [ew_38, List.getElem?_set_ne (by omega)]; exact hc
      refine r_aload_n hC dX2_readKeyword_61 rfl (j := 7) rfl ?_
      refine r_aload hC dX2_readKeyword_62 (j := 1) rfl ?_
      refine r_put' hC pX2_readKeyword_64 hf38__t___3___i_ (Nat.le_of_ble_eq_true rfl) (fun _ => rfl) (fun _ => rfl) (fun w_39 ew_39 => ?_)
      have hf39_t : w_39[t]? = some (mO 5 [.ref (t + 1), .ref (t + 2), .int cn, .int (nI (h + A 1))]) := by rw [ew_39, List.getElem?_set_ne (by omega)]; exact hf38_t
      have hf39__t___1_ : w_39[(t + 1)]? = some (mT tx) := by rw [ew_39, List.getElem?_set_ne (by omega)]; exact hf38__t___1_
      have hf39__t___3___i_ : w_39[(t + 3 + i)]? = some (mO 4 [.ref 1000021, .int x1, .int x2, .int x3]) := by rw [ew_39]; exact List.getElem?_set_self (lt_of_get hf38__t___3___i_)
      refine r_iconst hC dX2_readKeyword_67 (v := 1) (by decide) ?_
      refine r_nret hC hE hR dX2_readKeyword_68 (by decide) (by omega) (by omega) (by simp only [ew_39, ew_38, List.length_set]) ?_
      have n0 : ¬ cAl (tT tx) tx.length mSt30 h = mSt30.length := fun z => c47_0 (by rw [hA0, z])
      have pk : cAl (tT tx) tx.length mSt31 h = mSt31.length := by rw [← hA1]; exact (nI_eq (by have := hb 1; omega) (by decide)).mp (c47_1)
      have e9 : cKey (tT tx) tx.length h kwL 0 0 = (some 1, h + mSt31.length) := (cKey_n n0).trans (cKey_p pk)
      exact Or.inl ⟨1, h + mSt31.length, by decide, e9, rfl, by rw [ew_39, ew_38, show A 1 = mSt31.length from hA1.trans pk]; rfl⟩
  · refine r_aload_n hC dX2_readKeyword_50 rfl (j := 6) rfl ?_
    refine r_dup hC dX2_readKeyword_51 rfl ?_
    refine r_get hC gX2_readKeyword_52 ho (v := .int (nI h)) rfl ?_
    refine r_iload hC dX2_readKeyword_55 (j := 0) rfl ?_
    refine r_iadd hC dX2_readKeyword_57 ?_
    rw [nI_add h (A 0)]
    refine r_put' hC pX2_readKeyword_58 ho (Nat.le_of_ble_eq_true rfl) (fun _ => rfl) (fun _ => rfl) (fun w_40 ew_40 => ?_)
    have hf40_t : w_40[t]? = some (mO 5 [.ref (t + 1), .ref (t + 2), .int cn, .int (nI (h + A 0))]) := by rw [ew_40]; exact List.getElem?_set_self (lt_of_get ho)
    have hf40__t___1_ : w_40[(t + 1)]? = some (mT tx) := by rw [ew_40, List.getElem?_set_ne (by omega)]; exact hs
    have hf40__t___3___i_ : w_40[(t + 3 + i)]? = some (mO 4 [.ref kw, .int x1, .int x2, .int x3]) := by rw [ew_40, List.getElem?_set_ne (by omega)]; exact hc
    refine r_aload_n hC dX2_readKeyword_61 rfl (j := 7) rfl ?_
    refine r_aload hC dX2_readKeyword_62 (j := 1) rfl ?_
    refine r_put' hC pX2_readKeyword_64 hf40__t___3___i_ (Nat.le_of_ble_eq_true rfl) (fun _ => rfl) (fun _ => rfl) (fun w_41 ew_41 => ?_)
    have hf41_t : w_41[t]? = some (mO 5 [.ref (t + 1), .ref (t + 2), .int cn, .int (nI (h + A 0))]) := by rw [ew_41, List.getElem?_set_ne (by omega)]; exact hf40_t
    have hf41__t___1_ : w_41[(t + 1)]? = some (mT tx) := by rw [ew_41, List.getElem?_set_ne (by omega)]; exact hf40__t___1_
    have hf41__t___3___i_ : w_41[(t + 3 + i)]? = some (mO 4 [.ref 1000020, .int x1, .int x2, .int x3]) := by rw [ew_41]; exact List.getElem?_set_self (lt_of_get hf40__t___3___i_)
    refine r_iconst hC dX2_readKeyword_67 (v := 1) (by decide) ?_
    refine r_nret hC hE hR dX2_readKeyword_68 (by decide) (by omega) (by omega) (by simp only [ew_41, ew_40, List.length_set]) ?_
    have pk : cAl (tT tx) tx.length mSt30 h = mSt30.length := by rw [← hA0]; exact (nI_eq (by have := hb 0; omega) (by decide)).mp (c47_0)
    have e9 : cKey (tT tx) tx.length h kwL 0 0 = (some 0, h + mSt30.length) := cKey_p pk
    exact Or.inl ⟨0, h + mSt30.length, by decide, e9, rfl, by rw [ew_41, ew_40, show A 0 = mSt30.length from hA0.trans pk]; rfl⟩
/-- the world w' is w, but for the reader at t -/
def TxTo (w w' : mW) (t : Nat) (tx : List Nat) (cn ps : Int32) (cs : Nat → cmdT) : Prop := TxAt w' t tx cn ps cs ∧ ∀ k, (k < t ∨ t + 14 < k) → w'[k]? = w[k]?
theorem TxTo.rfl {w : mW} {t : Nat} {tx : List Nat} {cn ps : Int32} {cs : Nat → cmdT} (H : TxAt w t tx cn ps cs) : TxTo w w t tx cn ps cs := ⟨H, fun _ _ => Eq.refl _⟩
theorem TxTo.trans {w w1 w2 : mW} {t : Nat} {tx : List Nat} {cn ps cn2 ps2 : Int32} {cs cs2 : Nat → cmdT} (h1 : TxTo w w1 t tx cn ps cs) (h2 : TxTo w1 w2 t tx cn2 ps2 cs2) : TxTo w w2 t tx cn2 ps2 cs2 := ⟨h2.1, fun k hk => (h2.2 k hk).trans (h1.2 k hk)⟩
theorem TxTo.pos {w w1 : mW} {t : Nat} {tx : List Nat} {cn ps : Int32} {cs : Nat → cmdT} (h1 : TxTo w w1 t tx cn ps cs) (cn' ps' : Int32) : TxTo w (txP w1 t cn' ps') t tx cn' ps' cs := ⟨h1.1.pos _ _, fun k hk => (List.getElem?_set_ne (by omega)).trans (h1.2 k hk)⟩
def updC (cs : Nat → cmdT) (i : Nat) (c : cmdT) : Nat → cmdT := fun j => if j = i then c else cs j
theorem TxTo.cmd {w w1 : mW} {t i : Nat} {tx : List Nat} {cn ps : Int32} {cs : Nat → cmdT} (h1 : TxTo w w1 t tx cn ps cs) (hi : i < 12) (c : cmdT) : TxTo w (w1.set (t + 3 + i) (cmC c)) t tx cn ps (updC cs i c) :=
  ⟨⟨(List.getElem?_set_ne (by omega)).trans h1.1.1, (List.getElem?_set_ne (by omega)).trans h1.1.2.1, (List.getElem?_set_ne (by omega)).trans h1.1.2.2.1, fun j hj => by
    by_cases z : j = i
    · subst z
      rw [List.getElem?_set_self (lt_of_get (h1.1.2.2.2 j hj))]
      show _ = some (cmC (if j = j then c else cs j))
      rw [if_pos (Eq.refl j)]
    · rw [List.getElem?_set_ne (by omega)]
      show _ = some (cmC (if j = i then c else cs j))
      rw [if_neg z]
      exact h1.1.2.2.2 j hj⟩, fun k hk => (List.getElem?_set_ne (by omega)).trans (h1.2 k hk)⟩
theorem updC_upd {cs : Nat → cmdT} {i : Nat} {c c' : cmdT} : updC (updC cs i c) i c' = updC cs i c' := by
  funext j
  unfold updC
  split <;> rfl
theorem updC_at {cs : Nat → cmdT} {i : Nat} {c : cmdT} : updC cs i c i = c := if_pos rfl
/-- a command's number g is set -/
def setA (c : cmdT) (g : Nat) (x : Int32) : cmdT := match g with
  | 0 => (c.1, x, c.2.2.1, c.2.2.2)
  | 1 => (c.1, c.2.1, x, c.2.2.2)
  | _ => (c.1, c.2.1, c.2.2.1, x)
theorem sx_set {d c g : Nat} {x : Int32} {q : cmdT} {w : mW} (hg : g < 3) (hc : w[c]? = some (cmC q)) : Sp d yX1_setNumber cX1_setNumber 3 none [.ref c, .int (nI g), .int x] w 0 0 (fun v w' => v = none ∧ w' = w.set c (cmC (setA q g x))) noX := by
  match g, hg with
  | 0, _ => exact sx_set0 hc
  | 1, _ => exact sx_set1 hc
  | 2, _ => exact sx_set2 hc
theorem pBeh_no {t : Nat → Int32} {e h m : Nat} (z : ¬ sgn t e h = 32) : pBeh t e h m = (none, h) := if_neg z
theorem pBeh_yes {t : Nat → Int32} {e h m : Nat} (z : sgn t e h = 32) : pBeh t e h m = pDig t e (h + 1) m := if_pos z
theorem sgn_in2 {t : Nat → Int32} {e h : Nat} {c : Int32} (hc : ¬ (-1 : Int32) = c) (z : sgn t e h = c) : h < e := by
  rcases Nat.lt_or_ge h e with q | q
  · exact q
  · rw [sgn_out q] at z
    exact absurd z hc
theorem rNum_le {t : Nat → Int32} {e h : Nat} {b : Bool} (hd : h < e) : h < (rNum t e h b).2 ∧ (rNum t e h b).2 ≤ e := by
  unfold rNum
  split
  · rename_i z
    have := dg_in z.2
    exact ⟨by show h < h + 1 + 1; omega, by show h + 1 + 1 ≤ e; omega⟩
  · exact ⟨Nat.lt_succ_self h, hd⟩
def okF (l : List Int32) (g m : Nat) : Prop := 2 * g + 1 < l.length ∧ l.getD (2 * g) 0 = 32 ∧ ((l.getD (2 * g + 1) 0 = 110 ∧ m = 2) ∨ (l.getD (2 * g + 1) 0 = 100 ∧ m = 1))
section
variable {X : mC} {d n0 t i fh vh : Nat} {tx : List Nat} {cn : Int32} {l : List Int32} {P : Option Value → mW → Prop}
set_option maxRecDepth 100000 in
set_option maxHeartbeats 4000000 in
theorem rc_grp {w : mW} {h g m : Nat} {cs : Nat → cmdT} (hC : Cx X RX2 cX2_readCommand (d + 7) 0 0) (hnl : mNL X = 5) (hE : mEnd X n0 0 0 P noX) (hR : mRet X (some .boolean)) (hlen : w.length = n0) (H : TxAt w t tx cn (nI h) cs) (hl : tx.length ≤ 60) (hh : h ≤ tx.length) (hi : i < 12) (hK : KW fh vh l) (hg : g < 3) (hf : okF l g m)
    (kf : ∀ w' k, w'.length = w.length → pBeh (tT tx) tx.length h m = (none, k) → TxTo w w' t tx cn (nI k) cs → k ≤ tx.length → P (some (.int 0)) w')
    (ks : ∀ w' v k, w'.length = w.length → pBeh (tT tx) tx.length h m = (some v, k) → TxTo w w' t tx cn (nI k) (updC cs i (setA (cs i) g v)) → h < k → k ≤ tx.length → Wp X 0 0 w' [(0, .ref t), (1, .ref (t + 3 + i)), (2, .ref fh), (3, .int (nI (g + 1))), (4, .int (nI (2 * (g + 1))))] [] 23) :
    Wp X 0 0 w [(0, .ref t), (1, .ref (t + 3 + i)), (2, .ref fh), (3, .int (nI g)), (4, .int (nI (2 * g)))] [] 23 := by
  obtain ⟨f1, f2, f3⟩ := hf
  have hl10 := hK.2.2.2.2.1
  have hch : ∀ j, j < l.length → Sp (d + 3) yJ0_charAt_5068e cJ0_charAt_5068e 2 (some .char) [.ref fh, .int (nI j)] w 0 0 (fun v w' => v = some (.int (nI (l.getD j 0).toNatClampNeg)) ∧ w' = w) noX := fun j hj => sk_chr (d := d) (c := (l.getD j 0).toNatClampNeg) hK.1 hK.2.1 hK.2.2.1 hK.2.2.2.1 hj (by omega) (by show Value.int (l.getD j 0) = _; rw [← (hK.2.2.2.2.2 j hj).2]) (hK.2.2.2.2.2 j hj).1
  refine r_iload hC dX2_readCommand_23 (j := 4) rfl ?_
  refine r_aload_n hC dX2_readCommand_25 rfl (j := 2) rfl ?_
  refine r_callXK hC (vs := []) vX2_readCommand_26.x (sk_len (d := d) hK.1 hK.2.1 hK.2.2.1 hK.2.2.2.1) hK.2.2.1 rfl (by omega) (by omega) (by omega) (Nat.le_of_ble_eq_true rfl) (fun v_1 w_1 hP_1 hlen_1 => ?_)
  obtain ⟨rfl, rfl⟩ := hP_1
  refine r_icmp_ge hC dX2_readCommand_29 (tgt := 97) (by decide) (fun z => absurd ((nI_leI (by omega) (by omega)).mp z) (by omega)) (fun _ => ?_)
  refine r_aload_n hC dX2_readCommand_32 rfl (j := 2) rfl ?_
  refine r_iload hC dX2_readCommand_33 (j := 4) rfl ?_
  refine r_callXK hC (vs := [.int (nI (2 * g))]) vX2_readCommand_35.x (hch (2 * g) (by omega)) hK.2.2.1 rfl (by omega) (by omega) (by omega) (Nat.le_of_ble_eq_true rfl) (fun v_2 w_2 hP_2 hlen_2 => ?_)
  obtain ⟨rfl, rfl⟩ := hP_2
  show Wp X 0 0 w_2 [(0, .ref t), (1, .ref (t + 3 + i)), (2, .ref fh), (3, .int (nI g)), (4, .int (nI (2 * g)))] [.int (nI (l.getD (2 * g) 0).toNatClampNeg)] 38
  rw [← (hK.2.2.2.2.2 (2 * g) (by omega)).2, f2]
  refine r_bipush hC dX2_readCommand_38 (v := 32) (by decide) ?_
  refine r_icmp_ne hC dX2_readCommand_40 (tgt := 54) (by decide) (fun h => absurd rfl h) (fun _ => ?_)
  refine r_aload_n hC dX2_readCommand_43 rfl (j := 0) rfl ?_
  refine r_bipush hC dX2_readCommand_44 (v := 32) (by decide) ?_
  refine r_callV hC (vs := [.int 32]) vX2_readCommand_46 (sx_sign (d := d) (c := 32) H hl hh (by decide)) H.1 rfl rfl (by omega) (by omega) (by omega) (Nat.le_of_ble_eq_true rfl) (fun v_3 w_3 hP_3 hlen_3 => ?_) (fun _ _ h => h.elim)
  rcases hP_3 with ⟨hs, rfl, ew⟩ | ⟨hs, rfl, rfl⟩
  · have hlt := sgn_in2 (by decide) hs
    have T1 : TxTo w_2 w_3 t tx cn (nI (h + 1)) cs := by rw [ew]; exact (TxTo.rfl H).pos _ _
    have H1 := T1.1
    refine r_if_ne hC dX2_readCommand_49 (tgt := 91) (by decide) (fun _ => ?_) (fun h => absurd h (by decide))
    refine r_iinc hC dX2_readCommand_91 (j := 4) rfl (v := nI (2 * g + 1)) (nI_succ _).symm (by rw [hnl]; decide) (L' := [(4, .int (nI (2 * g + 1))), (0, .ref t), (1, .ref (t + 3 + i)), (2, .ref fh), (3, .int (nI g))]) rfl ?_
    refine r_goto hC dX2_readCommand_94 (tgt := 23) (by decide) ?_
    have hch1 : ∀ j, j < l.length → Sp (d + 3) yJ0_charAt_5068e cJ0_charAt_5068e 2 (some .char) [.ref fh, .int (nI j)] w_3 0 0 (fun v w' => v = some (.int (nI (l.getD j 0).toNatClampNeg)) ∧ w' = w_3) noX := fun j hj => sk_chr (d := d) (c := (l.getD j 0).toNatClampNeg) hK.1 hK.2.1 hK.2.2.1 hK.2.2.2.1 hj (by omega) (by show Value.int (l.getD j 0) = _; rw [← (hK.2.2.2.2.2 j hj).2]) (hK.2.2.2.2.2 j hj).1
    refine r_iload hC dX2_readCommand_23 (j := 0) rfl ?_
    refine r_aload_n hC dX2_readCommand_25 rfl (j := 3) rfl ?_
    refine r_callXK hC (vs := []) vX2_readCommand_26.x (sk_len (d := d) hK.1 hK.2.1 hK.2.2.1 hK.2.2.2.1) hK.2.2.1 rfl (by omega) (by omega) (by omega) (Nat.le_of_ble_eq_true rfl) (fun v_4 w_4 hP_4 hlen_4 => ?_)
    obtain ⟨rfl, rfl⟩ := hP_4
    refine r_icmp_ge hC dX2_readCommand_29 (tgt := 97) (by decide) (fun z => absurd ((nI_leI (by omega) (by omega)).mp z) (by omega)) (fun _ => ?_)
    refine r_aload_n hC dX2_readCommand_32 rfl (j := 3) rfl ?_
    refine r_iload hC dX2_readCommand_33 (j := 0) rfl ?_
    refine r_callXK hC (vs := [.int (nI (2 * g + 1))]) vX2_readCommand_35.x (hch1 (2 * g + 1) f1) hK.2.2.1 rfl (by omega) (by omega) (by omega) (Nat.le_of_ble_eq_true rfl) (fun v_5 w_5 hP_5 hlen_5 => ?_)
    obtain ⟨rfl, rfl⟩ := hP_5
    show Wp X 0 0 w_5 [(4, .int (nI (2 * g + 1))), (0, .ref t), (1, .ref (t + 3 + i)), (2, .ref fh), (3, .int (nI g))] [.int (nI (l.getD (2 * g + 1) 0).toNatClampNeg)] 38
    rw [← (hK.2.2.2.2.2 (2 * g + 1) f1).2]
    refine r_bipush hC dX2_readCommand_38 (v := 32) (by decide) ?_
    refine r_icmp_ne hC dX2_readCommand_40 (tgt := 54) (by decide) (fun _ => ?_) (fun h => absurd h (show ¬ l.getD (2 * g + 1) 0 = 32 from by rcases f3 with f3 | f3 <;> (rw [f3.1]; decide)))
    refine r_aload_n hC dX2_readCommand_54 rfl (j := 1) rfl ?_
    refine r_callV hC (vs := []) vX2_readCommand_55 (sx_isd (d := d) H1 hl hlt) H1.1 rfl rfl (by omega) (by omega) (by omega) (Nat.le_of_ble_eq_true rfl) (fun v_6 w_6 hP_6 hlen_6 => ?_) (fun _ _ h => h.elim)
    obtain ⟨rfl, rfl⟩ := hP_6
    refine r_if_ne hC dX2_readCommand_58 (tgt := 63) (by decide) (fun c58 => ?_) (fun c58 => ?_)
    · have hd := bI_ne.mp c58
      have hd2 := dg_in hd
      refine r_aload_n hC dX2_readCommand_63 rfl (j := 2) rfl ?_
      refine r_iload_n hC dX2_readCommand_64 rfl (j := 4) rfl ?_
      refine r_aload_n hC dX2_readCommand_65 rfl (j := 1) rfl ?_
      refine r_aload_n hC dX2_readCommand_66 rfl (j := 3) rfl ?_
      refine r_iload hC dX2_readCommand_67 (j := 0) rfl ?_
      refine r_callXK hC (vs := [.int (nI (2 * g + 1))]) vX2_readCommand_69.x (hch1 (2 * g + 1) f1) hK.2.2.1 rfl (by omega) (by omega) (by omega) (Nat.le_of_ble_eq_true rfl) (fun v_7 w_7 hP_7 hlen_7 => ?_)
      obtain ⟨rfl, rfl⟩ := hP_7
      show Wp X 0 0 w_7 [(4, .int (nI (2 * g + 1))), (0, .ref t), (1, .ref (t + 3 + i)), (2, .ref fh), (3, .int (nI g))] [.int (nI (l.getD (2 * g + 1) 0).toNatClampNeg), .ref t, .int (nI g), .ref (t + 3 + i)] 72
      rw [← (hK.2.2.2.2.2 (2 * g + 1) f1).2]
      refine r_bipush hC dX2_readCommand_72 (v := 110) (by decide) ?_
      -- the number, its place set, the next group
      have fin : ∀ (b : Bool) (bi : Int32), Sp (d + 6) yX2_readNumber cX2_readNumber 3 (some .int) [.ref t, .int bi] w_7 0 0 (fun v w' => v = some (.int (rNum (tT tx) tx.length (h + 1) b).1) ∧ w' = txP w_7 t cn (nI (rNum (tT tx) tx.length (h + 1) b).2)) noX → decide (m = 2) = b → Wp X 0 0 w_7 [(4, .int (nI (2 * g + 1))), (0, .ref t), (1, .ref (t + 3 + i)), (2, .ref fh), (3, .int (nI g))] [.int bi, .ref t, .int (nI g), .ref (t + 3 + i)] 82 := fun b bi hsp hm => by
        refine r_callV hC (vs := [.int bi]) vX2_readCommand_82 hsp H1.1 rfl rfl (by omega) (by omega) (by omega) (Nat.le_of_ble_eq_true rfl) (fun v_8 w_8 hP_8 hlen_8 => ?_) (fun _ _ h => h.elim)
        obtain ⟨rfl, ew8⟩ := hP_8
        have T2 : TxTo w_7 w_8 t tx cn (nI (rNum (tT tx) tx.length (h + 1) b).2) cs := by rw [ew8]; exact (TxTo.rfl H1).pos _ _
        have hc8 := T2.1.2.2.2 i hi
        refine r_callV hC (vs := [.int (nI g), .int (rNum (tT tx) tx.length (h + 1) b).1]) vX2_readCommand_85 (sx_set (d := d) hg hc8) hc8 rfl rfl (by omega) (by omega) (by omega) (Nat.le_of_ble_eq_true rfl) (fun v_9 w_9 hP_9 hlen_9 => ?_) (fun _ _ h => h.elim)
        obtain ⟨rfl, ew9⟩ := hP_9
        refine r_iinc hC dX2_readCommand_88 (j := 4) rfl (v := nI (g + 1)) (nI_succ _).symm (by rw [hnl]; decide) (L' := [(3, .int (nI (g + 1))), (4, .int (nI (2 * g + 1))), (0, .ref t), (1, .ref (t + 3 + i)), (2, .ref fh)]) rfl ?_
        refine r_iinc hC dX2_readCommand_91 (j := 1) rfl (v := nI (2 * (g + 1))) (by rw [show 2 * (g + 1) = 2 * g + 1 + 1 by omega]; exact (nI_succ _).symm) (by rw [hnl]; decide) (L' := [(4, .int (nI (2 * (g + 1)))), (3, .int (nI (g + 1))), (0, .ref t), (1, .ref (t + 3 + i)), (2, .ref fh)]) rfl ?_
        refine r_goto hC dX2_readCommand_94 (tgt := 23) (by decide) ?_
        refine r_locals [2, 3, 4, 1, 0] (L' := [(0, .ref t), (1, .ref (t + 3 + i)), (2, .ref fh), (3, .int (nI (g + 1))), (4, .int (nI (2 * (g + 1))))]) rfl ?_
        have hle := rNum_le (t := tT tx) (b := b) hd2
        refine ks w_9 (rNum (tT tx) tx.length (h + 1) b).1 (rNum (tT tx) tx.length (h + 1) b).2 (hlen_9.trans (hlen_8.trans hlen_3)) ?_ ?_ (by omega) hle.2
        · rw [pBeh_yes hs, rNum_dig hd m, hm]
        · rw [ew9]
          exact (T1.trans T2).cmd hi _
      refine r_icmp_ne hC dX2_readCommand_74 (tgt := 81) (by decide) (fun c74 => ?_) (fun c74 => ?_)
      · rcases f3 with f3 | f3
        · exact absurd f3.1 c74
        · refine r_iconst hC dX2_readCommand_81 (v := 0) (by decide) ?_
          exact fin false 0 (sx_num0 (d := d) H1 hl hlt hd2) (by rw [f3.2]; rfl)
      · rcases f3 with f3 | f3
        · refine r_iconst hC dX2_readCommand_77 (v := 1) (by decide) ?_
          refine r_goto hC dX2_readCommand_78 (tgt := 82) (by decide) ?_
          exact fin true 1 (sx_num1 (d := d) H1 hl hlt hd2) (by rw [f3.2]; rfl)
        · exact absurd (f3.1.symm.trans c74) (by decide)
    · have hd : ¬ dg (sgn (tT tx) tx.length (h + 1)) = true := fun z => (bI_ne.mpr z) c58
      refine r_iconst hC dX2_readCommand_61 (v := 0) (by decide) ?_
      refine r_locals [] (L' := []) rfl ?_
      refine r_nret hC hE hR dX2_readCommand_62 (by decide) (by omega) (by omega) (hlen_3.trans hlen) ?_
      exact kf w_6 (h + 1) hlen_3 (by rw [pBeh_yes hs]; exact if_neg hd) T1 hlt
  · refine r_if_ne hC dX2_readCommand_49 (tgt := 91) (by decide) (fun h => absurd (by decide) h) (fun _ => ?_)
    refine r_iconst hC dX2_readCommand_52 (v := 0) (by decide) ?_
    refine r_locals [] (L' := []) rfl ?_
    refine r_nret hC hE hR dX2_readCommand_53 (by decide) (by omega) (by omega) hlen ?_
    exact kf _ h rfl (pBeh_no hs) (TxTo.rfl H) hh
end
/-- a command's numbers, read group by group -/
def cArgs (t : Nat → Int32) (e : Nat) : List Nat → Nat → cmdT → Nat → Option cmdT × Nat
  | [], _, c, h => (some c, h)
  | m :: ms, g, c, h => match pBeh t e h m with
    | (some v, k) => cArgs t e ms (g + 1) (setA c g v) k
    | (none, k) => (none, k)
theorem cArgs_some {t : Nat → Int32} {e m g h k : Nat} {ms : List Nat} {c : cmdT} {v : Int32} (z : pBeh t e h m = (some v, k)) : cArgs t e (m :: ms) g c h = cArgs t e ms (g + 1) (setA c g v) k := by
  show (match pBeh t e h m with
    | (some v, k) => cArgs t e ms (g + 1) (setA c g v) k
    | (none, k) => (none, k)) = _
  rw [z]
theorem cArgs_none {t : Nat → Int32} {e m g h k : Nat} {ms : List Nat} {c : cmdT} (z : pBeh t e h m = (none, k)) : cArgs t e (m :: ms) g c h = (none, k) := by
  show (match pBeh t e h m with
    | (some v, k) => cArgs t e ms (g + 1) (setA c g v) k
    | (none, k) => (none, k)) = _
  rw [z]
theorem updC_same {cs : Nat → cmdT} {i : Nat} : updC cs i (cs i) = cs := by
  funext j
  unfold updC
  split
  · rename_i z
    rw [z]
  · rfl
section
variable {X : mC} {d n0 t i fh vh : Nat} {tx : List Nat} {cn : Int32} {l : List Int32} {P : Option Value → mW → Prop}
set_option maxRecDepth 100000 in
set_option maxHeartbeats 4000000 in
theorem ra_all (hC : Cx X RX2 cX2_readCommand (d + 7) 0 0) (hnl : mNL X = 5) (hE : mEnd X n0 0 0 P noX) (hR : mRet X (some .boolean)) (hl : tx.length ≤ 60) (hi : i < 12) (hK : KW fh vh l) : ∀ (ms : List Nat) (w : mW) (h g : Nat) (cs : Nat → cmdT), w.length = n0 → TxAt w t tx cn (nI h) cs → h ≤ tx.length → g + ms.length ≤ 3 → l.length = 2 * (g + ms.length) → (∀ j, j < ms.length → okF l (g + j) (ms.getD j 0)) →
    (∀ w' c k, w'.length = n0 → cArgs (tT tx) tx.length ms g (cs i) h = (some c, k) → TxTo w w' t tx cn (nI k) (updC cs i c) → h ≤ k → k ≤ tx.length → P (some (.int 1)) w') →
    (∀ w' k cs', w'.length = n0 → cArgs (tT tx) tx.length ms g (cs i) h = (none, k) → TxTo w w' t tx cn (nI k) cs' → k ≤ tx.length → P (some (.int 0)) w') →
    Wp X 0 0 w [(0, .ref t), (1, .ref (t + 3 + i)), (2, .ref fh), (3, .int (nI g)), (4, .int (nI (2 * g)))] [] 23
  | [], w, h, g, cs, hlen, H, hh, hg, hll, hf, hP1, hP0 => by
    have hll : l.length = 2 * g := hll
    refine r_iload hC dX2_readCommand_23 (j := 4) rfl ?_
    refine r_aload_n hC dX2_readCommand_25 rfl (j := 2) rfl ?_
    refine r_callXK hC (vs := []) vX2_readCommand_26.x (sk_len (d := d) hK.1 hK.2.1 hK.2.2.1 hK.2.2.2.1) hK.2.2.1 rfl (by omega) (by omega) (by omega) (Nat.le_of_ble_eq_true rfl) (fun v_1 w_1 hP_1 hlen_1 => ?_)
    rw [hP_1.1, hP_1.2]
    refine r_icmp_ge hC dX2_readCommand_29 (tgt := 97) (by decide) (fun _ => ?_) (fun z => absurd (by rw [hll]; exact Int32.le_refl _) z)
    refine r_iconst hC dX2_readCommand_97 (v := 1) (by decide) ?_
    refine r_locals [] (L' := []) rfl ?_
    refine r_nret hC hE hR dX2_readCommand_98 (by decide) (by omega) (by omega) hlen ?_
    exact hP1 w (cs i) h hlen rfl (by rw [updC_same]; exact TxTo.rfl H) (Nat.le_refl h) hh
  | m :: ms, w, h, g, cs, hlen, H, hh, hg, hll, hf, hP1, hP0 => by
    rw [List.length_cons] at hg hll
    refine rc_grp hC hnl hE hR hlen H hl hh hi hK (by omega) (hf 0 (by rw [List.length_cons]; omega)) (fun w' k hlen' hb T hk => ?_) (fun w' v k hlen' hb T hhk hk => ?_)
    · exact hP0 w' k cs (hlen'.trans hlen) (cArgs_none hb) T hk
    · refine ra_all hC hnl hE hR hl hi hK ms w' k (g + 1) (updC cs i (setA (cs i) g v)) (hlen'.trans hlen) T.1 hk (by omega) (by rw [hll]; omega) (fun j hj => ?_) (fun w2 c k2 hl2 hc T2 h1 h2 => ?_) (fun w2 k2 cs2 hl2 hc T2 h2 => ?_)
      · have := hf (j + 1) (by rw [List.length_cons]; omega)
        rw [show g + (j + 1) = g + 1 + j by omega] at this
        exact this
      · rw [updC_at] at hc
        rw [updC_upd] at T2
        exact hP1 w2 c k2 hl2 ((cArgs_some hb).trans hc) (T.trans T2) (by omega) h2
      · rw [updC_at] at hc
        exact hP0 w2 k2 cs2 hl2 ((cArgs_some hb).trans hc) (T.trans T2) h2
end
/-- which numbers the word c wants: of one digit, of at most two -/
def msL : Nat → List Nat
  | 0 => [2]
  | 1 => [1, 2, 1]
  | 2 => [2, 1]
  | 3 => [1, 2]
  | 5 => [1]
  | _ => []
/-- the command at h, read into c0's place -/
def cCmd (t : Nat → Int32) (e h : Nat) (c0 : cmdT) : Option cmdT × Nat := match cKey t e h kwL 0 0 with
  | (some c, k) => cArgs t e (msL c) 0 (c, c0.2) k
  | (none, k) => (none, k)
theorem cAl_in {t : Nat → Int32} {e : Nat} : ∀ {l : List Int32} {h : Nat}, (∀ x ∈ l, ¬ (-1 : Int32) = x) → h ≤ e → h + cAl t e l h ≤ e
  | [], h, _, hh => hh
  | x :: r, h, hx, hh => by
    unfold cAl
    split
    · rename_i z
      have := sgn_in2 (hx x List.mem_cons_self) z
      have h2 := cAl_in (t := t) (l := r) (h := h + 1) (fun y hy => hx y (List.mem_cons_of_mem _ hy)) this
      omega
    · exact hh
theorem cKey_in {t : Nat → Int32} {e h : Nat} (hh : h ≤ e) : ∀ {ws : List (List Int32)} {c lg : Nat}, (∀ w ∈ ws, ∀ x ∈ w, ¬ (-1 : Int32) = x) → h + lg ≤ e → h ≤ (cKey t e h ws c lg).2 ∧ (cKey t e h ws c lg).2 ≤ e
  | [], c, lg, _, hl => ⟨Nat.le_add_right h lg, hl⟩
  | w :: r, c, lg, hw, hl => by
    have h1 := cAl_in (t := t) (l := w) (h := h) (hw w List.mem_cons_self) hh
    unfold cKey
    split
    · rename_i z
      rw [z] at h1
      exact ⟨Nat.le_add_right h _, h1⟩
    · refine cKey_in hh (fun v hv => hw v (List.mem_cons_of_mem _ hv)) ?_
      have := Nat.max_le.mpr (show lg ≤ e - h ∧ cAl t e w h ≤ e - h by omega)
      omega
theorem kwL_ok : ∀ w ∈ kwL, ∀ x ∈ w, ¬ (-1 : Int32) = x := by decide
def fmH : Nat → Nat × Nat × List Int32
  | 0 => (1000040, 1000060, mSt40)
  | 1 => (1000041, 1000061, mSt41)
  | 2 => (1000042, 1000062, mSt42)
  | 3 => (1000043, 1000063, mSt43)
  | 4 => (1000044, 1000064, mSt44)
  | 5 => (1000045, 1000065, mSt45)
  | 6 => (1000044, 1000064, mSt44)
  | 7 => (1000044, 1000064, mSt44)
  | _ => (1000044, 1000064, mSt44)
theorem fm_ok : ∀ c, c < 8 → KW (fmH c).1 (fmH c).2.1 (fmH c).2.2 ∧ ("HillContest$Keyword", "form", "Ljava/lang/String;", Value.ref (fmH c).1, 1000020 + c) ∈ gFs ∧ (msL c).length ≤ 3 ∧ (fmH c).2.2.length = 2 * (0 + (msL c).length) ∧ ∀ j, j < (msL c).length → okF (fmH c).2.2 (0 + j) ((msL c).getD j 0)
  | 0, _ => ⟨kw_10, List.mem_of_getElem? (i := 2) rfl, by decide, by decide, by unfold okF; decide⟩
  | 1, _ => ⟨kw_11, List.mem_of_getElem? (i := 5) rfl, by decide, by decide, by unfold okF; decide⟩
  | 2, _ => ⟨kw_12, List.mem_of_getElem? (i := 8) rfl, by decide, by decide, by unfold okF; decide⟩
  | 3, _ => ⟨kw_13, List.mem_of_getElem? (i := 11) rfl, by decide, by decide, by unfold okF; decide⟩
  | 4, _ => ⟨kw_14, List.mem_of_getElem? (i := 14) rfl, by decide, by decide, by unfold okF; decide⟩
  | 5, _ => ⟨kw_15, List.mem_of_getElem? (i := 17) rfl, by decide, by decide, by unfold okF; decide⟩
  | 6, _ => ⟨kw_14, List.mem_of_getElem? (i := 20) rfl, by decide, by decide, by unfold okF; decide⟩
  | 7, _ => ⟨kw_14, List.mem_of_getElem? (i := 23) rfl, by decide, by decide, by unfold okF; decide⟩
  | c + 8, h => absurd h (by omega)
set_option maxRecDepth 100000 in
set_option maxHeartbeats 4000000 in
theorem sx_cmd {d i : Nat} {w : mW} {t h : Nat} {tx : List Nat} {cn : Int32} {cs : Nat → cmdT} (H : TxAt w t tx cn (nI h) cs) (hl : tx.length ≤ 60) (hh : h ≤ tx.length) (hi : i < 12) : Sp (d + 7) yX2_readCommand cX2_readCommand 5 (some .boolean) [.ref t, .ref (t + 3 + i)] w 0 0 (fun v w' => (∃ c k, cCmd (tT tx) tx.length h (cs i) = (some c, k) ∧ v = some (.int 1) ∧ TxTo w w' t tx cn (nI k) (updC cs i c) ∧ h ≤ k ∧ k ≤ tx.length) ∨ (∃ k cs', cCmd (tT tx) tx.length h (cs i) = (none, k) ∧ v = some (.int 0) ∧ TxTo w w' t tx cn (nI k) cs' ∧ k ≤ tx.length)) noX := by
  refine Sp.of (by decide +kernel) (Nat.le_of_ble_eq_true rfl) (fun X hC hnl hE hR hN => ?_)
  have hC : Cx X RX2 cX2_readCommand (d + 7) 0 0 := hC
  show Wp X 0 0 w [(0, .ref t), (1, .ref (t + 3 + i))] [] 0
  have hki := cKey_in (t := tT tx) (e := tx.length) hh (ws := kwL) (c := 0) (lg := 0) kwL_ok hh
  refine r_aload_n hC dX2_readCommand_0 rfl (j := 0) rfl ?_
  refine r_aload_n hC dX2_readCommand_1 rfl (j := 1) rfl ?_
  refine r_callV hC (vs := [.ref (t + 3 + i)]) vX2_readCommand_2 (sx_key (d := d) H hl hh (H.2.2.2 i hi)) H.1 rfl rfl (by omega) (by omega) (by omega) (Nat.le_of_ble_eq_true rfl) (fun v_1 w_1 hP_1 hlen_1 => ?_) (fun _ _ h => h.elim)
  rcases hP_1 with ⟨c, k, hc8, hkey, rfl, ew⟩ | ⟨k, hkey, rfl, ew⟩
  · rw [hkey] at hki
    have T1 : TxTo w w_1 t tx cn (nI k) (updC cs i (c, (cs i).2)) := by rw [ew]; exact ((TxTo.rfl H).pos _ _).cmd hi (c, (cs i).2)
    have hc1 : w_1[t + 3 + i]? = some (mO 4 [.ref (1000020 + c), .int (cs i).2.1, .int (cs i).2.2.1, .int (cs i).2.2.2]) := by
      have := T1.1.2.2.2 i hi
      rw [updC_at] at this
      exact this
    obtain ⟨hK, hgf, hm3, hll, hok⟩ := fm_ok c hc8
    refine r_if_ne hC dX2_readCommand_5 (tgt := 10) (by decide) (fun _ => ?_) (fun h => absurd h (by decide))
    refine r_aload_n hC dX2_readCommand_10 rfl (j := 1) rfl ?_
    refine r_get hC gX2_readCommand_11 hc1 (v := .ref (1000020 + c)) rfl ?_
    refine r_getk hC gX2_readCommand_14 (v := .ref (fmH c).1) hgf ?_
    refine r_astore_n hC dX2_readCommand_17 rfl (by rw [hnl]; decide) (L' := [(2, .ref (fmH c).1), (0, .ref t), (1, .ref (t + 3 + i))]) rfl ?_
    refine r_iconst hC dX2_readCommand_18 (v := 0) (by decide) ?_
    refine r_istore_n hC dX2_readCommand_19 rfl (by rw [hnl]; decide) (L' := [(3, .int 0), (2, .ref (fmH c).1), (0, .ref t), (1, .ref (t + 3 + i))]) rfl ?_
    refine r_iconst hC dX2_readCommand_20 (v := 0) (by decide) ?_
    refine r_istore hC dX2_readCommand_21 (by rw [hnl]; decide) (L' := [(4, .int 0), (3, .int 0), (2, .ref (fmH c).1), (0, .ref t), (1, .ref (t + 3 + i))]) rfl ?_
    refine r_locals [3, 4, 2, 1, 0] (L' := [(0, .ref t), (1, .ref (t + 3 + i)), (2, .ref (fmH c).1), (3, .int (nI 0)), (4, .int (nI (2 * 0)))]) rfl ?_
    refine ra_all hC hnl hE hR hl hi hK (msL c) w_1 k 0 _ hlen_1 T1.1 hki.2 (by omega) hll hok (fun w' c' k' hl' hca T hk1 hk2 => ?_) (fun w' k' cs' hl' hca T hk2 => ?_)
    · rw [updC_at] at hca
      rw [updC_upd] at T
      refine Or.inl ⟨c', k', ?_, rfl, T1.trans T, by omega, hk2⟩
      unfold cCmd
      rw [hkey]
      exact hca
    · rw [updC_at] at hca
      refine Or.inr ⟨k', cs', ?_, rfl, T1.trans T, hk2⟩
      unfold cCmd
      rw [hkey]
      exact hca
  · rw [hkey] at hki
    refine r_if_ne hC dX2_readCommand_5 (tgt := 10) (by decide) (fun h => absurd (by decide) h) (fun _ => ?_)
    refine r_iconst hC dX2_readCommand_8 (v := 0) (by decide) ?_
    refine r_locals [] (L' := []) rfl ?_
    refine r_nret hC hE hR dX2_readCommand_9 (by decide) (by omega) (by omega) hlen_1 ?_
    refine Or.inr ⟨k, cs, ?_, rfl, by rw [ew]; exact (TxTo.rfl H).pos _ _, hki.2⟩
    unfold cCmd
    rw [hkey]
/-- the commands of the text from h on: n were read, fuel more may be -/
def cAllR (t : Nat → Int32) (e : Nat) (cs : Nat → cmdT) : Nat → Nat → Nat → Option (List cmdT) × Nat
  | 0, _, h => (none, h)
  | f + 1, n, h => match cCmd t e h (cs n) with
    | (none, k) => (none, k)
    | (some c, k) => if k = e then (some [c], k) else if sgn t e k = 59 then (match cAllR t e cs f (n + 1) (k + 1) with
      | (some l, k2) => (some (c :: l), k2)
      | (none, k2) => (none, k2)) else (none, k)
section
variable {t : Nat → Int32} {e : Nat} {cs : Nat → cmdT} {f n h k k2 : Nat} {c : cmdT} {l : List cmdT}
theorem cAllR_n (z : cCmd t e h (cs n) = (none, k)) : cAllR t e cs (f + 1) n h = (none, k) := by
  show (match cCmd t e h (cs n) with
    | (none, k) => (none, k)
    | (some c, k) => if k = e then (some [c], k) else if sgn t e k = 59 then (match cAllR t e cs f (n + 1) (k + 1) with
      | (some l, k2) => (some (c :: l), k2)
      | (none, k2) => (none, k2)) else (none, k)) = _
  rw [z]
theorem cAllR_s (z : cCmd t e h (cs n) = (some c, k)) : cAllR t e cs (f + 1) n h = if k = e then (some [c], k) else if sgn t e k = 59 then (match cAllR t e cs f (n + 1) (k + 1) with
      | (some l, k2) => (some (c :: l), k2)
      | (none, k2) => (none, k2)) else (none, k) := by
  show (match cCmd t e h (cs n) with
    | (none, k) => (none, k)
    | (some c, k) => if k = e then (some [c], k) else if sgn t e k = 59 then (match cAllR t e cs f (n + 1) (k + 1) with
      | (some l, k2) => (some (c :: l), k2)
      | (none, k2) => (none, k2)) else (none, k)) = _
  rw [z]
theorem cAllR_e (z : cCmd t e h (cs n) = (some c, k)) (q : k = e) : cAllR t e cs (f + 1) n h = (some [c], k) := (cAllR_s z).trans (if_pos q)
theorem cAllR_x (z : cCmd t e h (cs n) = (some c, k)) (q : ¬ k = e) (s : ¬ sgn t e k = 59) : cAllR t e cs (f + 1) n h = (none, k) := (cAllR_s z).trans ((if_neg q).trans (if_neg s))
theorem cAllR_c (z : cCmd t e h (cs n) = (some c, k)) (q : ¬ k = e) (s : sgn t e k = 59) (r : cAllR t e cs f (n + 1) (k + 1) = (some l, k2)) : cAllR t e cs (f + 1) n h = (some (c :: l), k2) := (cAllR_s z).trans ((if_neg q).trans ((if_pos s).trans (by rw [r])))
theorem cAllR_d (z : cCmd t e h (cs n) = (some c, k)) (q : ¬ k = e) (s : sgn t e k = 59) (r : cAllR t e cs f (n + 1) (k + 1) = (none, k2)) : cAllR t e cs (f + 1) n h = (none, k2) := (cAllR_s z).trans ((if_neg q).trans ((if_pos s).trans (by rw [r])))
end
def cmd0 : cmdT := (4, 0, 0, 0)
section
variable {X : mC} {d n0 t : Nat} {tx : List Nat} {cs : Nat → cmdT} {P : Option Value → mW → Prop}
set_option maxRecDepth 100000 in
set_option maxHeartbeats 4000000 in
theorem al_all (hC : Cx X RX2 cX2_readAll (d + 8) 0 0) (hnl : mNL X = 1) (hE : mEnd X n0 0 0 P noX) (hR : mRet X (some .boolean)) (hl : tx.length ≤ 60) : ∀ (f n h : Nat) (w : mW) (cw : Nat → cmdT), n + f = 12 → w.length = n0 → TxAt w t tx (nI n) (nI h) cw → h ≤ tx.length → (∀ j, n ≤ j → cw j = cs j) →
    (∀ w' l k cs', w'.length = n0 → cAllR (tT tx) tx.length cs f n h = (some l, k) → TxTo w w' t tx (nI (n + l.length)) (nI k) cs' → n + l.length ≤ 12 → (∀ j, j < n → cs' j = cw j) → (∀ j, j < l.length → cs' (n + j) = l.getD j cmd0) → P (some (.int 1)) w') →
    (∀ w' k cn' cs', w'.length = n0 → cAllR (tT tx) tx.length cs f n h = (none, k) → TxTo w w' t tx cn' (nI k) cs' → P (some (.int 0)) w') →
    Wp X 0 0 w [(0, .ref t)] [] 10
  | 0, n, h, w, cw, hf, hlen, H, hh, hcw, hP1, hP0 => by
    obtain rfl : n = 12 := by omega
    refine r_aload_n hC dX2_readAll_10 rfl (j := 0) rfl ?_
    refine r_get hC gX2_readAll_11 H.1 (v := .int (nI 12)) rfl ?_
    refine r_bipush hC dX2_readAll_14 (v := 12) (by decide) ?_
    refine r_icmp_ge hC dX2_readAll_16 (tgt := 74) (by decide) (fun _ => ?_) (fun z => absurd (by decide) z)
    refine r_iconst hC dX2_readAll_74 (v := 0) (by decide) ?_
    refine r_locals [] (L' := []) rfl ?_
    refine r_nret hC hE hR dX2_readAll_75 (by decide) (by omega) (by omega) hlen ?_
    exact hP0 w h _ cw hlen rfl (TxTo.rfl H)
  | f + 1, n, h, w, cw, hf, hlen, H, hh, hcw, hP1, hP0 => by
    refine r_aload_n hC dX2_readAll_10 rfl (j := 0) rfl ?_
    refine r_get hC gX2_readAll_11 H.1 (v := .int (nI n)) rfl ?_
    refine r_bipush hC dX2_readAll_14 (v := 12) (by decide) ?_
    refine r_icmp_ge hC dX2_readAll_16 (tgt := 74) (by decide) (fun z => absurd z (lit_ge (N := 12) rfl (by omega) (by decide))) (fun _ => ?_)
    refine r_aload_n hC dX2_readAll_19 rfl (j := 0) rfl ?_
    refine r_aload_n hC dX2_readAll_20 rfl (j := 0) rfl ?_
    refine r_get hC gX2_readAll_21 H.1 (v := .ref (t + 2)) rfl ?_
    refine r_aload_n hC dX2_readAll_24 rfl (j := 0) rfl ?_
    refine r_get hC gX2_readAll_25 H.1 (v := .int (nI n)) rfl ?_
    refine r_aald hC dX2_readAll_28 (j := n) (b := t + 3 + n) H.2.2.1 (fun _ => rfl) (mIx_nI (by omega) (by decide)) (if_pos (by omega)) ?_
    refine r_callV hC (vs := [.ref (t + 3 + n)]) vX2_readAll_29 (sx_cmd (d := d) H hl hh (i := n) (by omega)) H.1 rfl rfl (by omega) (by omega) (by omega) (Nat.le_of_ble_eq_true rfl) (fun v_1 w_1 hP_1 hlen_1 => ?_) (fun _ _ h => h.elim)
    rw [hcw n (Nat.le_refl n)] at hP_1
    rcases hP_1 with ⟨c, k, hcm, rfl, T, hk1, hk2⟩ | ⟨k, cs', hcm, rfl, T, hk2⟩
    · refine r_if_ne hC dX2_readAll_32 (tgt := 37) (by decide) (fun _ => ?_) (fun h => absurd h (by decide))
      refine r_aload_n hC dX2_readAll_37 rfl (j := 0) rfl ?_
      refine r_dup hC dX2_readAll_38 rfl ?_
      refine r_get hC gX2_readAll_39 T.1.1 (v := .int (nI n)) rfl ?_
      refine r_iconst hC dX2_readAll_42 (v := 1) (by decide) ?_
      refine r_iadd hC dX2_readAll_43 ?_
      rw [show nI n + 1 = nI (n + 1) from (nI_succ n).symm]
      refine r_put' hC pX2_readAll_44 T.1.1 (Nat.le_of_ble_eq_true rfl) (fun _ => rfl) (fun _ => rfl) (fun w_2 ew_2 => ?_)
      have T2 : TxTo w w_2 t tx (nI (n + 1)) (nI k) (updC cw n c) := by rw [ew_2]; exact T.pos _ _
      have hlen_2 : w_2.length = n0 := by rw [ew_2, List.length_set, hlen_1, hlen]
      have hcw2 : ∀ j, n + 1 ≤ j → updC cw n c j = cs j := fun j hj => (if_neg (by omega)).trans (hcw j (by omega))
      refine r_aload_n hC dX2_readAll_47 rfl (j := 0) rfl ?_
      refine r_get hC gX2_readAll_48 T2.1.1 (v := .int (nI k)) rfl ?_
      refine r_aload_n hC dX2_readAll_51 rfl (j := 0) rfl ?_
      refine r_get hC gX2_readAll_52 T2.1.1 (v := .ref (t + 1)) rfl ?_
      refine r_callXT hC (vs := []) vX2_readAll_55.x (st_len (d := d) T2.1.2.1) T2.1.2.1 rfl rfl (by omega) (by omega) (by omega) (Nat.le_of_ble_eq_true rfl) (fun v_3 w_3 hP_3 hlen_3 => ?_)
      rw [hP_3.1, hP_3.2]
      refine r_icmp_ne hC dX2_readAll_58 (tgt := 63) (by decide) (fun c58 => ?_) (fun c58 => ?_)
      · have hke : ¬ k = tx.length := fun z => c58 (by rw [z])
        refine r_aload_n hC dX2_readAll_63 rfl (j := 0) rfl ?_
        refine r_bipush hC dX2_readAll_64 (v := 59) (by decide) ?_
        refine r_callV hC (vs := [.int 59]) vX2_readAll_66 (sx_sign (d := d) (c := 59) T2.1 hl hk2 (by decide)) T2.1.1 rfl rfl (by omega) (by omega) (by omega) (Nat.le_of_ble_eq_true rfl) (fun v_4 w_4 hP_4 hlen_4 => ?_) (fun _ _ h => h.elim)
        rcases hP_4 with ⟨hs, rfl, ew⟩ | ⟨hs, rfl, ew⟩
        · have T4 : TxTo w w_4 t tx (nI (n + 1)) (nI (k + 1)) (updC cw n c) := by rw [ew]; exact T2.pos _ _
          refine r_if_ne hC dX2_readAll_69 (tgt := 10) (by decide) (fun _ => ?_) (fun h => absurd h (by decide))
          refine al_all hC hnl hE hR hl f (n + 1) (k + 1) w_4 (updC cw n c) (by omega) (hlen_4.trans hlen_2) T4.1 (sgn_in2 (by decide) hs) hcw2 (fun w' l k' cs' hl' hr T' hn hj1 hj2 => ?_) (fun w' k' cn' cs' hl' hr T' => ?_)
          · refine hP1 w' (c :: l) k' cs' hl' (cAllR_c hcm hke hs hr) ?_ ?_ (fun j hj => ?_) (fun j hj => ?_)
            · rw [List.length_cons, show n + (l.length + 1) = n + 1 + l.length by omega]
              exact T4.trans T'
            · rw [List.length_cons]; omega
            · rw [hj1 j (by omega)]
              exact if_neg (by omega)
            · cases j with
              | zero =>
                rw [Nat.add_zero, hj1 n (by omega)]
                exact if_pos rfl
              | succ j =>
                rw [List.length_cons] at hj
                rw [show n + (j + 1) = n + 1 + j by omega, hj2 j (by omega)]
                rfl
          · exact hP0 w' k' cn' cs' hl' (cAllR_d hcm hke hs hr) (T4.trans T')
        · refine r_if_ne hC dX2_readAll_69 (tgt := 10) (by decide) (fun h => absurd (by decide) h) (fun _ => ?_)
          refine r_iconst hC dX2_readAll_72 (v := 0) (by decide) ?_
          refine r_locals [] (L' := []) rfl ?_
          refine r_nret hC hE hR dX2_readAll_73 (by decide) (by omega) (by omega) (hlen_4.trans hlen_2) ?_
          exact hP0 w_4 k _ _ (hlen_4.trans hlen_2) (cAllR_x hcm hke hs) (by rw [ew]; exact T2)
      · have hke : k = tx.length := (nI_eq (by omega) (by omega)).mp c58
        refine r_iconst hC dX2_readAll_61 (v := 1) (by decide) ?_
        refine r_locals [] (L' := []) rfl ?_
        refine r_nret hC hE hR dX2_readAll_62 (by decide) (by omega) (by omega) hlen_2 ?_
        refine hP1 w_2 [c] k _ hlen_2 (cAllR_e hcm hke) T2 (by show n + 1 ≤ 12; omega) (fun j hj => if_neg (by omega)) (fun j hj => ?_)
        have hj : j < 1 := hj
        obtain rfl : j = 0 := by omega
        exact if_pos rfl
    · refine r_if_ne hC dX2_readAll_32 (tgt := 37) (by decide) (fun h => absurd (by decide) h) (fun _ => ?_)
      refine r_iconst hC dX2_readAll_35 (v := 0) (by decide) ?_
      refine r_locals [] (L' := []) rfl ?_
      refine r_nret hC hE hR dX2_readAll_36 (by decide) (by omega) (by omega) (hlen_1.trans hlen) ?_
      exact hP0 w_1 k _ cs' (hlen_1.trans hlen) (cAllR_n hcm) T
end
set_option maxRecDepth 100000 in
set_option maxHeartbeats 4000000 in
theorem sx_all {d t : Nat} {w : mW} {tx : List Nat} {cn ps : Int32} {cs : Nat → cmdT} (H : TxAt w t tx cn ps cs) (hl : tx.length ≤ 60) : Sp (d + 8) yX2_readAll cX2_readAll 1 (some .boolean) [.ref t] w 0 0 (fun v w' => (∃ l k cs', cAllR (tT tx) tx.length cs 12 0 0 = (some l, k) ∧ v = some (.int 1) ∧ TxTo w w' t tx (nI l.length) (nI k) cs' ∧ l.length ≤ 12 ∧ ∀ j, j < l.length → cs' j = l.getD j cmd0) ∨ (∃ k cn' cs', cAllR (tT tx) tx.length cs 12 0 0 = (none, k) ∧ v = some (.int 0) ∧ TxTo w w' t tx cn' (nI k) cs')) noX := by
  refine Sp.of (by decide +kernel) (Nat.le_of_ble_eq_true rfl) (fun X hC hnl hE hR hN => ?_)
  have hC : Cx X RX2 cX2_readAll (d + 8) 0 0 := hC
  show Wp X 0 0 w [(0, .ref t)] [] 0
  refine r_aload_n hC dX2_readAll_0 rfl (j := 0) rfl ?_
  refine r_iconst hC dX2_readAll_1 (v := 0) (by decide) ?_
  refine r_put' hC pX2_readAll_2 H.1 (Nat.le_of_ble_eq_true rfl) (fun _ => rfl) (fun _ => rfl) (fun w_1 ew_1 => ?_)
  have T1 : TxTo w w_1 t tx cn (nI 0) cs := by rw [ew_1]; exact (TxTo.rfl H).pos _ _
  refine r_aload_n hC dX2_readAll_5 rfl (j := 0) rfl ?_
  refine r_iconst hC dX2_readAll_6 (v := 0) (by decide) ?_
  refine r_put' hC pX2_readAll_7 T1.1.1 (Nat.le_of_ble_eq_true rfl) (fun _ => rfl) (fun _ => rfl) (fun w_2 ew_2 => ?_)
  have T2 : TxTo w w_2 t tx (nI 0) (nI 0) cs := by rw [ew_2]; exact T1.pos _ _
  refine al_all hC hnl hE hR hl 12 0 0 w_2 cs rfl (by rw [ew_2, ew_1, List.length_set, List.length_set]) T2.1 (Nat.zero_le _) (fun _ _ => rfl) (fun w' l k cs' hl' hr T' hn hj1 hj2 => ?_) (fun w' k' cn' cs' hl' hr T' => ?_)
  · rw [Nat.zero_add] at T' hn
    exact Or.inl ⟨l, k, cs', hr, rfl, T2.trans T', hn, fun j hj => by have := hj2 j hj; rw [Nat.zero_add] at this; exact this⟩
  · exact Or.inr ⟨k', cn', cs', hr, rfl, T2.trans T'⟩
end RK
