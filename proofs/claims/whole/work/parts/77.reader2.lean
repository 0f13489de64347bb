section RK
def kwL : List (List Int32) := [mSt30, mSt31, mSt32, mSt33, mSt34, mSt35, mSt36, mSt37]
/-- which of the words stands at h, or how far the text goes along one of them -/
def cKey (t : Nat → Int32) (e h : Nat) : List (List Int32) → Nat → Nat → Option Nat × Nat
  | [], _, lg => (none, h + lg)
  | w :: r, c, lg => if cAl t e w h = w.length then (some c, h + w.length) else cKey t e h r (c + 1) (max lg (cAl t e w h))
theorem cKey_n {t : Nat → Int32} {e h c lg : Nat} {w : List Int32} {r : List (List Int32)} (z : ¬ cAl t e w h = w.length) : cKey t e h (w :: r) c lg = cKey t e h r (c + 1) (max lg (cAl t e w h)) := if_neg z
theorem cKey_p {t : Nat → Int32} {e h c lg : Nat} {w : List Int32} {r : List (List Int32)} (z : cAl t e w h = w.length) : cKey t e h (w :: r) c lg = (some c, h + w.length) := if_pos z
theorem cKey_0 {t : Nat → Int32} {e h c lg : Nat} : cKey t e h [] c lg = (none, h + lg) := rfl
set_option maxRecDepth 100000 in
set_option maxHeartbeats 4000000 in
theorem sx_key {d : Nat} {i kw : Nat} {x1 x2 x3 : Int32} {w : mW} {t h : Nat} {tx : List Nat} {cn : Int32} {cs : Nat → cmdT} (H : TxAt w t tx cn (nI h) cs) (hl : tx.length ≤ 60) (hh : h ≤ tx.length) (hc : w[t + 3 + i]? = some (mO 4 [.ref kw, .int x1, .int x2, .int x3])) : Sp (d + 6) yX2_readKeyword cX2_readKeyword 8 (some .boolean) [.ref t, .ref (t + 3 + i)] w 0 0 (fun v w' => (∃ c k, c < 8 ∧ cKey (tT tx) tx.length h kwL 0 0 = (some c, k) ∧ v = some (.int 1) ∧ w' = (txP w t cn (nI k)).set (t + 3 + i) (mO 4 [.ref (1000020 + c), .int x1, .int x2, .int x3])) ∨ (∃ k, cKey (tT tx) tx.length h kwL 0 0 = (none, k) ∧ v = some (.int 0) ∧ w' = txP w t cn (nI k))) noX := by
  refine Sp.of (by decide +kernel) (Nat.le_of_ble_eq_true rfl) (fun X hC hnl hE hR hN => ?_)
  have hC : Cx X RX2 cX2_readKeyword (d + 6) 0 0 := hC
  show Wp X 0 0 w [(0, .ref t), (1, .ref (t + 3 + i))] [] 0
  have ho := H.1
  have hs := H.2.1
  obtain ⟨A, hA⟩ : ∃ A : Nat → Nat, ∀ c, A c = cAl (tT tx) tx.length (kwL.getD c []) h := ⟨_, fun _ => rfl⟩
  have hA0 : A 0 = cAl (tT tx) tx.length mSt30 h := hA 0
  have hA1 : A 1 = cAl (tT tx) tx.length mSt31 h := hA 1
  have hA2 : A 2 = cAl (tT tx) tx.length mSt32 h := hA 2
  have hA3 : A 3 = cAl (tT tx) tx.length mSt33 h := hA 3
  have hA4 : A 4 = cAl (tT tx) tx.length mSt34 h := hA 4
  have hA5 : A 5 = cAl (tT tx) tx.length mSt35 h := hA 5
  have hA6 : A 6 = cAl (tT tx) tx.length mSt36 h := hA 6
  have hA7 : A 7 = cAl (tT tx) tx.length mSt37 h := hA 7
  have hb : ∀ c, A c ≤ 10 := fun c => by
    rw [hA c]
    refine Nat.le_trans cAl_le ?_
    rcases Nat.lt_or_ge c 8 with z | z
    · have : ∀ c, c < 8 → (kwL.getD c []).length ≤ 10 := by decide
      exact this c z
    · rw [List.getD_eq_getElem?_getD, List.getElem?_eq_none (show kwL.length ≤ c from z)]; decide
  have hb0 := hb 0
  have hb1 := hb 1
  have hb2 := hb 2
  have hb3 := hb 3
  have hb4 := hb 4
  have hb5 := hb 5
  have hb6 := hb 6
  have hb7 := hb 7
  have hm0 : 0 ≤ 10 := Nat.zero_le _
  have hm1 : (max 0 (A 0)) ≤ 10 := Nat.max_le.mpr ⟨hm0, hb0⟩
  have hm2 : (max (max 0 (A 0)) (A 1)) ≤ 10 := Nat.max_le.mpr ⟨hm1, hb1⟩
  have hm3 : (max (max (max 0 (A 0)) (A 1)) (A 2)) ≤ 10 := Nat.max_le.mpr ⟨hm2, hb2⟩
  have hm4 : (max (max (max (max 0 (A 0)) (A 1)) (A 2)) (A 3)) ≤ 10 := Nat.max_le.mpr ⟨hm3, hb3⟩
  have hm5 : (max (max (max (max (max 0 (A 0)) (A 1)) (A 2)) (A 3)) (A 4)) ≤ 10 := Nat.max_le.mpr ⟨hm4, hb4⟩
  have hm6 : (max (max (max (max (max (max 0 (A 0)) (A 1)) (A 2)) (A 3)) (A 4)) (A 5)) ≤ 10 := Nat.max_le.mpr ⟨hm5, hb5⟩
  have hm7 : (max (max (max (max (max (max (max 0 (A 0)) (A 1)) (A 2)) (A 3)) (A 4)) (A 5)) (A 6)) ≤ 10 := Nat.max_le.mpr ⟨hm6, hb6⟩
  have hm8 : (max (max (max (max (max (max (max (max 0 (A 0)) (A 1)) (A 2)) (A 3)) (A 4)) (A 5)) (A 6)) (A 7)) ≤ 10 := Nat.max_le.mpr ⟨hm7, hb7⟩
  refine r_iconst hC dX2_readKeyword_0 (v := 0) (by decide) ?_
  refine r_istore_n hC dX2_readKeyword_1 rfl (by rw [hnl]; decide) (L' := [(2, .int 0), (0, .ref t), (1, .ref (t + 3 + i))]) rfl ?_
  refine r_gets hC sX2_readKeyword_2 (v := .ref 1000001) gZ_kw ?_
  refine r_astore_n hC dX2_readKeyword_5 rfl (by rw [hnl]; decide) (L' := [(3, .ref 1000001), (2, .int 0), (0, .ref t), (1, .ref (t + 3 + i))]) rfl ?_
  refine r_aload_n hC dX2_readKeyword_6 rfl (j := 0) rfl ?_
  refine r_alenS hC dX2_readKeyword_7 (v := 8) gT_kw (by decide) ?_
  refine r_istore hC dX2_readKeyword_8 (by rw [hnl]; decide) (L' := [(4, .int 8), (3, .ref 1000001), (2, .int 0), (0, .ref t), (1, .ref (t + 3 + i))]) rfl ?_
  refine r_iconst hC dX2_readKeyword_10 (v := 0) (by decide) ?_
  refine r_istore hC dX2_readKeyword_11 (by rw [hnl]; decide) (L' := [(5, .int 0), (4, .int 8), (3, .ref 1000001), (2, .int 0), (0, .ref t), (1, .ref (t + 3 + i))]) rfl ?_
  refine r_iload hC dX2_readKeyword_13 (j := 0) rfl ?_
  refine r_iload hC dX2_readKeyword_15 (j := 1) rfl ?_
  refine r_icmp_ge hC dX2_readKeyword_17 (tgt := 82) (by decide) (fun h => absurd h (by decide)) (fun _ => ?_)
  refine r_aload_n hC dX2_readKeyword_20 rfl (j := 2) rfl ?_
  refine r_iload hC dX2_readKeyword_21 (j := 0) rfl ?_
  refine r_aaldS hC dX2_readKeyword_23 (j := 0) gT_kw ⟨by decide, by decide, by decide⟩ ?_
  show Wp X 0 0 w [(5, .int 0), (4, .int 8), (3, .ref 1000001), (2, .int 0), (0, .ref t), (1, .ref (t + 3 + i))] [.ref 1000020] 24
  refine r_astore hC dX2_readKeyword_24 (by rw [hnl]; decide) (L' := [(6, .ref 1000020), (5, .int 0), (4, .int 8), (3, .ref 1000001), (2, .int 0), (0, .ref t), (1, .ref (t + 3 + i))]) rfl ?_
  refine r_aload_n hC dX2_readKeyword_26 rfl (j := 5) rfl ?_
  refine r_aload hC dX2_readKeyword_27 (j := 0) rfl ?_
  refine r_getk hC gX2_readKeyword_29 (v := .ref 1000030) (List.mem_of_getElem? (i := 1) rfl) ?_
  refine r_callV hC (vs := [.ref 1000030]) vX2_readKeyword_32 (sx_alike (d := d) H hl hh kw_0) ho rfl rfl (by omega) (by omega) (by omega) (Nat.le_of_ble_eq_true rfl) (fun v_1 w_1 hP_1 hlen_1 => ?_) (fun _ _ h => h.elim)
  rw [hP_1.1, hP_1.2]
  show Wp X 0 0 w [(6, .ref 1000020), (5, .int 0), (4, .int 8), (3, .ref 1000001), (2, .int 0), (0, .ref t), (1, .ref (t + 3 + i))] [.int (nI (cAl (tT tx) tx.length mSt30 h))] 35
  rw [← hA0]
  refine r_istore hC dX2_readKeyword_35 (by rw [hnl]; decide) (L' := [(7, .int (nI (A 0))), (6, .ref 1000020), (5, .int 0), (4, .int 8), (3, .ref 1000001), (2, .int 0), (0, .ref t), (1, .ref (t + 3 + i))]) rfl ?_
  refine r_iload hC dX2_readKeyword_37 (j := 0) rfl ?_
  refine r_aload hC dX2_readKeyword_39 (j := 1) rfl ?_
  refine r_getk hC gX2_readKeyword_41 (v := .ref 1000030) (List.mem_of_getElem? (i := 1) rfl) ?_
  refine r_callXK hC (vs := []) vX2_readKeyword_44.x (sk_len (d := d) kw_0.1 kw_0.2.1 kw_0.2.2.1 kw_0.2.2.2.1) kw_0.2.2.1 rfl (by omega) (by omega) (by omega) (Nat.le_of_ble_eq_true rfl) (fun v_2 w_2 hP_2 hlen_2 => ?_)
  obtain ⟨rfl, rfl⟩ := hP_2
  show Wp X 0 0 w [(7, .int (nI (A 0))), (6, .ref 1000020), (5, .int 0), (4, .int 8), (3, .ref 1000001), (2, .int 0), (0, .ref t), (1, .ref (t + 3 + i))] [.int (nI mSt30.length), .int (nI (A 0))] 47
  refine r_icmp_ne hC dX2_readKeyword_47 (tgt := 69) (by decide) (fun c47_0 => ?_) (fun c47_0 => ?_)
  · refine r_iload_n hC dX2_readKeyword_69 rfl (j := 5) rfl ?_
    refine r_iload hC dX2_readKeyword_70 (j := 0) rfl ?_
    refine r_max hC vX2_readKeyword_72 (Nat.le_of_ble_eq_true rfl) (by omega) (by omega) (by omega) ?_
    rw [nI_max (by omega) (by omega)]
    refine r_istore_n hC dX2_readKeyword_75 rfl (by rw [hnl]; decide) (L' := [(2, .int (nI (max 0 (A 0)))), (7, .int (nI (A 0))), (6, .ref 1000020), (5, .int 0), (4, .int 8), (3, .ref 1000001), (0, .ref t), (1, .ref (t + 3 + i))]) rfl ?_
    refine r_iinc hC dX2_readKeyword_76 (j := 3) rfl (v := 1) (by decide) (by rw [hnl]; decide) (L' := [(5, .int 1), (2, .int (nI (max 0 (A 0)))), (7, .int (nI (A 0))), (6, .ref 1000020), (4, .int 8), (3, .ref 1000001), (0, .ref t), (1, .ref (t + 3 + i))]) rfl ?_
    refine r_goto hC dX2_readKeyword_79 (tgt := 13) (by decide) ?_
    refine r_iload hC dX2_readKeyword_13 (j := 0) rfl ?_
    refine r_iload hC dX2_readKeyword_15 (j := 4) rfl ?_
    refine r_icmp_ge hC dX2_readKeyword_17 (tgt := 82) (by decide) (fun h => absurd h (by decide)) (fun _ => ?_)
    refine r_aload_n hC dX2_readKeyword_20 rfl (j := 5) rfl ?_
    refine r_iload hC dX2_readKeyword_21 (j := 0) rfl ?_
    refine r_aaldS hC dX2_readKeyword_23 (j := 1) gT_kw ⟨by decide, by decide, by decide⟩ ?_
    show Wp X 0 0 w [(5, .int 1), (2, .int (nI (max 0 (A 0)))), (7, .int (nI (A 0))), (6, .ref 1000020), (4, .int 8), (3, .ref 1000001), (0, .ref t), (1, .ref (t + 3 + i))] [.ref 1000021] 24
    refine r_astore hC dX2_readKeyword_24 (by rw [hnl]; decide) (L' := [(6, .ref 1000021), (5, .int 1), (2, .int (nI (max 0 (A 0)))), (7, .int (nI (A 0))), (4, .int 8), (3, .ref 1000001), (0, .ref t), (1, .ref (t + 3 + i))]) rfl ?_
    refine r_aload_n hC dX2_readKeyword_26 rfl (j := 6) rfl ?_
    refine r_aload hC dX2_readKeyword_27 (j := 0) rfl ?_
    refine r_getk hC gX2_readKeyword_29 (v := .ref 1000031) (List.mem_of_getElem? (i := 4) rfl) ?_
    refine r_callV hC (vs := [.ref 1000031]) vX2_readKeyword_32 (sx_alike (d := d) H hl hh kw_1) ho rfl rfl (by omega) (by omega) (by omega) (Nat.le_of_ble_eq_true rfl) (fun v_4 w_4 hP_4 hlen_4 => ?_) (fun _ _ h => h.elim)
    rw [hP_4.1, hP_4.2]
    show Wp X 0 0 w [(6, .ref 1000021), (5, .int 1), (2, .int (nI (max 0 (A 0)))), (7, .int (nI (A 0))), (4, .int 8), (3, .ref 1000001), (0, .ref t), (1, .ref (t + 3 + i))] [.int (nI (cAl (tT tx) tx.length mSt31 h))] 35
    rw [← hA1]
    refine r_istore hC dX2_readKeyword_35 (by rw [hnl]; decide) (L' := [(7, .int (nI (A 1))), (6, .ref 1000021), (5, .int 1), (2, .int (nI (max 0 (A 0)))), (4, .int 8), (3, .ref 1000001), (0, .ref t), (1, .ref (t + 3 + i))]) rfl ?_
    refine r_iload hC dX2_readKeyword_37 (j := 0) rfl ?_
    refine r_aload hC dX2_readKeyword_39 (j := 1) rfl ?_
    refine r_getk hC gX2_readKeyword_41 (v := .ref 1000031) (List.mem_of_getElem? (i := 4) rfl) ?_
    refine r_callXK hC (vs := []) vX2_readKeyword_44.x (sk_len (d := d) kw_1.1 kw_1.2.1 kw_1.2.2.1 kw_1.2.2.2.1) kw_1.2.2.1 rfl (by omega) (by omega) (by omega) (Nat.le_of_ble_eq_true rfl) (fun v_5 w_5 hP_5 hlen_5 => ?_)
    obtain ⟨rfl, rfl⟩ := hP_5
    show Wp X 0 0 w [(7, .int (nI (A 1))), (6, .ref 1000021), (5, .int 1), (2, .int (nI (max 0 (A 0)))), (4, .int 8), (3, .ref 1000001), (0, .ref t), (1, .ref (t + 3 + i))] [.int (nI mSt31.length), .int (nI (A 1))] 47
    refine r_icmp_ne hC dX2_readKeyword_47 (tgt := 69) (by decide) (fun c47_1 => ?_) (fun c47_1 => ?_)
    · refine r_iload_n hC dX2_readKeyword_69 rfl (j := 3) rfl ?_
      refine r_iload hC dX2_readKeyword_70 (j := 0) rfl ?_
      refine r_max hC vX2_readKeyword_72 (Nat.le_of_ble_eq_true rfl) (by omega) (by omega) (by omega) ?_
      rw [nI_max (by omega) (by omega)]
      refine r_istore_n hC dX2_readKeyword_75 rfl (by rw [hnl]; decide) (L' := [(2, .int (nI (max (max 0 (A 0)) (A 1)))), (7, .int (nI (A 1))), (6, .ref 1000021), (5, .int 1), (4, .int 8), (3, .ref 1000001), (0, .ref t), (1, .ref (t + 3 + i))]) rfl ?_
      refine r_iinc hC dX2_readKeyword_76 (j := 3) rfl (v := 2) (by decide) (by rw [hnl]; decide) (L' := [(5, .int 2), (2, .int (nI (max (max 0 (A 0)) (A 1)))), (7, .int (nI (A 1))), (6, .ref 1000021), (4, .int 8), (3, .ref 1000001), (0, .ref t), (1, .ref (t + 3 + i))]) rfl ?_
      refine r_goto hC dX2_readKeyword_79 (tgt := 13) (by decide) ?_
      refine r_iload hC dX2_readKeyword_13 (j := 0) rfl ?_
      refine r_iload hC dX2_readKeyword_15 (j := 4) rfl ?_
      refine r_icmp_ge hC dX2_readKeyword_17 (tgt := 82) (by decide) (fun h => absurd h (by decide)) (fun _ => ?_)
      refine r_aload_n hC dX2_readKeyword_20 rfl (j := 5) rfl ?_
      refine r_iload hC dX2_readKeyword_21 (j := 0) rfl ?_
      refine r_aaldS hC dX2_readKeyword_23 (j := 2) gT_kw ⟨by decide, by decide, by decide⟩ ?_
      show Wp X 0 0 w [(5, .int 2), (2, .int (nI (max (max 0 (A 0)) (A 1)))), (7, .int (nI (A 1))), (6, .ref 1000021), (4, .int 8), (3, .ref 1000001), (0, .ref t), (1, .ref (t + 3 + i))] [.ref 1000022] 24
      refine r_astore hC dX2_readKeyword_24 (by rw [hnl]; decide) (L' := [(6, .ref 1000022), (5, .int 2), (2, .int (nI (max (max 0 (A 0)) (A 1)))), (7, .int (nI (A 1))), (4, .int 8), (3, .ref 1000001), (0, .ref t), (1, .ref (t + 3 + i))]) rfl ?_
      refine r_aload_n hC dX2_readKeyword_26 rfl (j := 6) rfl ?_
      refine r_aload hC dX2_readKeyword_27 (j := 0) rfl ?_
      refine r_getk hC gX2_readKeyword_29 (v := .ref 1000032) (List.mem_of_getElem? (i := 7) rfl) ?_
      refine r_callV hC (vs := [.ref 1000032]) vX2_readKeyword_32 (sx_alike (d := d) H hl hh kw_2) ho rfl rfl (by omega) (by omega) (by omega) (Nat.le_of_ble_eq_true rfl) (fun v_7 w_7 hP_7 hlen_7 => ?_) (fun _ _ h => h.elim)
      rw [hP_7.1, hP_7.2]
      show Wp X 0 0 w [(6, .ref 1000022), (5, .int 2), (2, .int (nI (max (max 0 (A 0)) (A 1)))), (7, .int (nI (A 1))), (4, .int 8), (3, .ref 1000001), (0, .ref t), (1, .ref (t + 3 + i))] [.int (nI (cAl (tT tx) tx.length mSt32 h))] 35
      rw [← hA2]
      refine r_istore hC dX2_readKeyword_35 (by rw [hnl]; decide) (L' := [(7, .int (nI (A 2))), (6, .ref 1000022), (5, .int 2), (2, .int (nI (max (max 0 (A 0)) (A 1)))), (4, .int 8), (3, .ref 1000001), (0, .ref t), (1, .ref (t + 3 + i))]) rfl ?_
      refine r_iload hC dX2_readKeyword_37 (j := 0) rfl ?_
      refine r_aload hC dX2_readKeyword_39 (j := 1) rfl ?_
      refine r_getk hC gX2_readKeyword_41 (v := .ref 1000032) (List.mem_of_getElem? (i := 7) rfl) ?_
      refine r_callXK hC (vs := []) vX2_readKeyword_44.x (sk_len (d := d) kw_2.1 kw_2.2.1 kw_2.2.2.1 kw_2.2.2.2.1) kw_2.2.2.1 rfl (by omega) (by omega) (by omega) (Nat.le_of_ble_eq_true rfl) (fun v_8 w_8 hP_8 hlen_8 => ?_)
      obtain ⟨rfl, rfl⟩ := hP_8
      show Wp X 0 0 w [(7, .int (nI (A 2))), (6, .ref 1000022), (5, .int 2), (2, .int (nI (max (max 0 (A 0)) (A 1)))), (4, .int 8), (3, .ref 1000001), (0, .ref t), (1, .ref (t + 3 + i))] [.int (nI mSt32.length), .int (nI (A 2))] 47
      refine r_icmp_ne hC dX2_readKeyword_47 (tgt := 69) (by decide) (fun c47_2 => ?_) (fun c47_2 => ?_)
      · refine r_iload_n hC dX2_readKeyword_69 rfl (j := 3) rfl ?_
        refine r_iload hC dX2_readKeyword_70 (j := 0) rfl ?_
        refine r_max hC vX2_readKeyword_72 (Nat.le_of_ble_eq_true rfl) (by omega) (by omega) (by omega) ?_
        rw [nI_max (by omega) (by omega)]
        refine r_istore_n hC dX2_readKeyword_75 rfl (by rw [hnl]; decide) (L' := [(2, .int (nI (max (max (max 0 (A 0)) (A 1)) (A 2)))), (7, .int (nI (A 2))), (6, .ref 1000022), (5, .int 2), (4, .int 8), (3, .ref 1000001), (0, .ref t), (1, .ref (t + 3 + i))]) rfl ?_
        refine r_iinc hC dX2_readKeyword_76 (j := 3) rfl (v := 3) (by decide) (by rw [hnl]; decide) (L' := [(5, .int 3), (2, .int (nI (max (max (max 0 (A 0)) (A 1)) (A 2)))), (7, .int (nI (A 2))), (6, .ref 1000022), (4, .int 8), (3, .ref 1000001), (0, .ref t), (1, .ref (t + 3 + i))]) rfl ?_
        refine r_goto hC dX2_readKeyword_79 (tgt := 13) (by decide) ?_
        refine r_iload hC dX2_readKeyword_13 (j := 0) rfl ?_
        refine r_iload hC dX2_readKeyword_15 (j := 4) rfl ?_
        refine r_icmp_ge hC dX2_readKeyword_17 (tgt := 82) (by decide) (fun h => absurd h (by decide)) (fun _ => ?_)
        refine r_aload_n hC dX2_readKeyword_20 rfl (j := 5) rfl ?_
        refine r_iload hC dX2_readKeyword_21 (j := 0) rfl ?_
        refine r_aaldS hC dX2_readKeyword_23 (j := 3) gT_kw ⟨by decide, by decide, by decide⟩ ?_
        show Wp X 0 0 w [(5, .int 3), (2, .int (nI (max (max (max 0 (A 0)) (A 1)) (A 2)))), (7, .int (nI (A 2))), (6, .ref 1000022), (4, .int 8), (3, .ref 1000001), (0, .ref t), (1, .ref (t + 3 + i))] [.ref 1000023] 24
        refine r_astore hC dX2_readKeyword_24 (by rw [hnl]; decide) (L' := [(6, .ref 1000023), (5, .int 3), (2, .int (nI (max (max (max 0 (A 0)) (A 1)) (A 2)))), (7, .int (nI (A 2))), (4, .int 8), (3, .ref 1000001), (0, .ref t), (1, .ref (t + 3 + i))]) rfl ?_
        refine r_aload_n hC dX2_readKeyword_26 rfl (j := 6) rfl ?_
        refine r_aload hC dX2_readKeyword_27 (j := 0) rfl ?_
        refine r_getk hC gX2_readKeyword_29 (v := .ref 1000033) (List.mem_of_getElem? (i := 10) rfl) ?_
        refine r_callV hC (vs := [.ref 1000033]) vX2_readKeyword_32 (sx_alike (d := d) H hl hh kw_3) ho rfl rfl (by omega) (by omega) (by omega) (Nat.le_of_ble_eq_true rfl) (fun v_10 w_10 hP_10 hlen_10 => ?_) (fun _ _ h => h.elim)
        rw [hP_10.1, hP_10.2]
        show Wp X 0 0 w [(6, .ref 1000023), (5, .int 3), (2, .int (nI (max (max (max 0 (A 0)) (A 1)) (A 2)))), (7, .int (nI (A 2))), (4, .int 8), (3, .ref 1000001), (0, .ref t), (1, .ref (t + 3 + i))] [.int (nI (cAl (tT tx) tx.length mSt33 h))] 35
        rw [← hA3]
        refine r_istore hC dX2_readKeyword_35 (by rw [hnl]; decide) (L' := [(7, .int (nI (A 3))), (6, .ref 1000023), (5, .int 3), (2, .int (nI (max (max (max 0 (A 0)) (A 1)) (A 2)))), (4, .int 8), (3, .ref 1000001), (0, .ref t), (1, .ref (t + 3 + i))]) rfl ?_
        refine r_iload hC dX2_readKeyword_37 (j := 0) rfl ?_
        refine r_aload hC dX2_readKeyword_39 (j := 1) rfl ?_
        refine r_getk hC gX2_readKeyword_41 (v := .ref 1000033) (List.mem_of_getElem? (i := 10) rfl) ?_
        refine r_callXK hC (vs := []) vX2_readKeyword_44.x (sk_len (d := d) kw_3.1 kw_3.2.1 kw_3.2.2.1 kw_3.2.2.2.1) kw_3.2.2.1 rfl (by omega) (by omega) (by omega) (Nat.le_of_ble_eq_true rfl) (fun v_11 w_11 hP_11 hlen_11 => ?_)
        obtain ⟨rfl, rfl⟩ := hP_11
        show Wp X 0 0 w [(7, .int (nI (A 3))), (6, .ref 1000023), (5, .int 3), (2, .int (nI (max (max (max 0 (A 0)) (A 1)) (A 2)))), (4, .int 8), (3, .ref 1000001), (0, .ref t), (1, .ref (t + 3 + i))] [.int (nI mSt33.length), .int (nI (A 3))] 47
        refine r_icmp_ne hC dX2_readKeyword_47 (tgt := 69) (by decide) (fun c47_3 => ?_) (fun c47_3 => ?_)
        · refine r_iload_n hC dX2_readKeyword_69 rfl (j := 3) rfl ?_
          refine r_iload hC dX2_readKeyword_70 (j := 0) rfl ?_
          refine r_max hC vX2_readKeyword_72 (Nat.le_of_ble_eq_true rfl) (by omega) (by omega) (by omega) ?_
          rw [nI_max (by omega) (by omega)]
          refine r_istore_n hC dX2_readKeyword_75 rfl (by rw [hnl]; decide) (L' := [(2, .int (nI (max (max (max (max 0 (A 0)) (A 1)) (A 2)) (A 3)))), (7, .int (nI (A 3))), (6, .ref 1000023), (5, .int 3), (4, .int 8), (3, .ref 1000001), (0, .ref t), (1, .ref (t + 3 + i))]) rfl ?_
          refine r_iinc hC dX2_readKeyword_76 (j := 3) rfl (v := 4) (by decide) (by rw [hnl]; decide) (L' := [(5, .int 4), (2, .int (nI (max (max (max (max 0 (A 0)) (A 1)) (A 2)) (A 3)))), (7, .int (nI (A 3))), (6, .ref 1000023), (4, .int 8), (3, .ref 1000001), (0, .ref t), (1, .ref (t + 3 + i))]) rfl ?_
          refine r_goto hC dX2_readKeyword_79 (tgt := 13) (by decide) ?_
          refine r_iload hC dX2_readKeyword_13 (j := 0) rfl ?_
          refine r_iload hC dX2_readKeyword_15 (j := 4) rfl ?_
          refine r_icmp_ge hC dX2_readKeyword_17 (tgt := 82) (by decide) (fun h => absurd h (by decide)) (fun _ => ?_)
          refine r_aload_n hC dX2_readKeyword_20 rfl (j := 5) rfl ?_
          refine r_iload hC dX2_readKeyword_21 (j := 0) rfl ?_
          refine r_aaldS hC dX2_readKeyword_23 (j := 4) gT_kw ⟨by decide, by decide, by decide⟩ ?_
          show Wp X 0 0 w [(5, .int 4), (2, .int (nI (max (max (max (max 0 (A 0)) (A 1)) (A 2)) (A 3)))), (7, .int (nI (A 3))), (6, .ref 1000023), (4, .int 8), (3, .ref 1000001), (0, .ref t), (1, .ref (t + 3 + i))] [.ref 1000024] 24
          refine r_astore hC dX2_readKeyword_24 (by rw [hnl]; decide) (L' := [(6, .ref 1000024), (5, .int 4), (2, .int (nI (max (max (max (max 0 (A 0)) (A 1)) (A 2)) (A 3)))), (7, .int (nI (A 3))), (4, .int 8), (3, .ref 1000001), (0, .ref t), (1, .ref (t + 3 + i))]) rfl ?_
          refine r_aload_n hC dX2_readKeyword_26 rfl (j := 6) rfl ?_
          refine r_aload hC dX2_readKeyword_27 (j := 0) rfl ?_
          refine r_getk hC gX2_readKeyword_29 (v := .ref 1000034) (List.mem_of_getElem? (i := 13) rfl) ?_
          refine r_callV hC (vs := [.ref 1000034]) vX2_readKeyword_32 (sx_alike (d := d) H hl hh kw_4) ho rfl rfl (by omega) (by omega) (by omega) (Nat.le_of_ble_eq_true rfl) (fun v_13 w_13 hP_13 hlen_13 => ?_) (fun _ _ h => h.elim)
          rw [hP_13.1, hP_13.2]
          show Wp X 0 0 w [(6, .ref 1000024), (5, .int 4), (2, .int (nI (max (max (max (max 0 (A 0)) (A 1)) (A 2)) (A 3)))), (7, .int (nI (A 3))), (4, .int 8), (3, .ref 1000001), (0, .ref t), (1, .ref (t + 3 + i))] [.int (nI (cAl (tT tx) tx.length mSt34 h))] 35
          rw [← hA4]
          refine r_istore hC dX2_readKeyword_35 (by rw [hnl]; decide) (L' := [(7, .int (nI (A 4))), (6, .ref 1000024), (5, .int 4), (2, .int (nI (max (max (max (max 0 (A 0)) (A 1)) (A 2)) (A 3)))), (4, .int 8), (3, .ref 1000001), (0, .ref t), (1, .ref (t + 3 + i))]) rfl ?_
          refine r_iload hC dX2_readKeyword_37 (j := 0) rfl ?_
          refine r_aload hC dX2_readKeyword_39 (j := 1) rfl ?_
          refine r_getk hC gX2_readKeyword_41 (v := .ref 1000034) (List.mem_of_getElem? (i := 13) rfl) ?_
          refine r_callXK hC (vs := []) vX2_readKeyword_44.x (sk_len (d := d) kw_4.1 kw_4.2.1 kw_4.2.2.1 kw_4.2.2.2.1) kw_4.2.2.1 rfl (by omega) (by omega) (by omega) (Nat.le_of_ble_eq_true rfl) (fun v_14 w_14 hP_14 hlen_14 => ?_)
          obtain ⟨rfl, rfl⟩ := hP_14
          show Wp X 0 0 w [(7, .int (nI (A 4))), (6, .ref 1000024), (5, .int 4), (2, .int (nI (max (max (max (max 0 (A 0)) (A 1)) (A 2)) (A 3)))), (4, .int 8), (3, .ref 1000001), (0, .ref t), (1, .ref (t + 3 + i))] [.int (nI mSt34.length), .int (nI (A 4))] 47
          refine r_icmp_ne hC dX2_readKeyword_47 (tgt := 69) (by decide) (fun c47_4 => ?_) (fun c47_4 => ?_)
          · refine r_iload_n hC dX2_readKeyword_69 rfl (j := 3) rfl ?_
            refine r_iload hC dX2_readKeyword_70 (j := 0) rfl ?_
            refine r_max hC vX2_readKeyword_72 (Nat.le_of_ble_eq_true rfl) (by omega) (by omega) (by omega) ?_
            rw [nI_max (by omega) (by omega)]
            refine r_istore_n hC dX2_readKeyword_75 rfl (by rw [hnl]; decide) (L' := [(2, .int (nI (max (max (max (max (max 0 (A 0)) (A 1)) (A 2)) (A 3)) (A 4)))), (7, .int (nI (A 4))), (6, .ref 1000024), (5, .int 4), (4, .int 8), (3, .ref 1000001), (0, .ref t), (1, .ref (t + 3 + i))]) rfl ?_
            refine r_iinc hC dX2_readKeyword_76 (j := 3) rfl (v := 5) (by decide) (by rw [hnl]; decide) (L' := [(5, .int 5), (2, .int (nI (max (max (max (max (max 0 (A 0)) (A 1)) (A 2)) (A 3)) (A 4)))), (7, .int (nI (A 4))), (6, .ref 1000024), (4, .int 8), (3, .ref 1000001), (0, .ref t), (1, .ref (t + 3 + i))]) rfl ?_
            refine r_goto hC dX2_readKeyword_79 (tgt := 13) (by decide) ?_
            refine r_iload hC dX2_readKeyword_13 (j := 0) rfl ?_
            refine r_iload hC dX2_readKeyword_15 (j := 4) rfl ?_
            refine r_icmp_ge hC dX2_readKeyword_17 (tgt := 82) (by decide) (fun h => absurd h (by decide)) (fun _ => ?_)
            refine r_aload_n hC dX2_readKeyword_20 rfl (j := 5) rfl ?_
            refine r_iload hC dX2_readKeyword_21 (j := 0) rfl ?_
            refine r_aaldS hC dX2_readKeyword_23 (j := 5) gT_kw ⟨by decide, by decide, by decide⟩ ?_
            show Wp X 0 0 w [(5, .int 5), (2, .int (nI (max (max (max (max (max 0 (A 0)) (A 1)) (A 2)) (A 3)) (A 4)))), (7, .int (nI (A 4))), (6, .ref 1000024), (4, .int 8), (3, .ref 1000001), (0, .ref t), (1, .ref (t + 3 + i))] [.ref 1000025] 24
            refine r_astore hC dX2_readKeyword_24 (by rw [hnl]; decide) (L' := [(6, .ref 1000025), (5, .int 5), (2, .int (nI (max (max (max (max (max 0 (A 0)) (A 1)) (A 2)) (A 3)) (A 4)))), (7, .int (nI (A 4))), (4, .int 8), (3, .ref 1000001), (0, .ref t), (1, .ref (t + 3 + i))]) rfl ?_
            refine r_aload_n hC dX2_readKeyword_26 rfl (j := 6) rfl ?_
            refine r_aload hC dX2_readKeyword_27 (j := 0) rfl ?_
            refine r_getk hC gX2_readKeyword_29 (v := .ref 1000035) (List.mem_of_getElem? (i := 16) rfl) ?_
            refine r_callV hC (vs := [.ref 1000035]) vX2_readKeyword_32 (sx_alike (d := d) H hl hh kw_5) ho rfl rfl (by omega) (by omega) (by omega) (Nat.le_of_ble_eq_true rfl) (fun v_16 w_16 hP_16 hlen_16 => ?_) (fun _ _ h => h.elim)
            rw [hP_16.1, hP_16.2]
            show Wp X 0 0 w [(6, .ref 1000025), (5, .int 5), (2, .int (nI (max (max (max (max (max 0 (A 0)) (A 1)) (A 2)) (A 3)) (A 4)))), (7, .int (nI (A 4))), (4, .int 8), (3, .ref 1000001), (0, .ref t), (1, .ref (t + 3 + i))] [.int (nI (cAl (tT tx) tx.length mSt35 h))] 35
            rw [← hA5]
            refine r_istore hC dX2_readKeyword_35 (by rw [hnl]; decide) (L' := [(7, .int (nI (A 5))), (6, .ref 1000025), (5, .int 5), (2, .int (nI (max (max (max (max (max 0 (A 0)) (A 1)) (A 2)) (A 3)) (A 4)))), (4, .int 8), (3, .ref 1000001), (0, .ref t), (1, .ref (t + 3 + i))]) rfl ?_
            refine r_iload hC dX2_readKeyword_37 (j := 0) rfl ?_
            refine r_aload hC dX2_readKeyword_39 (j := 1) rfl ?_
            refine r_getk hC gX2_readKeyword_41 (v := .ref 1000035) (List.mem_of_getElem? (i := 16) rfl) ?_
            refine r_callXK hC (vs := []) vX2_readKeyword_44.x (sk_len (d := d) kw_5.1 kw_5.2.1 kw_5.2.2.1 kw_5.2.2.2.1) kw_5.2.2.1 rfl (by omega) (by omega) (by omega) (Nat.le_of_ble_eq_true rfl) (fun v_17 w_17 hP_17 hlen_17 => ?_)
            obtain ⟨rfl, rfl⟩ := hP_17
            show Wp X 0 0 w [(7, .int (nI (A 5))), (6, .ref 1000025), (5, .int 5), (2, .int (nI (max (max (max (max (max 0 (A 0)) (A 1)) (A 2)) (A 3)) (A 4)))), (4, .int 8), (3, .ref 1000001), (0, .ref t), (1, .ref (t + 3 + i))] [.int (nI mSt35.length), .int (nI (A 5))] 47
            refine r_icmp_ne hC dX2_readKeyword_47 (tgt := 69) (by decide) (fun c47_5 => ?_) (fun c47_5 => ?_)
            · refine r_iload_n hC dX2_readKeyword_69 rfl (j := 3) rfl ?_
              refine r_iload hC dX2_readKeyword_70 (j := 0) rfl ?_
              refine r_max hC vX2_readKeyword_72 (Nat.le_of_ble_eq_true rfl) (by omega) (by omega) (by omega) ?_
              rw [nI_max (by omega) (by omega)]
              refine r_istore_n hC dX2_readKeyword_75 rfl (by rw [hnl]; decide) (L' := [(2, .int (nI (max (max (max (max (max (max 0 (A 0)) (A 1)) (A 2)) (A 3)) (A 4)) (A 5)))), (7, .int (nI (A 5))), (6, .ref 1000025), (5, .int 5), (4, .int 8), (3, .ref 1000001), (0, .ref t), (1, .ref (t + 3 + i))]) rfl ?_
              refine r_iinc hC dX2_readKeyword_76 (j := 3) rfl (v := 6) (by decide) (by rw [hnl]; decide) (L' := [(5, .int 6), (2, .int (nI (max (max (max (max (max (max 0 (A 0)) (A 1)) (A 2)) (A 3)) (A 4)) (A 5)))), (7, .int (nI (A 5))), (6, .ref 1000025), (4, .int 8), (3, .ref 1000001), (0, .ref t), (1, .ref (t + 3 + i))]) rfl ?_
              refine r_goto hC dX2_readKeyword_79 (tgt := 13) (by decide) ?_
              refine r_iload hC dX2_readKeyword_13 (j := 0) rfl ?_
              refine r_iload hC dX2_readKeyword_15 (j := 4) rfl ?_
              refine r_icmp_ge hC dX2_readKeyword_17 (tgt := 82) (by decide) (fun h => absurd h (by decide)) (fun _ => ?_)
              refine r_aload_n hC dX2_readKeyword_20 rfl (j := 5) rfl ?_
              refine r_iload hC dX2_readKeyword_21 (j := 0) rfl ?_
              refine r_aaldS hC dX2_readKeyword_23 (j := 6) gT_kw ⟨by decide, by decide, by decide⟩ ?_
              show Wp X 0 0 w [(5, .int 6), (2, .int (nI (max (max (max (max (max (max 0 (A 0)) (A 1)) (A 2)) (A 3)) (A 4)) (A 5)))), (7, .int (nI (A 5))), (6, .ref 1000025), (4, .int 8), (3, .ref 1000001), (0, .ref t), (1, .ref (t + 3 + i))] [.ref 1000026] 24
              refine r_astore hC dX2_readKeyword_24 (by rw [hnl]; decide) (L' := [(6, .ref 1000026), (5, .int 6), (2, .int (nI (max (max (max (max (max (max 0 (A 0)) (A 1)) (A 2)) (A 3)) (A 4)) (A 5)))), (7, .int (nI (A 5))), (4, .int 8), (3, .ref 1000001), (0, .ref t), (1, .ref (t + 3 + i))]) rfl ?_
              refine r_aload_n hC dX2_readKeyword_26 rfl (j := 6) rfl ?_
              refine r_aload hC dX2_readKeyword_27 (j := 0) rfl ?_
              refine r_getk hC gX2_readKeyword_29 (v := .ref 1000036) (List.mem_of_getElem? (i := 19) rfl) ?_
              refine r_callV hC (vs := [.ref 1000036]) vX2_readKeyword_32 (sx_alike (d := d) H hl hh kw_6) ho rfl rfl (by omega) (by omega) (by omega) (Nat.le_of_ble_eq_true rfl) (fun v_19 w_19 hP_19 hlen_19 => ?_) (fun _ _ h => h.elim)
              rw [hP_19.1, hP_19.2]
              show Wp X 0 0 w [(6, .ref 1000026), (5, .int 6), (2, .int (nI (max (max (max (max (max (max 0 (A 0)) (A 1)) (A 2)) (A 3)) (A 4)) (A 5)))), (7, .int (nI (A 5))), (4, .int 8), (3, .ref 1000001), (0, .ref t), (1, .ref (t + 3 + i))] [.int (nI (cAl (tT tx) tx.length mSt36 h))] 35
              rw [← hA6]
              refine r_istore hC dX2_readKeyword_35 (by rw [hnl]; decide) (L' := [(7, .int (nI (A 6))), (6, .ref 1000026), (5, .int 6), (2, .int (nI (max (max (max (max (max (max 0 (A 0)) (A 1)) (A 2)) (A 3)) (A 4)) (A 5)))), (4, .int 8), (3, .ref 1000001), (0, .ref t), (1, .ref (t + 3 + i))]) rfl ?_
              refine r_iload hC dX2_readKeyword_37 (j := 0) rfl ?_
              refine r_aload hC dX2_readKeyword_39 (j := 1) rfl ?_
              refine r_getk hC gX2_readKeyword_41 (v := .ref 1000036) (List.mem_of_getElem? (i := 19) rfl) ?_
              refine r_callXK hC (vs := []) vX2_readKeyword_44.x (sk_len (d := d) kw_6.1 kw_6.2.1 kw_6.2.2.1 kw_6.2.2.2.1) kw_6.2.2.1 rfl (by omega) (by omega) (by omega) (Nat.le_of_ble_eq_true rfl) (fun v_20 w_20 hP_20 hlen_20 => ?_)
              obtain ⟨rfl, rfl⟩ := hP_20
              show Wp X 0 0 w [(7, .int (nI (A 6))), (6, .ref 1000026), (5, .int 6), (2, .int (nI (max (max (max (max (max (max 0 (A 0)) (A 1)) (A 2)) (A 3)) (A 4)) (A 5)))), (4, .int 8), (3, .ref 1000001), (0, .ref t), (1, .ref (t + 3 + i))] [.int (nI mSt36.length), .int (nI (A 6))] 47
              refine r_icmp_ne hC dX2_readKeyword_47 (tgt := 69) (by decide) (fun c47_6 => ?_) (fun c47_6 => ?_)
              · refine r_iload_n hC dX2_readKeyword_69 rfl (j := 3) rfl ?_
                refine r_iload hC dX2_readKeyword_70 (j := 0) rfl ?_
                refine r_max hC vX2_readKeyword_72 (Nat.le_of_ble_eq_true rfl) (by omega) (by omega) (by omega) ?_
                rw [nI_max (by omega) (by omega)]
                refine r_istore_n hC dX2_readKeyword_75 rfl (by rw [hnl]; decide) (L' := [(2, .int (nI (max (max (max (max (max (max (max 0 (A 0)) (A 1)) (A 2)) (A 3)) (A 4)) (A 5)) (A 6)))), (7, .int (nI (A 6))), (6, .ref 1000026), (5, .int 6), (4, .int 8), (3, .ref 1000001), (0, .ref t), (1, .ref (t + 3 + i))]) rfl ?_
                refine r_iinc hC dX2_readKeyword_76 (j := 3) rfl (v := 7) (by decide) (by rw [hnl]; decide) (L' := [(5, .int 7), (2, .int (nI (max (max (max (max (max (max (max 0 (A 0)) (A 1)) (A 2)) (A 3)) (A 4)) (A 5)) (A 6)))), (7, .int (nI (A 6))), (6, .ref 1000026), (4, .int 8), (3, .ref 1000001), (0, .ref t), (1, .ref (t + 3 + i))]) rfl ?_
                refine r_goto hC dX2_readKeyword_79 (tgt := 13) (by decide) ?_
                refine r_iload hC dX2_readKeyword_13 (j := 0) rfl ?_
                refine r_iload hC dX2_readKeyword_15 (j := 4) rfl ?_
                refine r_icmp_ge hC dX2_readKeyword_17 (tgt := 82) (by decide) (fun h => absurd h (by decide)) (fun _ => ?_)
                refine r_aload_n hC dX2_readKeyword_20 rfl (j := 5) rfl ?_
                refine r_iload hC dX2_readKeyword_21 (j := 0) rfl ?_
                refine r_aaldS hC dX2_readKeyword_23 (j := 7) gT_kw ⟨by decide, by decide, by decide⟩ ?_
                show Wp X 0 0 w [(5, .int 7), (2, .int (nI (max (max (max (max (max (max (max 0 (A 0)) (A 1)) (A 2)) (A 3)) (A 4)) (A 5)) (A 6)))), (7, .int (nI (A 6))), (6, .ref 1000026), (4, .int 8), (3, .ref 1000001), (0, .ref t), (1, .ref (t + 3 + i))] [.ref 1000027] 24
                refine r_astore hC dX2_readKeyword_24 (by rw [hnl]; decide) (L' := [(6, .ref 1000027), (5, .int 7), (2, .int (nI (max (max (max (max (max (max (max 0 (A 0)) (A 1)) (A 2)) (A 3)) (A 4)) (A 5)) (A 6)))), (7, .int (nI (A 6))), (4, .int 8), (3, .ref 1000001), (0, .ref t), (1, .ref (t + 3 + i))]) rfl ?_
                refine r_aload_n hC dX2_readKeyword_26 rfl (j := 6) rfl ?_
                refine r_aload hC dX2_readKeyword_27 (j := 0) rfl ?_
                refine r_getk hC gX2_readKeyword_29 (v := .ref 1000037) (List.mem_of_getElem? (i := 22) rfl) ?_
                refine r_callV hC (vs := [.ref 1000037]) vX2_readKeyword_32 (sx_alike (d := d) H hl hh kw_7) ho rfl rfl (by omega) (by omega) (by omega) (Nat.le_of_ble_eq_true rfl) (fun v_22 w_22 hP_22 hlen_22 => ?_) (fun _ _ h => h.elim)
                rw [hP_22.1, hP_22.2]
                show Wp X 0 0 w [(6, .ref 1000027), (5, .int 7), (2, .int (nI (max (max (max (max (max (max (max 0 (A 0)) (A 1)) (A 2)) (A 3)) (A 4)) (A 5)) (A 6)))), (7, .int (nI (A 6))), (4, .int 8), (3, .ref 1000001), (0, .ref t), (1, .ref (t + 3 + i))] [.int (nI (cAl (tT tx) tx.length mSt37 h))] 35
                rw [← hA7]
                refine r_istore hC dX2_readKeyword_35 (by rw [hnl]; decide) (L' := [(7, .int (nI (A 7))), (6, .ref 1000027), (5, .int 7), (2, .int (nI (max (max (max (max (max (max (max 0 (A 0)) (A 1)) (A 2)) (A 3)) (A 4)) (A 5)) (A 6)))), (4, .int 8), (3, .ref 1000001), (0, .ref t), (1, .ref (t + 3 + i))]) rfl ?_
                refine r_iload hC dX2_readKeyword_37 (j := 0) rfl ?_
                refine r_aload hC dX2_readKeyword_39 (j := 1) rfl ?_
                refine r_getk hC gX2_readKeyword_41 (v := .ref 1000037) (List.mem_of_getElem? (i := 22) rfl) ?_
                refine r_callXK hC (vs := []) vX2_readKeyword_44.x (sk_len (d := d) kw_7.1 kw_7.2.1 kw_7.2.2.1 kw_7.2.2.2.1) kw_7.2.2.1 rfl (by omega) (by omega) (by omega) (Nat.le_of_ble_eq_true rfl) (fun v_23 w_23 hP_23 hlen_23 => ?_)
                obtain ⟨rfl, rfl⟩ := hP_23
                show Wp X 0 0 w [(7, .int (nI (A 7))), (6, .ref 1000027), (5, .int 7), (2, .int (nI (max (max (max (max (max (max (max 0 (A 0)) (A 1)) (A 2)) (A 3)) (A 4)) (A 5)) (A 6)))), (4, .int 8), (3, .ref 1000001), (0, .ref t), (1, .ref (t + 3 + i))] [.int (nI mSt37.length), .int (nI (A 7))] 47
                refine r_icmp_ne hC dX2_readKeyword_47 (tgt := 69) (by decide) (fun c47_7 => ?_) (fun c47_7 => ?_)
                · refine r_iload_n hC dX2_readKeyword_69 rfl (j := 3) rfl ?_
                  refine r_iload hC dX2_readKeyword_70 (j := 0) rfl ?_
                  refine r_max hC vX2_readKeyword_72 (Nat.le_of_ble_eq_true rfl) (by omega) (by omega) (by omega) ?_
                  rw [nI_max (by omega) (by omega)]
                  refine r_istore_n hC dX2_readKeyword_75 rfl (by rw [hnl]; decide) (L' := [(2, .int (nI (max (max (max (max (max (max (max (max 0 (A 0)) (A 1)) (A 2)) (A 3)) (A 4)) (A 5)) (A 6)) (A 7)))), (7, .int (nI (A 7))), (6, .ref 1000027), (5, .int 7), (4, .int 8), (3, .ref 1000001), (0, .ref t), (1, .ref (t + 3 + i))]) rfl ?_
                  refine r_iinc hC dX2_readKeyword_76 (j := 3) rfl (v := 8) (by decide) (by rw [hnl]; decide) (L' := [(5, .int 8), (2, .int (nI (max (max (max (max (max (max (max (max 0 (A 0)) (A 1)) (A 2)) (A 3)) (A 4)) (A 5)) (A 6)) (A 7)))), (7, .int (nI (A 7))), (6, .ref 1000027), (4, .int 8), (3, .ref 1000001), (0, .ref t), (1, .ref (t + 3 + i))]) rfl ?_
                  refine r_goto hC dX2_readKeyword_79 (tgt := 13) (by decide) ?_
                  refine r_iload hC dX2_readKeyword_13 (j := 0) rfl ?_
                  refine r_iload hC dX2_readKeyword_15 (j := 4) rfl ?_
                  refine r_icmp_ge hC dX2_readKeyword_17 (tgt := 82) (by decide) (fun _ => ?_) (fun h => absurd (by decide) h)
                  refine r_aload_n hC dX2_readKeyword_82 rfl (j := 6) rfl ?_
                  refine r_dup hC dX2_readKeyword_83 rfl ?_
                  refine r_get hC gX2_readKeyword_84 ho (v := .int (nI h)) rfl ?_
                  refine r_iload_n hC dX2_readKeyword_87 rfl (j := 1) rfl ?_
                  refine r_iadd hC dX2_readKeyword_88 ?_
                  rw [nI_add h (max (max (max (max (max (max (max (max 0 (A 0)) (A 1)) (A 2)) (A 3)) (A 4)) (A 5)) (A 6)) (A 7))]
                  refine r_put' hC pX2_readKeyword_89 ho (Nat.le_of_ble_eq_true rfl) (fun _ => rfl) (fun _ => rfl) (fun w_25 ew_25 => ?_)
                  have hf25_t : w_25[t]? = some (mO 5 [.ref (t + 1), .ref (t + 2), .int cn, .int (nI (h + (max (max (max (max (max (max (max (max 0 (A 0)) (A 1)) (A 2)) (A 3)) (A 4)) (A 5)) (A 6)) (A 7))))]) := by rw [ew_25]; exact List.getElem?_set_self (lt_of_get ho)
                  have hf25__t___1_ : w_25[(t + 1)]? = some (mT tx) := by rw [ew_25, List.getElem?_set_ne (by omega)]; exact hs
                  have hf25__t___3___i_ : w_25[(t + 3 + i)]? = some (mO 4 [.ref kw, .int x1, .int x2, .int x3]) := by rw [ew_25, List.getElem?_set_ne (by omega)]; exact hc
                  refine r_iconst hC dX2_readKeyword_92 (v := 0) (by decide) ?_
                  refine r_nret hC hE hR dX2_readKeyword_93 (by decide) (by omega) (by omega) (by simp only [ew_25, List.length_set]) ?_
                  have n0 : ¬ cAl (tT tx) tx.length mSt30 h = mSt30.length := fun z => c47_0 (by rw [hA0, z])
                  have n1 : ¬ cAl (tT tx) tx.length mSt31 h = mSt31.length := fun z => c47_1 (by rw [hA1, z])
                  have n2 : ¬ cAl (tT tx) tx.length mSt32 h = mSt32.length := fun z => c47_2 (by rw [hA2, z])
                  have n3 : ¬ cAl (tT tx) tx.length mSt33 h = mSt33.length := fun z => c47_3 (by rw [hA3, z])
                  have n4 : ¬ cAl (tT tx) tx.length mSt34 h = mSt34.length := fun z => c47_4 (by rw [hA4, z])
                  have n5 : ¬ cAl (tT tx) tx.length mSt35 h = mSt35.length := fun z => c47_5 (by rw [hA5, z])
                  have n6 : ¬ cAl (tT tx) tx.length mSt36 h = mSt36.length := fun z => c47_6 (by rw [hA6, z])
                  have n7 : ¬ cAl (tT tx) tx.length mSt37 h = mSt37.length := fun z => c47_7 (by rw [hA7, z])
                  have e9 : cKey (tT tx) tx.length h kwL 0 0 = (none, h + (max (max (max (max (max (max (max (max 0 (A 0)) (A 1)) (A 2)) (A 3)) (A 4)) (A 5)) (A 6)) (A 7))) := by
                    rw [hA0, hA1, hA2, hA3, hA4, hA5, hA6, hA7]
                    exact (cKey_n n0).trans ((cKey_n n1).trans ((cKey_n n2).trans ((cKey_n n3).trans ((cKey_n n4).trans ((cKey_n n5).trans ((cKey_n n6).trans ((cKey_n n7).trans (cKey_0))))))))
                  exact Or.inr ⟨h + (max (max (max (max (max (max (max (max 0 (A 0)) (A 1)) (A 2)) (A 3)) (A 4)) (A 5)) (A 6)) (A 7)), e9, rfl, ew_25⟩
                · refine r_aload_n hC dX2_readKeyword_50 rfl (j := 6) rfl ?_
                  refine r_dup hC dX2_readKeyword_51 rfl ?_
                  refine r_get hC gX2_readKeyword_52 ho (v := .int (nI h)) rfl ?_
                  refine r_iload hC dX2_readKeyword_55 (j := 0) rfl ?_
                  refine r_iadd hC dX2_readKeyword_57 ?_
                  rw [nI_add h (A 7)]
                  refine r_put' hC pX2_readKeyword_58 ho (Nat.le_of_ble_eq_true rfl) (fun _ => rfl) (fun _ => rfl) (fun w_26 ew_26 => ?_)
                  have hf26_t : w_26[t]? = some (mO 5 [.ref (t + 1), .ref (t + 2), .int cn, .int (nI (h + A 7))]) := by rw [ew_26]; exact List.getElem?_set_self (lt_of_get ho)
                  have hf26__t___1_ : w_26[(t + 1)]? = some (mT tx) := by rw [ew_26, List.getElem?_set_ne (by omega)]; exact hs
                  have hf26__t___3___i_ : w_26[(t + 3 + i)]? = some (mO 4 [.ref kw, .int x1, .int x2, .int x3]) := by rw [ew_26, List.getElem?_set_ne (by omega)]; exact hc
                  refine r_aload_n hC dX2_readKeyword_61 rfl (j := 7) rfl ?_
                  refine r_aload hC dX2_readKeyword_62 (j := 1) rfl ?_
                  refine r_put' hC pX2_readKeyword_64 hf26__t___3___i_ (Nat.le_of_ble_eq_true rfl) (fun _ => rfl) (fun _ => rfl) (fun w_27 ew_27 => ?_)
                  have hf27_t : w_27[t]? = some (mO 5 [.ref (t + 1), .ref (t + 2), .int cn, .int (nI (h + A 7))]) := by rw [ew_27, List.getElem?_set_ne (by omega)]; exact hf26_t
                  have hf27__t___1_ : w_27[(t + 1)]? = some (mT tx) := by rw [ew_27, List.getElem?_set_ne (by omega)]; exact hf26__t___1_
                  have hf27__t___3___i_ : w_27[(t + 3 + i)]? = some (mO 4 [.ref 1000027, .int x1, .int x2, .int x3]) := by rw [ew_27]; exact List.getElem?_set_self (lt_of_get hf26__t___3___i_)
                  refine r_iconst hC dX2_readKeyword_67 (v := 1) (by decide) ?_
                  refine r_nret hC hE hR dX2_readKeyword_68 (by decide) (by omega) (by omega) (by simp only [ew_27, ew_26, List.length_set]) ?_
                  have n0 : ¬ cAl (tT tx) tx.length mSt30 h = mSt30.length := fun z => c47_0 (by rw [hA0, z])
                  have n1 : ¬ cAl (tT tx) tx.length mSt31 h = mSt31.length := fun z => c47_1 (by rw [hA1, z])
                  have n2 : ¬ cAl (tT tx) tx.length mSt32 h = mSt32.length := fun z => c47_2 (by rw [hA2, z])
                  have n3 : ¬ cAl (tT tx) tx.length mSt33 h = mSt33.length := fun z => c47_3 (by rw [hA3, z])
                  have n4 : ¬ cAl (tT tx) tx.length mSt34 h = mSt34.length := fun z => c47_4 (by rw [hA4, z])
                  have n5 : ¬ cAl (tT tx) tx.length mSt35 h = mSt35.length := fun z => c47_5 (by rw [hA5, z])
                  have n6 : ¬ cAl (tT tx) tx.length mSt36 h = mSt36.length := fun z => c47_6 (by rw [hA6, z])
                  have pk : cAl (tT tx) tx.length mSt37 h = mSt37.length := by rw [← hA7]; exact (nI_eq (by have := hb 7; omega) (by decide)).mp (Decidable.not_not.mp c47_7)
                  have e9 : cKey (tT tx) tx.length h kwL 0 0 = (some 7, h + mSt37.length) := (cKey_n n0).trans ((cKey_n n1).trans ((cKey_n n2).trans ((cKey_n n3).trans ((cKey_n n4).trans ((cKey_n n5).trans ((cKey_n n6).trans (cKey_p pk)))))))
                  exact Or.inl ⟨7, h + mSt37.length, by decide, e9, rfl, by rw [ew_27, ew_26, show A 7 = mSt37.length from hA7.trans pk]; rfl⟩
              · refine r_aload_n hC dX2_readKeyword_50 rfl (j := 6) rfl ?_
                refine r_dup hC dX2_readKeyword_51 rfl ?_
                refine r_get hC gX2_readKeyword_52 ho (v := .int (nI h)) rfl ?_
                refine r_iload hC dX2_readKeyword_55 (j := 0) rfl ?_
                refine r_iadd hC dX2_readKeyword_57 ?_
                rw [nI_add h (A 6)]
                refine r_put' hC pX2_readKeyword_58 ho (Nat.le_of_ble_eq_true rfl) (fun _ => rfl) (fun _ => rfl) (fun w_28 ew_28 => ?_)
                have hf28_t : w_28[t]? = some (mO 5 [.ref (t + 1), .ref (t + 2), .int cn, .int (nI (h + A 6))]) := by rw [ew_28]; exact List.getElem?_set_self (lt_of_get ho)
                have hf28__t___1_ : w_28[(t + 1)]? = some (mT tx) := by rw [ew_28, List.getElem?_set_ne (by omega)]; exact hs
                have hf28__t___3___i_ : w_28[(t + 3 + i)]? = some (mO 4 [.ref kw, .int x1, .int x2, .int x3]) := by rw [ew_28, List.getElem?_set_ne (by omega)]; exact hc
                refine r_aload_n hC dX2_readKeyword_61 rfl (j := 7) rfl ?_
                refine r_aload hC dX2_readKeyword_62 (j := 1) rfl ?_
                refine r_put' hC pX2_readKeyword_64 hf28__t___3___i_ (Nat.le_of_ble_eq_true rfl) (fun _ => rfl) (fun _ => rfl) (fun w_29 ew_29 => ?_)
                have hf29_t : w_29[t]? = some (mO 5 [.ref (t + 1), .ref (t + 2), .int cn, .int (nI (h + A 6))]) := by rw [ew_29, List.getElem?_set_ne (by omega)]; exact hf28_t
                have hf29__t___1_ : w_29[(t + 1)]? = some (mT tx) := by rw [ew_29, List.getElem?_set_ne (by omega)]; exact hf28__t___1_
                have hf29__t___3___i_ : w_29[(t + 3 + i)]? = some (mO 4 [.ref 1000026, .int x1, .int x2, .int x3]) := by rw [ew_29]; exact List.getElem?_set_self (lt_of_get hf28__t___3___i_)
                refine r_iconst hC dX2_readKeyword_67 (v := 1) (by decide) ?_
                refine r_nret hC hE hR dX2_readKeyword_68 (by decide) (by omega) (by omega) (by simp only [ew_29, ew_28, List.length_set]) ?_
                have n0 : ¬ cAl (tT tx) tx.length mSt30 h = mSt30.length := fun z => c47_0 (by rw [hA0, z])
                have n1 : ¬ cAl (tT tx) tx.length mSt31 h = mSt31.length := fun z => c47_1 (by rw [hA1, z])
                have n2 : ¬ cAl (tT tx) tx.length mSt32 h = mSt32.length := fun z => c47_2 (by rw [hA2, z])
                have n3 : ¬ cAl (tT tx) tx.length mSt33 h = mSt33.length := fun z => c47_3 (by rw [hA3, z])
                have n4 : ¬ cAl (tT tx) tx.length mSt34 h = mSt34.length := fun z => c47_4 (by rw [hA4, z])
                have n5 : ¬ cAl (tT tx) tx.length mSt35 h = mSt35.length := fun z => c47_5 (by rw [hA5, z])
                have pk : cAl (tT tx) tx.length mSt36 h = mSt36.length := by rw [← hA6]; exact (nI_eq (by have := hb 6; omega) (by decide)).mp (Decidable.not_not.mp c47_6)
                have e9 : cKey (tT tx) tx.length h kwL 0 0 = (some 6, h + mSt36.length) := (cKey_n n0).trans ((cKey_n n1).trans ((cKey_n n2).trans ((cKey_n n3).trans ((cKey_n n4).trans ((cKey_n n5).trans (cKey_p pk))))))
                exact Or.inl ⟨6, h + mSt36.length, by decide, e9, rfl, by rw [ew_29, ew_28, show A 6 = mSt36.length from hA6.trans pk]; rfl⟩
            · refine r_aload_n hC dX2_readKeyword_50 rfl (j := 6) rfl ?_
              refine r_dup hC dX2_readKeyword_51 rfl ?_
              refine r_get hC gX2_readKeyword_52 ho (v := .int (nI h)) rfl ?_
              refine r_iload hC dX2_readKeyword_55 (j := 0) rfl ?_
              refine r_iadd hC dX2_readKeyword_57 ?_
              rw [nI_add h (A 5)]
              refine r_put' hC pX2_readKeyword_58 ho (Nat.le_of_ble_eq_true rfl) (fun _ => rfl) (fun _ => rfl) (fun w_30 ew_30 => ?_)
              have hf30_t : w_30[t]? = some (mO 5 [.ref (t + 1), .ref (t + 2), .int cn, .int (nI (h + A 5))]) := by rw [ew_30]; exact List.getElem?_set_self (lt_of_get ho)
              have hf30__t___1_ : w_30[(t + 1)]? = some (mT tx) := by rw [ew_30, List.getElem?_set_ne (by omega)]; exact hs
              have hf30__t___3___i_ : w_30[(t + 3 + i)]? = some (mO 4 [.ref kw, .int x1, .int x2, .int x3]) := by rw [ew_30, List.getElem?_set_ne (by omega)]; exact hc
              refine r_aload_n hC dX2_readKeyword_61 rfl (j := 7) rfl ?_
              refine r_aload hC dX2_readKeyword_62 (j := 1) rfl ?_
              refine r_put' hC pX2_readKeyword_64 hf30__t___3___i_ (Nat.le_of_ble_eq_true rfl) (fun _ => rfl) (fun _ => rfl) (fun w_31 ew_31 => ?_)
              have hf31_t : w_31[t]? = some (mO 5 [.ref (t + 1), .ref (t + 2), .int cn, .int (nI (h + A 5))]) := by rw [ew_31, List.getElem?_set_ne (by omega)]; exact hf30_t
              have hf31__t___1_ : w_31[(t + 1)]? = some (mT tx) := by rw [ew_31, List.getElem?_set_ne (by omega)]; exact hf30__t___1_
              have hf31__t___3___i_ : w_31[(t + 3 + i)]? = some (mO 4 [.ref 1000025, .int x1, .int x2, .int x3]) := by rw [ew_31]; exact List.getElem?_set_self (lt_of_get hf30__t___3___i_)
              refine r_iconst hC dX2_readKeyword_67 (v := 1) (by decide) ?_
              refine r_nret hC hE hR dX2_readKeyword_68 (by decide) (by omega) (by omega) (by simp only [ew_31, ew_30, List.length_set]) ?_
              have n0 : ¬ cAl (tT tx) tx.length mSt30 h = mSt30.length := fun z => c47_0 (by rw [hA0, z])
              have n1 : ¬ cAl (tT tx) tx.length mSt31 h = mSt31.length := fun z => c47_1 (by rw [hA1, z])
              have n2 : ¬ cAl (tT tx) tx.length mSt32 h = mSt32.length := fun z => c47_2 (by rw [hA2, z])
              have n3 : ¬ cAl (tT tx) tx.length mSt33 h = mSt33.length := fun z => c47_3 (by rw [hA3, z])
              have n4 : ¬ cAl (tT tx) tx.length mSt34 h = mSt34.length := fun z => c47_4 (by rw [hA4, z])
              have pk : cAl (tT tx) tx.length mSt35 h = mSt35.length := by rw [← hA5]; exact (nI_eq (by have := hb 5; omega) (by decide)).mp (Decidable.not_not.mp c47_5)
              have e9 : cKey (tT tx) tx.length h kwL 0 0 = (some 5, h + mSt35.length) := (cKey_n n0).trans ((cKey_n n1).trans ((cKey_n n2).trans ((cKey_n n3).trans ((cKey_n n4).trans (cKey_p pk)))))
              exact Or.inl ⟨5, h + mSt35.length, by decide, e9, rfl, by rw [ew_31, ew_30, show A 5 = mSt35.length from hA5.trans pk]; rfl⟩
          · refine r_aload_n hC dX2_readKeyword_50 rfl (j := 6) rfl ?_
            refine r_dup hC dX2_readKeyword_51 rfl ?_
            refine r_get hC gX2_readKeyword_52 ho (v := .int (nI h)) rfl ?_
            refine r_iload hC dX2_readKeyword_55 (j := 0) rfl ?_
            refine r_iadd hC dX2_readKeyword_57 ?_
            rw [nI_add h (A 4)]
            refine r_put' hC pX2_readKeyword_58 ho (Nat.le_of_ble_eq_true rfl) (fun _ => rfl) (fun _ => rfl) (fun w_32 ew_32 => ?_)
            have hf32_t : w_32[t]? = some (mO 5 [.ref (t + 1), .ref (t + 2), .int cn, .int (nI (h + A 4))]) := by rw [ew_32]; exact List.getElem?_set_self (lt_of_get ho)
            have hf32__t___1_ : w_32[(t + 1)]? = some (mT tx) := by rw [ew_32, List.getElem?_set_ne (by omega)]; exact hs
            have hf32__t___3___i_ : w_32[(t + 3 + i)]? = some (mO 4 [.ref kw, .int x1, .int x2, .int x3]) := by rw [ew_32, List.getElem?_set_ne (by omega)]; exact hc
            refine r_aload_n hC dX2_readKeyword_61 rfl (j := 7) rfl ?_
            refine r_aload hC dX2_readKeyword_62 (j := 1) rfl ?_
            refine r_put' hC pX2_readKeyword_64 hf32__t___3___i_ (Nat.le_of_ble_eq_true rfl) (fun _ => rfl) (fun _ => rfl) (fun w_33 ew_33 => ?_)
            have hf33_t : w_33[t]? = some (mO 5 [.ref (t + 1), .ref (t + 2), .int cn, .int (nI (h + A 4))]) := by rw [ew_33, List.getElem?_set_ne (by omega)]; exact hf32_t
            have hf33__t___1_ : w_33[(t + 1)]? = some (mT tx) := by rw [ew_33, List.getElem?_set_ne (by omega)]; exact hf32__t___1_
            have hf33__t___3___i_ : w_33[(t + 3 + i)]? = some (mO 4 [.ref 1000024, .int x1, .int x2, .int x3]) := by rw [ew_33]; exact List.getElem?_set_self (lt_of_get hf32__t___3___i_)
            refine r_iconst hC dX2_readKeyword_67 (v := 1) (by decide) ?_
            refine r_nret hC hE hR dX2_readKeyword_68 (by decide) (by omega) (by omega) (by simp only [ew_33, ew_32, List.length_set]) ?_
            have n0 : ¬ cAl (tT tx) tx.length mSt30 h = mSt30.length := fun z => c47_0 (by rw [hA0, z])
            have n1 : ¬ cAl (tT tx) tx.length mSt31 h = mSt31.length := fun z => c47_1 (by rw [hA1, z])
            have n2 : ¬ cAl (tT tx) tx.length mSt32 h = mSt32.length := fun z => c47_2 (by rw [hA2, z])
            have n3 : ¬ cAl (tT tx) tx.length mSt33 h = mSt33.length := fun z => c47_3 (by rw [hA3, z])
            have pk : cAl (tT tx) tx.length mSt34 h = mSt34.length := by rw [← hA4]; exact (nI_eq (by have := hb 4; omega) (by decide)).mp (Decidable.not_not.mp c47_4)
            have e9 : cKey (tT tx) tx.length h kwL 0 0 = (some 4, h + mSt34.length) := (cKey_n n0).trans ((cKey_n n1).trans ((cKey_n n2).trans ((cKey_n n3).trans (cKey_p pk))))
            exact Or.inl ⟨4, h + mSt34.length, by decide, e9, rfl, by rw [ew_33, ew_32, show A 4 = mSt34.length from hA4.trans pk]; rfl⟩
        · refine r_aload_n hC dX2_readKeyword_50 rfl (j := 6) rfl ?_
          refine r_dup hC dX2_readKeyword_51 rfl ?_
          refine r_get hC gX2_readKeyword_52 ho (v := .int (nI h)) rfl ?_
          refine r_iload hC dX2_readKeyword_55 (j := 0) rfl ?_
          refine r_iadd hC dX2_readKeyword_57 ?_
          rw [nI_add h (A 3)]
          refine r_put' hC pX2_readKeyword_58 ho (Nat.le_of_ble_eq_true rfl) (fun _ => rfl) (fun _ => rfl) (fun w_34 ew_34 => ?_)
          have hf34_t : w_34[t]? = some (mO 5 [.ref (t + 1), .ref (t + 2), .int cn, .int (nI (h + A 3))]) := by rw [ew_34]; exact List.getElem?_set_self (lt_of_get ho)
          have hf34__t___1_ : w_34[(t + 1)]? = some (mT tx) := by rw [ew_34, List.getElem?_set_ne (by omega)]; exact hs
          have hf34__t___3___i_ : w_34[(t + 3 + i)]? = some (mO 4 [.ref kw, .int x1, .int x2, .int x3]) := by rw [ew_34, List.getElem?_set_ne (by omega)]; exact hc
          refine r_aload_n hC dX2_readKeyword_61 rfl (j := 7) rfl ?_
          refine r_aload hC dX2_readKeyword_62 (j := 1) rfl ?_
          refine r_put' hC pX2_readKeyword_64 hf34__t___3___i_ (Nat.le_of_ble_eq_true rfl) (fun _ => rfl) (fun _ => rfl) (fun w_35 ew_35 => ?_)
          have hf35_t : w_35[t]? = some (mO 5 [.ref (t + 1), .ref (t + 2), .int cn, .int (nI (h + A 3))]) := by rw [ew_35, List.getElem?_set_ne (by omega)]; exact hf34_t
          have hf35__t___1_ : w_35[(t + 1)]? = some (mT tx) := by rw [ew_35, List.getElem?_set_ne (by omega)]; exact hf34__t___1_
          have hf35__t___3___i_ : w_35[(t + 3 + i)]? = some (mO 4 [.ref 1000023, .int x1, .int x2, .int x3]) := by rw [ew_35]; exact List.getElem?_set_self (lt_of_get hf34__t___3___i_)
          refine r_iconst hC dX2_readKeyword_67 (v := 1) (by decide) ?_
          refine r_nret hC hE hR dX2_readKeyword_68 (by decide) (by omega) (by omega) (by simp only [ew_35, ew_34, List.length_set]) ?_
          have n0 : ¬ cAl (tT tx) tx.length mSt30 h = mSt30.length := fun z => c47_0 (by rw [hA0, z])
          have n1 : ¬ cAl (tT tx) tx.length mSt31 h = mSt31.length := fun z => c47_1 (by rw [hA1, z])
          have n2 : ¬ cAl (tT tx) tx.length mSt32 h = mSt32.length := fun z => c47_2 (by rw [hA2, z])
          have pk : cAl (tT tx) tx.length mSt33 h = mSt33.length := by rw [← hA3]; exact (nI_eq (by have := hb 3; omega) (by decide)).mp (Decidable.not_not.mp c47_3)
          have e9 : cKey (tT tx) tx.length h kwL 0 0 = (some 3, h + mSt33.length) := (cKey_n n0).trans ((cKey_n n1).trans ((cKey_n n2).trans (cKey_p pk)))
          exact Or.inl ⟨3, h + mSt33.length, by decide, e9, rfl, by rw [ew_35, ew_34, show A 3 = mSt33.length from hA3.trans pk]; rfl⟩
      · refine r_aload_n hC dX2_readKeyword_50 rfl (j := 6) rfl ?_
        refine r_dup hC dX2_readKeyword_51 rfl ?_
        refine r_get hC gX2_readKeyword_52 ho (v := .int (nI h)) rfl ?_
        refine r_iload hC dX2_readKeyword_55 (j := 0) rfl ?_
        refine r_iadd hC dX2_readKeyword_57 ?_
        rw [nI_add h (A 2)]
        refine r_put' hC pX2_readKeyword_58 ho (Nat.le_of_ble_eq_true rfl) (fun _ => rfl) (fun _ => rfl) (fun w_36 ew_36 => ?_)
        have hf36_t : w_36[t]? = some (mO 5 [.ref (t + 1), .ref (t + 2), .int cn, .int (nI (h + A 2))]) := by rw [ew_36]; exact List.getElem?_set_self (lt_of_get ho)
        have hf36__t___1_ : w_36[(t + 1)]? = some (mT tx) := by rw [ew_36, List.getElem?_set_ne (by omega)]; exact hs
        have hf36__t___3___i_ : w_36[(t + 3 + i)]? = some (mO 4 [.ref kw, .int x1, .int x2, .int x3]) := by rw [ew_36, List.getElem?_set_ne (by omega)]; exact hc
        refine r_aload_n hC dX2_readKeyword_61 rfl (j := 7) rfl ?_
        refine r_aload hC dX2_readKeyword_62 (j := 1) rfl ?_
        refine r_put' hC pX2_readKeyword_64 hf36__t___3___i_ (Nat.le_of_ble_eq_true rfl) (fun _ => rfl) (fun _ => rfl) (fun w_37 ew_37 => ?_)
        have hf37_t : w_37[t]? = some (mO 5 [.ref (t + 1), .ref (t + 2), .int cn, .int (nI (h + A 2))]) := by rw [ew_37, List.getElem?_set_ne (by omega)]; exact hf36_t
        have hf37__t___1_ : w_37[(t + 1)]? = some (mT tx) := by rw [ew_37, List.getElem?_set_ne (by omega)]; exact hf36__t___1_
        have hf37__t___3___i_ : w_37[(t + 3 + i)]? = some (mO 4 [.ref 1000022, .int x1, .int x2, .int x3]) := by rw [ew_37]; exact List.getElem?_set_self (lt_of_get hf36__t___3___i_)
        refine r_iconst hC dX2_readKeyword_67 (v := 1) (by decide) ?_
        refine r_nret hC hE hR dX2_readKeyword_68 (by decide) (by omega) (by omega) (by simp only [ew_37, ew_36, List.length_set]) ?_
        have n0 : ¬ cAl (tT tx) tx.length mSt30 h = mSt30.length := fun z => c47_0 (by rw [hA0, z])
        have n1 : ¬ cAl (tT tx) tx.length mSt31 h = mSt31.length := fun z => c47_1 (by rw [hA1, z])
        have pk : cAl (tT tx) tx.length mSt32 h = mSt32.length := by rw [← hA2]; exact (nI_eq (by have := hb 2; omega) (by decide)).mp (Decidable.not_not.mp c47_2)
        have e9 : cKey (tT tx) tx.length h kwL 0 0 = (some 2, h + mSt32.length) := (cKey_n n0).trans ((cKey_n n1).trans (cKey_p pk))
        exact Or.inl ⟨2, h + mSt32.length, by decide, e9, rfl, by rw [ew_37, ew_36, show A 2 = mSt32.length from hA2.trans pk]; rfl⟩
    · refine r_aload_n hC dX2_readKeyword_50 rfl (j := 6) rfl ?_
      refine r_dup hC dX2_readKeyword_51 rfl ?_
      refine r_get hC gX2_readKeyword_52 ho (v := .int (nI h)) rfl ?_
      refine r_iload hC dX2_readKeyword_55 (j := 0) rfl ?_
      refine r_iadd hC dX2_readKeyword_57 ?_
      rw [nI_add h (A 1)]
      refine r_put' hC pX2_readKeyword_58 ho (Nat.le_of_ble_eq_true rfl) (fun _ => rfl) (fun _ => rfl) (fun w_38 ew_38 => ?_)
      have hf38_t : w_38[t]? = some (mO 5 [.ref (t + 1), .ref (t + 2), .int cn, .int (nI (h + A 1))]) := by rw [ew_38]; exact List.getElem?_set_self (lt_of_get ho)
      have hf38__t___1_ : w_38[(t + 1)]? = some (mT tx) := by rw [ew_38, List.getElem?_set_ne (by omega)]; exact hs
      have hf38__t___3___i_ : w_38[(t + 3 + i)]? = some (mO 4 [.ref kw, .int x1, .int x2, .int x3]) := by rw [ew_38, List.getElem?_set_ne (by omega)]; exact hc
      refine r_aload_n hC dX2_readKeyword_61 rfl (j := 7) rfl ?_
      refine r_aload hC dX2_readKeyword_62 (j := 1) rfl ?_
      refine r_put' hC pX2_readKeyword_64 hf38__t___3___i_ (Nat.le_of_ble_eq_true rfl) (fun _ => rfl) (fun _ => rfl) (fun w_39 ew_39 => ?_)
      have hf39_t : w_39[t]? = some (mO 5 [.ref (t + 1), .ref (t + 2), .int cn, .int (nI (h + A 1))]) := by rw [ew_39, List.getElem?_set_ne (by omega)]; exact hf38_t
      have hf39__t___1_ : w_39[(t + 1)]? = some (mT tx) := by rw [ew_39, List.getElem?_set_ne (by omega)]; exact hf38__t___1_
      have hf39__t___3___i_ : w_39[(t + 3 + i)]? = some (mO 4 [.ref 1000021, .int x1, .int x2, .int x3]) := by rw [ew_39]; exact List.getElem?_set_self (lt_of_get hf38__t___3___i_)
      refine r_iconst hC dX2_readKeyword_67 (v := 1) (by decide) ?_
      refine r_nret hC hE hR dX2_readKeyword_68 (by decide) (by omega) (by omega) (by simp only [ew_39, ew_38, List.length_set]) ?_
      have n0 : ¬ cAl (tT tx) tx.length mSt30 h = mSt30.length := fun z => c47_0 (by rw [hA0, z])
      have pk : cAl (tT tx) tx.length mSt31 h = mSt31.length := by rw [← hA1]; exact (nI_eq (by have := hb 1; omega) (by decide)).mp (Decidable.not_not.mp c47_1)
      have e9 : cKey (tT tx) tx.length h kwL 0 0 = (some 1, h + mSt31.length) := (cKey_n n0).trans (cKey_p pk)
      exact Or.inl ⟨1, h + mSt31.length, by decide, e9, rfl, by rw [ew_39, ew_38, show A 1 = mSt31.length from hA1.trans pk]; rfl⟩
  · refine r_aload_n hC dX2_readKeyword_50 rfl (j := 6) rfl ?_
    refine r_dup hC dX2_readKeyword_51 rfl ?_
    refine r_get hC gX2_readKeyword_52 ho (v := .int (nI h)) rfl ?_
    refine r_iload hC dX2_readKeyword_55 (j := 0) rfl ?_
    refine r_iadd hC dX2_readKeyword_57 ?_
    rw [nI_add h (A 0)]
    refine r_put' hC pX2_readKeyword_58 ho (Nat.le_of_ble_eq_true rfl) (fun _ => rfl) (fun _ => rfl) (fun w_40 ew_40 => ?_)
    have hf40_t : w_40[t]? = some (mO 5 [.ref (t + 1), .ref (t + 2), .int cn, .int (nI (h + A 0))]) := by rw [ew_40]; exact List.getElem?_set_self (lt_of_get ho)
    have hf40__t___1_ : w_40[(t + 1)]? = some (mT tx) := by rw [ew_40, List.getElem?_set_ne (by omega)]; exact hs
    have hf40__t___3___i_ : w_40[(t + 3 + i)]? = some (mO 4 [.ref kw, .int x1, .int x2, .int x3]) := by rw [ew_40, List.getElem?_set_ne (by omega)]; exact hc
    refine r_aload_n hC dX2_readKeyword_61 rfl (j := 7) rfl ?_
    refine r_aload hC dX2_readKeyword_62 (j := 1) rfl ?_
    refine r_put' hC pX2_readKeyword_64 hf40__t___3___i_ (Nat.le_of_ble_eq_true rfl) (fun _ => rfl) (fun _ => rfl) (fun w_41 ew_41 => ?_)
    have hf41_t : w_41[t]? = some (mO 5 [.ref (t + 1), .ref (t + 2), .int cn, .int (nI (h + A 0))]) := by rw [ew_41, List.getElem?_set_ne (by omega)]; exact hf40_t
    have hf41__t___1_ : w_41[(t + 1)]? = some (mT tx) := by rw [ew_41, List.getElem?_set_ne (by omega)]; exact hf40__t___1_
    have hf41__t___3___i_ : w_41[(t + 3 + i)]? = some (mO 4 [.ref 1000020, .int x1, .int x2, .int x3]) := by rw [ew_41]; exact List.getElem?_set_self (lt_of_get hf40__t___3___i_)
    refine r_iconst hC dX2_readKeyword_67 (v := 1) (by decide) ?_
    refine r_nret hC hE hR dX2_readKeyword_68 (by decide) (by omega) (by omega) (by simp only [ew_41, ew_40, List.length_set]) ?_
    have pk : cAl (tT tx) tx.length mSt30 h = mSt30.length := by rw [← hA0]; exact (nI_eq (by have := hb 0; omega) (by decide)).mp (Decidable.not_not.mp c47_0)
    have e9 : cKey (tT tx) tx.length h kwL 0 0 = (some 0, h + mSt30.length) := cKey_p pk
    exact Or.inl ⟨0, h + mSt30.length, by decide, e9, rfl, by rw [ew_41, ew_40, show A 0 = mSt30.length from hA0.trans pk]; rfl⟩
end RK
