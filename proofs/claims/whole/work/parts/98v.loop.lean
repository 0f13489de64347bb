section LQ
theorem and63 (x : Int32) : ∃ c, c < 64 ∧ x &&& 63 = nI c := by
  refine ⟨(x &&& 63).toUInt32.toNat, ?_, u2n (x &&& 63).toUInt32⟩
  have e : (x &&& 63).toUInt32 = x.toUInt32 &&& 63 := rfl
  rw [e, UInt32.toNat_and]
  exact Nat.lt_of_le_of_lt Nat.and_le_right (by decide)
theorem sw_out : ∀ c, c < 64 → 45 ≤ c → (44 : Int) < (nI c).toInt := by decide +kernel
set_option maxRecDepth 100000 in
set_option maxHeartbeats 4000000 in
theorem sw_0 {X : mC} {d q mc ms k n : Nat} {w : mW} {N : Nat} {xs : Nat → Int32} (hX : mScr X N xs) (hC : Cx X RL cL_law (d + 12) mc ms) (hnl : mNL X = 9) (hq : 4 * q + 4 ≤ N) (hN : N ≤ 2048) (hk : k + 25 ≤ mc) (hn : n + 3100 ≤ ms) (hJ : JV w) (kk : ∀ w', w'.length = w.length → JV w' → Wp X (k + 25) (n + 3100) w' [(0, .ref 2000000), (1, .ref 0), (2, .ref 89), (3, .ref 100), (4, .ref 101), (5, .int (nI (4 * q)))] [] 2109) : Wp X k n w [(0, .ref 2000000), (1, .ref 0), (2, .ref 89), (3, .ref 100), (4, .ref 101), (5, .int (nI (4 * q)))] [.int (nI 0)] 44 := by
  refine r_tableIn (off := 196) (tgt := 240) hC dL_law_44 (by decide) (by decide) (by decide) (by decide) ?_
  obtain ⟨th, ⟨⟨f, g, sl, op, lo⟩, hd, rs, np, tp, av, lg, pl, tk⟩, l, ea, fa, so, txl, lnl, tx, tn, lf, ln, J⟩ := hJ
  exact op_0 hX J hC hnl hq hN hk hn kk
set_option maxRecDepth 100000 in
set_option maxHeartbeats 4000000 in
theorem sw_1 {X : mC} {d q mc ms k n : Nat} {w : mW} {N : Nat} {xs : Nat → Int32} (hX : mScr X N xs) (hC : Cx X RL cL_law (d + 12) mc ms) (hnl : mNL X = 9) (hq : 4 * q + 4 ≤ N) (hN : N ≤ 2048) (hk : k + 25 ≤ mc) (hn : n + 3100 ≤ ms) (hJ : JV w) (kk : ∀ w', w'.length = w.length → JV w' → Wp X (k + 25) (n + 3100) w' [(0, .ref 2000000), (1, .ref 0), (2, .ref 89), (3, .ref 100), (4, .ref 101), (5, .int (nI (4 * q)))] [] 2109) : Wp X k n w [(0, .ref 2000000), (1, .ref 0), (2, .ref 89), (3, .ref 100), (4, .ref 101), (5, .int (nI (4 * q)))] [.int (nI 1)] 44 := by
  refine r_tableIn (off := 252) (tgt := 296) hC dL_law_44 (by decide) (by decide) (by decide) (by decide) ?_
  obtain ⟨th, ⟨⟨f, g, sl, op, lo⟩, hd, rs, np, tp, av, lg, pl, tk⟩, l, ea, fa, so, txl, lnl, tx, tn, lf, ln, J⟩ := hJ
  exact op_1 hX J hC hnl hq hN hk hn kk
set_option maxRecDepth 100000 in
set_option maxHeartbeats 4000000 in
theorem sw_2 {X : mC} {d q mc ms k n : Nat} {w : mW} {N : Nat} {xs : Nat → Int32} (hX : mScr X N xs) (hC : Cx X RL cL_law (d + 12) mc ms) (hnl : mNL X = 9) (hq : 4 * q + 4 ≤ N) (hN : N ≤ 2048) (hk : k + 25 ≤ mc) (hn : n + 3100 ≤ ms) (hJ : JV w) (kk : ∀ w', w'.length = w.length → JV w' → Wp X (k + 25) (n + 3100) w' [(0, .ref 2000000), (1, .ref 0), (2, .ref 89), (3, .ref 100), (4, .ref 101), (5, .int (nI (4 * q)))] [] 2109) : Wp X k n w [(0, .ref 2000000), (1, .ref 0), (2, .ref 89), (3, .ref 100), (4, .ref 101), (5, .int (nI (4 * q)))] [.int (nI 2)] 44 := by
  refine r_tableIn (off := 332) (tgt := 376) hC dL_law_44 (by decide) (by decide) (by decide) (by decide) ?_
  obtain ⟨th, ⟨⟨f, g, sl, op, lo⟩, hd, rs, np, tp, av, lg, pl, tk⟩, l, ea, fa, so, txl, lnl, tx, tn, lf, ln, J⟩ := hJ
  exact op_2 hX J hC hnl hq hN hk hn kk
set_option maxRecDepth 100000 in
set_option maxHeartbeats 4000000 in
theorem sw_3 {X : mC} {d q mc ms k n : Nat} {w : mW} {N : Nat} {xs : Nat → Int32} (hX : mScr X N xs) (hC : Cx X RL cL_law (d + 12) mc ms) (hnl : mNL X = 9) (hq : 4 * q + 4 ≤ N) (hN : N ≤ 2048) (hk : k + 25 ≤ mc) (hn : n + 3100 ≤ ms) (hJ : JV w) (kk : ∀ w', w'.length = w.length → JV w' → Wp X (k + 25) (n + 3100) w' [(0, .ref 2000000), (1, .ref 0), (2, .ref 89), (3, .ref 100), (4, .ref 101), (5, .int (nI (4 * q)))] [] 2109) : Wp X k n w [(0, .ref 2000000), (1, .ref 0), (2, .ref 89), (3, .ref 100), (4, .ref 101), (5, .int (nI (4 * q)))] [.int (nI 3)] 44 := by
  refine r_tableIn (off := 400) (tgt := 444) hC dL_law_44 (by decide) (by decide) (by decide) (by decide) ?_
  obtain ⟨th, ⟨⟨f, g, sl, op, lo⟩, hd, rs, np, tp, av, lg, pl, tk⟩, l, ea, fa, so, txl, lnl, tx, tn, lf, ln, J⟩ := hJ
  exact op_3 hX J hC hnl hq hN hk hn kk
set_option maxRecDepth 100000 in
set_option maxHeartbeats 4000000 in
theorem sw_4 {X : mC} {d q mc ms k n : Nat} {w : mW} {N : Nat} {xs : Nat → Int32} (hX : mScr X N xs) (hC : Cx X RL cL_law (d + 12) mc ms) (hnl : mNL X = 9) (hq : 4 * q + 4 ≤ N) (hN : N ≤ 2048) (hk : k + 25 ≤ mc) (hn : n + 3100 ≤ ms) (hJ : JV w) (kk : ∀ w', w'.length = w.length → JV w' → Wp X (k + 25) (n + 3100) w' [(0, .ref 2000000), (1, .ref 0), (2, .ref 89), (3, .ref 100), (4, .ref 101), (5, .int (nI (4 * q)))] [] 2109) : Wp X k n w [(0, .ref 2000000), (1, .ref 0), (2, .ref 89), (3, .ref 100), (4, .ref 101), (5, .int (nI (4 * q)))] [.int (nI 4)] 44 := by
  refine r_tableIn (off := 468) (tgt := 512) hC dL_law_44 (by decide) (by decide) (by decide) (by decide) ?_
  obtain ⟨th, ⟨⟨f, g, sl, op, lo⟩, hd, rs, np, tp, av, lg, pl, tk⟩, l, ea, fa, so, txl, lnl, tx, tn, lf, ln, J⟩ := hJ
  exact op_4 hX J hC hnl hq hN hk hn kk
set_option maxRecDepth 100000 in
set_option maxHeartbeats 4000000 in
theorem sw_5 {X : mC} {d q mc ms k n : Nat} {w : mW} {N : Nat} {xs : Nat → Int32} (hX : mScr X N xs) (hC : Cx X RL cL_law (d + 12) mc ms) (hnl : mNL X = 9) (hq : 4 * q + 4 ≤ N) (hN : N ≤ 2048) (hk : k + 25 ≤ mc) (hn : n + 3100 ≤ ms) (hJ : JV w) (kk : ∀ w', w'.length = w.length → JV w' → Wp X (k + 25) (n + 3100) w' [(0, .ref 2000000), (1, .ref 0), (2, .ref 89), (3, .ref 100), (4, .ref 101), (5, .int (nI (4 * q)))] [] 2109) : Wp X k n w [(0, .ref 2000000), (1, .ref 0), (2, .ref 89), (3, .ref 100), (4, .ref 101), (5, .int (nI (4 * q)))] [.int (nI 5)] 44 := by
  refine r_tableIn (off := 481) (tgt := 525) hC dL_law_44 (by decide) (by decide) (by decide) (by decide) ?_
  obtain ⟨th, ⟨⟨f, g, sl, op, lo⟩, hd, rs, np, tp, av, lg, pl, tk⟩, l, ea, fa, so, txl, lnl, tx, tn, lf, ln, J⟩ := hJ
  exact op_5 hX J hC hnl hq hN hk hn kk
set_option maxRecDepth 100000 in
set_option maxHeartbeats 4000000 in
theorem sw_6 {X : mC} {d q mc ms k n : Nat} {w : mW} {N : Nat} {xs : Nat → Int32} (hX : mScr X N xs) (hC : Cx X RL cL_law (d + 12) mc ms) (hnl : mNL X = 9) (hq : 4 * q + 4 ≤ N) (hN : N ≤ 2048) (hk : k + 25 ≤ mc) (hn : n + 3100 ≤ ms) (hJ : JV w) (kk : ∀ w', w'.length = w.length → JV w' → Wp X (k + 25) (n + 3100) w' [(0, .ref 2000000), (1, .ref 0), (2, .ref 89), (3, .ref 100), (4, .ref 101), (5, .int (nI (4 * q)))] [] 2109) : Wp X k n w [(0, .ref 2000000), (1, .ref 0), (2, .ref 89), (3, .ref 100), (4, .ref 101), (5, .int (nI (4 * q)))] [.int (nI 6)] 44 := by
  refine r_tableIn (off := 494) (tgt := 538) hC dL_law_44 (by decide) (by decide) (by decide) (by decide) ?_
  obtain ⟨th, ⟨⟨f, g, sl, op, lo⟩, hd, rs, np, tp, av, lg, pl, tk⟩, l, ea, fa, so, txl, lnl, tx, tn, lf, ln, J⟩ := hJ
  exact op_6 hX J hC hnl hq hN hk hn kk
set_option maxRecDepth 100000 in
set_option maxHeartbeats 4000000 in
theorem sw_7 {X : mC} {d q mc ms k n : Nat} {w : mW} {N : Nat} {xs : Nat → Int32} (hX : mScr X N xs) (hC : Cx X RL cL_law (d + 12) mc ms) (hnl : mNL X = 9) (hq : 4 * q + 4 ≤ N) (hN : N ≤ 2048) (hk : k + 25 ≤ mc) (hn : n + 3100 ≤ ms) (hJ : JV w) (kk : ∀ w', w'.length = w.length → JV w' → Wp X (k + 25) (n + 3100) w' [(0, .ref 2000000), (1, .ref 0), (2, .ref 89), (3, .ref 100), (4, .ref 101), (5, .int (nI (4 * q)))] [] 2109) : Wp X k n w [(0, .ref 2000000), (1, .ref 0), (2, .ref 89), (3, .ref 100), (4, .ref 101), (5, .int (nI (4 * q)))] [.int (nI 7)] 44 := by
  refine r_tableIn (off := 550) (tgt := 594) hC dL_law_44 (by decide) (by decide) (by decide) (by decide) ?_
  obtain ⟨th, ⟨⟨f, g, sl, op, lo⟩, hd, rs, np, tp, av, lg, pl, tk⟩, l, ea, fa, so, txl, lnl, tx, tn, lf, ln, J⟩ := hJ
  exact op_7 hX J hC hnl hq hN hk hn kk
set_option maxRecDepth 100000 in
set_option maxHeartbeats 4000000 in
theorem sw_8 {X : mC} {d q mc ms k n : Nat} {w : mW} {N : Nat} {xs : Nat → Int32} (hX : mScr X N xs) (hC : Cx X RL cL_law (d + 12) mc ms) (hnl : mNL X = 9) (hq : 4 * q + 4 ≤ N) (hN : N ≤ 2048) (hk : k + 25 ≤ mc) (hn : n + 3100 ≤ ms) (hJ : JV w) (kk : ∀ w', w'.length = w.length → JV w' → Wp X (k + 25) (n + 3100) w' [(0, .ref 2000000), (1, .ref 0), (2, .ref 89), (3, .ref 100), (4, .ref 101), (5, .int (nI (4 * q)))] [] 2109) : Wp X k n w [(0, .ref 2000000), (1, .ref 0), (2, .ref 89), (3, .ref 100), (4, .ref 101), (5, .int (nI (4 * q)))] [.int (nI 8)] 44 := by
  refine r_tableIn (off := 606) (tgt := 650) hC dL_law_44 (by decide) (by decide) (by decide) (by decide) ?_
  obtain ⟨th, ⟨⟨f, g, sl, op, lo⟩, hd, rs, np, tp, av, lg, pl, tk⟩, l, ea, fa, so, txl, lnl, tx, tn, lf, ln, J⟩ := hJ
  exact op_8 hX J hC hnl hq hN hk hn kk
set_option maxRecDepth 100000 in
set_option maxHeartbeats 4000000 in
theorem sw_9 {X : mC} {d q mc ms k n : Nat} {w : mW} {N : Nat} {xs : Nat → Int32} (hX : mScr X N xs) (hC : Cx X RL cL_law (d + 12) mc ms) (hnl : mNL X = 9) (hq : 4 * q + 4 ≤ N) (hN : N ≤ 2048) (hk : k + 25 ≤ mc) (hn : n + 3100 ≤ ms) (hJ : JV w) (kk : ∀ w', w'.length = w.length → JV w' → Wp X (k + 25) (n + 3100) w' [(0, .ref 2000000), (1, .ref 0), (2, .ref 89), (3, .ref 100), (4, .ref 101), (5, .int (nI (4 * q)))] [] 2109) : Wp X k n w [(0, .ref 2000000), (1, .ref 0), (2, .ref 89), (3, .ref 100), (4, .ref 101), (5, .int (nI (4 * q)))] [.int (nI 9)] 44 := by
  refine r_tableIn (off := 662) (tgt := 706) hC dL_law_44 (by decide) (by decide) (by decide) (by decide) ?_
  obtain ⟨th, ⟨⟨f, g, sl, op, lo⟩, hd, rs, np, tp, av, lg, pl, tk⟩, l, ea, fa, so, txl, lnl, tx, tn, lf, ln, J⟩ := hJ
  exact op_9 hX J hC hnl hq hN hk hn kk
set_option maxRecDepth 100000 in
set_option maxHeartbeats 4000000 in
theorem sw_10 {X : mC} {d q mc ms k n : Nat} {w : mW} {N : Nat} {xs : Nat → Int32} (hX : mScr X N xs) (hC : Cx X RL cL_law (d + 12) mc ms) (hnl : mNL X = 9) (hq : 4 * q + 4 ≤ N) (hN : N ≤ 2048) (hk : k + 25 ≤ mc) (hn : n + 3100 ≤ ms) (hJ : JV w) (kk : ∀ w', w'.length = w.length → JV w' → Wp X (k + 25) (n + 3100) w' [(0, .ref 2000000), (1, .ref 0), (2, .ref 89), (3, .ref 100), (4, .ref 101), (5, .int (nI (4 * q)))] [] 2109) : Wp X k n w [(0, .ref 2000000), (1, .ref 0), (2, .ref 89), (3, .ref 100), (4, .ref 101), (5, .int (nI (4 * q)))] [.int (nI 10)] 44 := by
  refine r_tableIn (off := 703) (tgt := 747) hC dL_law_44 (by decide) (by decide) (by decide) (by decide) ?_
  obtain ⟨th, ⟨⟨f, g, sl, op, lo⟩, hd, rs, np, tp, av, lg, pl, tk⟩, l, ea, fa, so, txl, lnl, tx, tn, lf, ln, J⟩ := hJ
  exact op_10 hX J hC hnl hq hN hk hn kk
set_option maxRecDepth 100000 in
set_option maxHeartbeats 4000000 in
theorem sw_11 {X : mC} {d q mc ms k n : Nat} {w : mW} {N : Nat} {xs : Nat → Int32} (hX : mScr X N xs) (hC : Cx X RL cL_law (d + 12) mc ms) (hnl : mNL X = 9) (hq : 4 * q + 4 ≤ N) (hN : N ≤ 2048) (hk : k + 25 ≤ mc) (hn : n + 3100 ≤ ms) (hJ : JV w) (kk : ∀ w', w'.length = w.length → JV w' → Wp X (k + 25) (n + 3100) w' [(0, .ref 2000000), (1, .ref 0), (2, .ref 89), (3, .ref 100), (4, .ref 101), (5, .int (nI (4 * q)))] [] 2109) : Wp X k n w [(0, .ref 2000000), (1, .ref 0), (2, .ref 89), (3, .ref 100), (4, .ref 101), (5, .int (nI (4 * q)))] [.int (nI 11)] 44 := by
  refine r_tableIn (off := 716) (tgt := 760) hC dL_law_44 (by decide) (by decide) (by decide) (by decide) ?_
  obtain ⟨th, ⟨⟨f, g, sl, op, lo⟩, hd, rs, np, tp, av, lg, pl, tk⟩, l, ea, fa, so, txl, lnl, tx, tn, lf, ln, J⟩ := hJ
  exact op_11 hX J hC hnl hq hN hk hn kk
set_option maxRecDepth 100000 in
set_option maxHeartbeats 4000000 in
theorem sw_12 {X : mC} {d q mc ms k n : Nat} {w : mW} {N : Nat} {xs : Nat → Int32} (hX : mScr X N xs) (hC : Cx X RL cL_law (d + 12) mc ms) (hnl : mNL X = 9) (hq : 4 * q + 4 ≤ N) (hN : N ≤ 2048) (hk : k + 25 ≤ mc) (hn : n + 3100 ≤ ms) (hJ : JV w) (kk : ∀ w', w'.length = w.length → JV w' → Wp X (k + 25) (n + 3100) w' [(0, .ref 2000000), (1, .ref 0), (2, .ref 89), (3, .ref 100), (4, .ref 101), (5, .int (nI (4 * q)))] [] 2109) : Wp X k n w [(0, .ref 2000000), (1, .ref 0), (2, .ref 89), (3, .ref 100), (4, .ref 101), (5, .int (nI (4 * q)))] [.int (nI 12)] 44 := by
  refine r_tableIn (off := 729) (tgt := 773) hC dL_law_44 (by decide) (by decide) (by decide) (by decide) ?_
  obtain ⟨th, ⟨⟨f, g, sl, op, lo⟩, hd, rs, np, tp, av, lg, pl, tk⟩, l, ea, fa, so, txl, lnl, tx, tn, lf, ln, J⟩ := hJ
  exact op_12 hX J hC hnl hq hN hk hn kk
set_option maxRecDepth 100000 in
set_option maxHeartbeats 4000000 in
theorem sw_13 {X : mC} {d q mc ms k n : Nat} {w : mW} {N : Nat} {xs : Nat → Int32} (hX : mScr X N xs) (hC : Cx X RL cL_law (d + 12) mc ms) (hnl : mNL X = 9) (hq : 4 * q + 4 ≤ N) (hN : N ≤ 2048) (hk : k + 25 ≤ mc) (hn : n + 3100 ≤ ms) (hJ : JV w) (kk : ∀ w', w'.length = w.length → JV w' → Wp X (k + 25) (n + 3100) w' [(0, .ref 2000000), (1, .ref 0), (2, .ref 89), (3, .ref 100), (4, .ref 101), (5, .int (nI (4 * q)))] [] 2109) : Wp X k n w [(0, .ref 2000000), (1, .ref 0), (2, .ref 89), (3, .ref 100), (4, .ref 101), (5, .int (nI (4 * q)))] [.int (nI 13)] 44 := by
  refine r_tableIn (off := 785) (tgt := 829) hC dL_law_44 (by decide) (by decide) (by decide) (by decide) ?_
  obtain ⟨th, ⟨⟨f, g, sl, op, lo⟩, hd, rs, np, tp, av, lg, pl, tk⟩, l, ea, fa, so, txl, lnl, tx, tn, lf, ln, J⟩ := hJ
  exact op_13 hX J hC hnl hq hN hk hn kk
set_option maxRecDepth 100000 in
set_option maxHeartbeats 4000000 in
theorem sw_14 {X : mC} {d q mc ms k n : Nat} {w : mW} {N : Nat} {xs : Nat → Int32} (hX : mScr X N xs) (hC : Cx X RL cL_law (d + 12) mc ms) (hnl : mNL X = 9) (hq : 4 * q + 4 ≤ N) (hN : N ≤ 2048) (hk : k + 25 ≤ mc) (hn : n + 3100 ≤ ms) (hJ : JV w) (kk : ∀ w', w'.length = w.length → JV w' → Wp X (k + 25) (n + 3100) w' [(0, .ref 2000000), (1, .ref 0), (2, .ref 89), (3, .ref 100), (4, .ref 101), (5, .int (nI (4 * q)))] [] 2109) : Wp X k n w [(0, .ref 2000000), (1, .ref 0), (2, .ref 89), (3, .ref 100), (4, .ref 101), (5, .int (nI (4 * q)))] [.int (nI 14)] 44 := by
  refine r_tableIn (off := 841) (tgt := 885) hC dL_law_44 (by decide) (by decide) (by decide) (by decide) ?_
  obtain ⟨th, ⟨⟨f, g, sl, op, lo⟩, hd, rs, np, tp, av, lg, pl, tk⟩, l, ea, fa, so, txl, lnl, tx, tn, lf, ln, J⟩ := hJ
  exact op_14 hX J hC hnl hq hN hk hn kk
set_option maxRecDepth 100000 in
set_option maxHeartbeats 4000000 in
theorem sw_15 {X : mC} {d q mc ms k n : Nat} {w : mW} {N : Nat} {xs : Nat → Int32} (hX : mScr X N xs) (hC : Cx X RL cL_law (d + 12) mc ms) (hnl : mNL X = 9) (hq : 4 * q + 4 ≤ N) (hN : N ≤ 2048) (hk : k + 25 ≤ mc) (hn : n + 3100 ≤ ms) (hJ : JV w) (kk : ∀ w', w'.length = w.length → JV w' → Wp X (k + 25) (n + 3100) w' [(0, .ref 2000000), (1, .ref 0), (2, .ref 89), (3, .ref 100), (4, .ref 101), (5, .int (nI (4 * q)))] [] 2109) : Wp X k n w [(0, .ref 2000000), (1, .ref 0), (2, .ref 89), (3, .ref 100), (4, .ref 101), (5, .int (nI (4 * q)))] [.int (nI 15)] 44 := by
  refine r_tableIn (off := 897) (tgt := 941) hC dL_law_44 (by decide) (by decide) (by decide) (by decide) ?_
  obtain ⟨th, ⟨⟨f, g, sl, op, lo⟩, hd, rs, np, tp, av, lg, pl, tk⟩, l, ea, fa, so, txl, lnl, tx, tn, lf, ln, J⟩ := hJ
  exact op_15 hX J hC hnl hq hN hk hn kk
set_option maxRecDepth 100000 in
set_option maxHeartbeats 4000000 in
theorem sw_16 {X : mC} {d q mc ms k n : Nat} {w : mW} {N : Nat} {xs : Nat → Int32} (hX : mScr X N xs) (hC : Cx X RL cL_law (d + 12) mc ms) (hnl : mNL X = 9) (hq : 4 * q + 4 ≤ N) (hN : N ≤ 2048) (hk : k + 25 ≤ mc) (hn : n + 3100 ≤ ms) (hJ : JV w) (kk : ∀ w', w'.length = w.length → JV w' → Wp X (k + 25) (n + 3100) w' [(0, .ref 2000000), (1, .ref 0), (2, .ref 89), (3, .ref 100), (4, .ref 101), (5, .int (nI (4 * q)))] [] 2109) : Wp X k n w [(0, .ref 2000000), (1, .ref 0), (2, .ref 89), (3, .ref 100), (4, .ref 101), (5, .int (nI (4 * q)))] [.int (nI 16)] 44 := by
  refine r_tableIn (off := 953) (tgt := 997) hC dL_law_44 (by decide) (by decide) (by decide) (by decide) ?_
  obtain ⟨th, ⟨⟨f, g, sl, op, lo⟩, hd, rs, np, tp, av, lg, pl, tk⟩, l, ea, fa, so, txl, lnl, tx, tn, lf, ln, J⟩ := hJ
  exact op_16 hX J hC hnl hq hN hk hn kk
set_option maxRecDepth 100000 in
set_option maxHeartbeats 4000000 in
theorem sw_17 {X : mC} {d q mc ms k n : Nat} {w : mW} {N : Nat} {xs : Nat → Int32} (hX : mScr X N xs) (hC : Cx X RL cL_law (d + 12) mc ms) (hnl : mNL X = 9) (hq : 4 * q + 4 ≤ N) (hN : N ≤ 2048) (hk : k + 25 ≤ mc) (hn : n + 3100 ≤ ms) (hJ : JV w) (kk : ∀ w', w'.length = w.length → JV w' → Wp X (k + 25) (n + 3100) w' [(0, .ref 2000000), (1, .ref 0), (2, .ref 89), (3, .ref 100), (4, .ref 101), (5, .int (nI (4 * q)))] [] 2109) : Wp X k n w [(0, .ref 2000000), (1, .ref 0), (2, .ref 89), (3, .ref 100), (4, .ref 101), (5, .int (nI (4 * q)))] [.int (nI 17)] 44 := by
  refine r_tableIn (off := 966) (tgt := 1010) hC dL_law_44 (by decide) (by decide) (by decide) (by decide) ?_
  obtain ⟨th, ⟨⟨f, g, sl, op, lo⟩, hd, rs, np, tp, av, lg, pl, tk⟩, l, ea, fa, so, txl, lnl, tx, tn, lf, ln, J⟩ := hJ
  exact op_17 hX J hC hnl hq hN hk hn kk
set_option maxRecDepth 100000 in
set_option maxHeartbeats 4000000 in
theorem sw_18 {X : mC} {d q mc ms k n : Nat} {w : mW} {N : Nat} {xs : Nat → Int32} (hX : mScr X N xs) (hC : Cx X RL cL_law (d + 12) mc ms) (hnl : mNL X = 9) (hq : 4 * q + 4 ≤ N) (hN : N ≤ 2048) (hk : k + 25 ≤ mc) (hn : n + 3100 ≤ ms) (hJ : JV w) (kk : ∀ w', w'.length = w.length → JV w' → Wp X (k + 25) (n + 3100) w' [(0, .ref 2000000), (1, .ref 0), (2, .ref 89), (3, .ref 100), (4, .ref 101), (5, .int (nI (4 * q)))] [] 2109) : Wp X k n w [(0, .ref 2000000), (1, .ref 0), (2, .ref 89), (3, .ref 100), (4, .ref 101), (5, .int (nI (4 * q)))] [.int (nI 18)] 44 := by
  refine r_tableIn (off := 979) (tgt := 1023) hC dL_law_44 (by decide) (by decide) (by decide) (by decide) ?_
  obtain ⟨th, ⟨⟨f, g, sl, op, lo⟩, hd, rs, np, tp, av, lg, pl, tk⟩, l, ea, fa, so, txl, lnl, tx, tn, lf, ln, J⟩ := hJ
  exact op_18 hX J hC hnl hq hN hk hn kk
set_option maxRecDepth 100000 in
set_option maxHeartbeats 4000000 in
theorem sw_19 {X : mC} {d q mc ms k n : Nat} {w : mW} {N : Nat} {xs : Nat → Int32} (hX : mScr X N xs) (hC : Cx X RL cL_law (d + 12) mc ms) (hnl : mNL X = 9) (hq : 4 * q + 4 ≤ N) (hN : N ≤ 2048) (hk : k + 25 ≤ mc) (hn : n + 3100 ≤ ms) (hJ : JV w) (kk : ∀ w', w'.length = w.length → JV w' → Wp X (k + 25) (n + 3100) w' [(0, .ref 2000000), (1, .ref 0), (2, .ref 89), (3, .ref 100), (4, .ref 101), (5, .int (nI (4 * q)))] [] 2109) : Wp X k n w [(0, .ref 2000000), (1, .ref 0), (2, .ref 89), (3, .ref 100), (4, .ref 101), (5, .int (nI (4 * q)))] [.int (nI 19)] 44 := by
  refine r_tableIn (off := 992) (tgt := 1036) hC dL_law_44 (by decide) (by decide) (by decide) (by decide) ?_
  obtain ⟨th, ⟨⟨f, g, sl, op, lo⟩, hd, rs, np, tp, av, lg, pl, tk⟩, l, ea, fa, so, txl, lnl, tx, tn, lf, ln, J⟩ := hJ
  exact op_19 hX J hC hnl hq hN hk hn kk
set_option maxRecDepth 100000 in
set_option maxHeartbeats 4000000 in
theorem sw_20 {X : mC} {d q mc ms k n : Nat} {w : mW} {N : Nat} {xs : Nat → Int32} (hX : mScr X N xs) (hC : Cx X RL cL_law (d + 12) mc ms) (hnl : mNL X = 9) (hq : 4 * q + 4 ≤ N) (hN : N ≤ 2048) (hk : k + 25 ≤ mc) (hn : n + 3100 ≤ ms) (hJ : JV w) (kk : ∀ w', w'.length = w.length → JV w' → Wp X (k + 25) (n + 3100) w' [(0, .ref 2000000), (1, .ref 0), (2, .ref 89), (3, .ref 100), (4, .ref 101), (5, .int (nI (4 * q)))] [] 2109) : Wp X k n w [(0, .ref 2000000), (1, .ref 0), (2, .ref 89), (3, .ref 100), (4, .ref 101), (5, .int (nI (4 * q)))] [.int (nI 20)] 44 := by
  refine r_tableIn (off := 1060) (tgt := 1104) hC dL_law_44 (by decide) (by decide) (by decide) (by decide) ?_
  obtain ⟨th, ⟨⟨f, g, sl, op, lo⟩, hd, rs, np, tp, av, lg, pl, tk⟩, l, ea, fa, so, txl, lnl, tx, tn, lf, ln, J⟩ := hJ
  exact op_20 hX J hC hnl hq hN hk hn kk
set_option maxRecDepth 100000 in
set_option maxHeartbeats 4000000 in
theorem sw_21 {X : mC} {d q mc ms k n : Nat} {w : mW} {N : Nat} {xs : Nat → Int32} (hX : mScr X N xs) (hC : Cx X RL cL_law (d + 12) mc ms) (hnl : mNL X = 9) (hq : 4 * q + 4 ≤ N) (hN : N ≤ 2048) (hk : k + 25 ≤ mc) (hn : n + 3100 ≤ ms) (hJ : JV w) (kk : ∀ w', w'.length = w.length → JV w' → Wp X (k + 25) (n + 3100) w' [(0, .ref 2000000), (1, .ref 0), (2, .ref 89), (3, .ref 100), (4, .ref 101), (5, .int (nI (4 * q)))] [] 2109) : Wp X k n w [(0, .ref 2000000), (1, .ref 0), (2, .ref 89), (3, .ref 100), (4, .ref 101), (5, .int (nI (4 * q)))] [.int (nI 21)] 44 := by
  refine r_tableIn (off := 1128) (tgt := 1172) hC dL_law_44 (by decide) (by decide) (by decide) (by decide) ?_
  obtain ⟨th, ⟨⟨f, g, sl, op, lo⟩, hd, rs, np, tp, av, lg, pl, tk⟩, l, ea, fa, so, txl, lnl, tx, tn, lf, ln, J⟩ := hJ
  exact op_21 hX J hC hnl hq hN hk hn kk
set_option maxRecDepth 100000 in
set_option maxHeartbeats 4000000 in
theorem sw_22 {X : mC} {d q mc ms k n : Nat} {w : mW} {N : Nat} {xs : Nat → Int32} (hX : mScr X N xs) (hC : Cx X RL cL_law (d + 12) mc ms) (hnl : mNL X = 9) (hq : 4 * q + 4 ≤ N) (hN : N ≤ 2048) (hk : k + 25 ≤ mc) (hn : n + 3100 ≤ ms) (hJ : JV w) (kk : ∀ w', w'.length = w.length → JV w' → Wp X (k + 25) (n + 3100) w' [(0, .ref 2000000), (1, .ref 0), (2, .ref 89), (3, .ref 100), (4, .ref 101), (5, .int (nI (4 * q)))] [] 2109) : Wp X k n w [(0, .ref 2000000), (1, .ref 0), (2, .ref 89), (3, .ref 100), (4, .ref 101), (5, .int (nI (4 * q)))] [.int (nI 22)] 44 := by
  refine r_tableIn (off := 1191) (tgt := 1235) hC dL_law_44 (by decide) (by decide) (by decide) (by decide) ?_
  obtain ⟨th, ⟨⟨f, g, sl, op, lo⟩, hd, rs, np, tp, av, lg, pl, tk⟩, l, ea, fa, so, txl, lnl, tx, tn, lf, ln, J⟩ := hJ
  exact op_22 hX J hC hnl hq hN hk hn kk
set_option maxRecDepth 100000 in
set_option maxHeartbeats 4000000 in
theorem sw_23 {X : mC} {d q mc ms k n : Nat} {w : mW} {N : Nat} {xs : Nat → Int32} (hX : mScr X N xs) (hC : Cx X RL cL_law (d + 12) mc ms) (hnl : mNL X = 9) (hq : 4 * q + 4 ≤ N) (hN : N ≤ 2048) (hk : k + 25 ≤ mc) (hn : n + 3100 ≤ ms) (hJ : JV w) (kk : ∀ w', w'.length = w.length → JV w' → Wp X (k + 25) (n + 3100) w' [(0, .ref 2000000), (1, .ref 0), (2, .ref 89), (3, .ref 100), (4, .ref 101), (5, .int (nI (4 * q)))] [] 2109) : Wp X k n w [(0, .ref 2000000), (1, .ref 0), (2, .ref 89), (3, .ref 100), (4, .ref 101), (5, .int (nI (4 * q)))] [.int (nI 23)] 44 := by
  refine r_tableIn (off := 1204) (tgt := 1248) hC dL_law_44 (by decide) (by decide) (by decide) (by decide) ?_
  obtain ⟨th, ⟨⟨f, g, sl, op, lo⟩, hd, rs, np, tp, av, lg, pl, tk⟩, l, ea, fa, so, txl, lnl, tx, tn, lf, ln, J⟩ := hJ
  exact op_23 hX J hC hnl hq hN hk hn kk
set_option maxRecDepth 100000 in
set_option maxHeartbeats 4000000 in
theorem sw_24 {X : mC} {d q mc ms k n : Nat} {w : mW} {N : Nat} {xs : Nat → Int32} (hX : mScr X N xs) (hC : Cx X RL cL_law (d + 12) mc ms) (hnl : mNL X = 9) (hq : 4 * q + 4 ≤ N) (hN : N ≤ 2048) (hk : k + 25 ≤ mc) (hn : n + 3100 ≤ ms) (hJ : JV w) (kk : ∀ w', w'.length = w.length → JV w' → Wp X (k + 25) (n + 3100) w' [(0, .ref 2000000), (1, .ref 0), (2, .ref 89), (3, .ref 100), (4, .ref 101), (5, .int (nI (4 * q)))] [] 2109) : Wp X k n w [(0, .ref 2000000), (1, .ref 0), (2, .ref 89), (3, .ref 100), (4, .ref 101), (5, .int (nI (4 * q)))] [.int (nI 24)] 44 := by
  refine r_tableIn (off := 1260) (tgt := 1304) hC dL_law_44 (by decide) (by decide) (by decide) (by decide) ?_
  obtain ⟨th, ⟨⟨f, g, sl, op, lo⟩, hd, rs, np, tp, av, lg, pl, tk⟩, l, ea, fa, so, txl, lnl, tx, tn, lf, ln, J⟩ := hJ
  exact op_24 hX J hC hnl hq hN hk hn kk
set_option maxRecDepth 100000 in
set_option maxHeartbeats 4000000 in
theorem sw_25 {X : mC} {d q mc ms k n : Nat} {w : mW} {N : Nat} {xs : Nat → Int32} (hX : mScr X N xs) (hC : Cx X RL cL_law (d + 12) mc ms) (hnl : mNL X = 9) (hq : 4 * q + 4 ≤ N) (hN : N ≤ 2048) (hk : k + 25 ≤ mc) (hn : n + 3100 ≤ ms) (hJ : JV w) (kk : ∀ w', w'.length = w.length → JV w' → Wp X (k + 25) (n + 3100) w' [(0, .ref 2000000), (1, .ref 0), (2, .ref 89), (3, .ref 100), (4, .ref 101), (5, .int (nI (4 * q)))] [] 2109) : Wp X k n w [(0, .ref 2000000), (1, .ref 0), (2, .ref 89), (3, .ref 100), (4, .ref 101), (5, .int (nI (4 * q)))] [.int (nI 25)] 44 := by
  refine r_tableIn (off := 1316) (tgt := 1360) hC dL_law_44 (by decide) (by decide) (by decide) (by decide) ?_
  obtain ⟨th, ⟨⟨f, g, sl, op, lo⟩, hd, rs, np, tp, av, lg, pl, tk⟩, l, ea, fa, so, txl, lnl, tx, tn, lf, ln, J⟩ := hJ
  exact op_25 hX J hC hnl hq hN hk hn kk
set_option maxRecDepth 100000 in
set_option maxHeartbeats 4000000 in
theorem sw_26 {X : mC} {d q mc ms k n : Nat} {w : mW} {N : Nat} {xs : Nat → Int32} (hX : mScr X N xs) (hC : Cx X RL cL_law (d + 12) mc ms) (hnl : mNL X = 9) (hq : 4 * q + 4 ≤ N) (hN : N ≤ 2048) (hk : k + 25 ≤ mc) (hn : n + 3100 ≤ ms) (hJ : JV w) (kk : ∀ w', w'.length = w.length → JV w' → Wp X (k + 25) (n + 3100) w' [(0, .ref 2000000), (1, .ref 0), (2, .ref 89), (3, .ref 100), (4, .ref 101), (5, .int (nI (4 * q)))] [] 2109) : Wp X k n w [(0, .ref 2000000), (1, .ref 0), (2, .ref 89), (3, .ref 100), (4, .ref 101), (5, .int (nI (4 * q)))] [.int (nI 26)] 44 := by
  refine r_tableIn (off := 1372) (tgt := 1416) hC dL_law_44 (by decide) (by decide) (by decide) (by decide) ?_
  obtain ⟨th, ⟨⟨f, g, sl, op, lo⟩, hd, rs, np, tp, av, lg, pl, tk⟩, l, ea, fa, so, txl, lnl, tx, tn, lf, ln, J⟩ := hJ
  exact op_26 hX J hC hnl hq hN hk hn kk
set_option maxRecDepth 100000 in
set_option maxHeartbeats 4000000 in
theorem sw_27 {X : mC} {d q mc ms k n : Nat} {w : mW} {N : Nat} {xs : Nat → Int32} (hX : mScr X N xs) (hC : Cx X RL cL_law (d + 12) mc ms) (hnl : mNL X = 9) (hq : 4 * q + 4 ≤ N) (hN : N ≤ 2048) (hk : k + 25 ≤ mc) (hn : n + 3100 ≤ ms) (hJ : JV w) (kk : ∀ w', w'.length = w.length → JV w' → Wp X (k + 25) (n + 3100) w' [(0, .ref 2000000), (1, .ref 0), (2, .ref 89), (3, .ref 100), (4, .ref 101), (5, .int (nI (4 * q)))] [] 2109) : Wp X k n w [(0, .ref 2000000), (1, .ref 0), (2, .ref 89), (3, .ref 100), (4, .ref 101), (5, .int (nI (4 * q)))] [.int (nI 27)] 44 := by
  refine r_tableIn (off := 1428) (tgt := 1472) hC dL_law_44 (by decide) (by decide) (by decide) (by decide) ?_
  obtain ⟨th, ⟨⟨f, g, sl, op, lo⟩, hd, rs, np, tp, av, lg, pl, tk⟩, l, ea, fa, so, txl, lnl, tx, tn, lf, ln, J⟩ := hJ
  exact op_27 hX J hC hnl hq hN hk hn kk
set_option maxRecDepth 100000 in
set_option maxHeartbeats 4000000 in
theorem sw_28 {X : mC} {d q mc ms k n : Nat} {w : mW} {N : Nat} {xs : Nat → Int32} (hX : mScr X N xs) (hC : Cx X RL cL_law (d + 12) mc ms) (hnl : mNL X = 9) (hq : 4 * q + 4 ≤ N) (hN : N ≤ 2048) (hk : k + 25 ≤ mc) (hn : n + 3100 ≤ ms) (hJ : JV w) (kk : ∀ w', w'.length = w.length → JV w' → Wp X (k + 25) (n + 3100) w' [(0, .ref 2000000), (1, .ref 0), (2, .ref 89), (3, .ref 100), (4, .ref 101), (5, .int (nI (4 * q)))] [] 2109) : Wp X k n w [(0, .ref 2000000), (1, .ref 0), (2, .ref 89), (3, .ref 100), (4, .ref 101), (5, .int (nI (4 * q)))] [.int (nI 28)] 44 := by
  refine r_tableIn (off := 1506) (tgt := 1550) hC dL_law_44 (by decide) (by decide) (by decide) (by decide) ?_
  obtain ⟨th, ⟨⟨f, g, sl, op, lo⟩, hd, rs, np, tp, av, lg, pl, tk⟩, l, ea, fa, so, txl, lnl, tx, tn, lf, ln, J⟩ := hJ
  exact op_28 hX J hC hnl hq hN hk hn kk
set_option maxRecDepth 100000 in
set_option maxHeartbeats 4000000 in
theorem sw_29 {X : mC} {d q mc ms k n : Nat} {w : mW} {N : Nat} {xs : Nat → Int32} (hX : mScr X N xs) (hC : Cx X RL cL_law (d + 12) mc ms) (hnl : mNL X = 9) (hq : 4 * q + 4 ≤ N) (hN : N ≤ 2048) (hk : k + 25 ≤ mc) (hn : n + 3100 ≤ ms) (hJ : JV w) (kk : ∀ w', w'.length = w.length → JV w' → Wp X (k + 25) (n + 3100) w' [(0, .ref 2000000), (1, .ref 0), (2, .ref 89), (3, .ref 100), (4, .ref 101), (5, .int (nI (4 * q)))] [] 2109) : Wp X k n w [(0, .ref 2000000), (1, .ref 0), (2, .ref 89), (3, .ref 100), (4, .ref 101), (5, .int (nI (4 * q)))] [.int (nI 29)] 44 := by
  refine r_tableIn (off := 1519) (tgt := 1563) hC dL_law_44 (by decide) (by decide) (by decide) (by decide) ?_
  obtain ⟨th, ⟨⟨f, g, sl, op, lo⟩, hd, rs, np, tp, av, lg, pl, tk⟩, l, ea, fa, so, txl, lnl, tx, tn, lf, ln, J⟩ := hJ
  exact op_29 hX J hC hnl hq hN hk hn kk
set_option maxRecDepth 100000 in
set_option maxHeartbeats 4000000 in
theorem sw_30 {X : mC} {d q mc ms k n : Nat} {w : mW} {N : Nat} {xs : Nat → Int32} (hX : mScr X N xs) (hC : Cx X RL cL_law (d + 12) mc ms) (hnl : mNL X = 9) (hq : 4 * q + 4 ≤ N) (hN : N ≤ 2048) (hk : k + 25 ≤ mc) (hn : n + 3100 ≤ ms) (hJ : JV w) (kk : ∀ w', w'.length = w.length → JV w' → Wp X (k + 25) (n + 3100) w' [(0, .ref 2000000), (1, .ref 0), (2, .ref 89), (3, .ref 100), (4, .ref 101), (5, .int (nI (4 * q)))] [] 2109) : Wp X k n w [(0, .ref 2000000), (1, .ref 0), (2, .ref 89), (3, .ref 100), (4, .ref 101), (5, .int (nI (4 * q)))] [.int (nI 30)] 44 := by
  refine r_tableIn (off := 1532) (tgt := 1576) hC dL_law_44 (by decide) (by decide) (by decide) (by decide) ?_
  obtain ⟨th, ⟨⟨f, g, sl, op, lo⟩, hd, rs, np, tp, av, lg, pl, tk⟩, l, ea, fa, so, txl, lnl, tx, tn, lf, ln, J⟩ := hJ
  exact op_30 hX J hC hnl hq hN hk hn kk
set_option maxRecDepth 100000 in
set_option maxHeartbeats 4000000 in
theorem sw_31 {X : mC} {d q mc ms k n : Nat} {w : mW} {N : Nat} {xs : Nat → Int32} (hX : mScr X N xs) (hC : Cx X RL cL_law (d + 12) mc ms) (hnl : mNL X = 9) (hq : 4 * q + 4 ≤ N) (hN : N ≤ 2048) (hk : k + 25 ≤ mc) (hn : n + 3100 ≤ ms) (hJ : JV w) (kk : ∀ w', w'.length = w.length → JV w' → Wp X (k + 25) (n + 3100) w' [(0, .ref 2000000), (1, .ref 0), (2, .ref 89), (3, .ref 100), (4, .ref 101), (5, .int (nI (4 * q)))] [] 2109) : Wp X k n w [(0, .ref 2000000), (1, .ref 0), (2, .ref 89), (3, .ref 100), (4, .ref 101), (5, .int (nI (4 * q)))] [.int (nI 31)] 44 := by
  refine r_tableIn (off := 1545) (tgt := 1589) hC dL_law_44 (by decide) (by decide) (by decide) (by decide) ?_
  obtain ⟨th, ⟨⟨f, g, sl, op, lo⟩, hd, rs, np, tp, av, lg, pl, tk⟩, l, ea, fa, so, txl, lnl, tx, tn, lf, ln, J⟩ := hJ
  exact op_31 hX J hC hnl hq hN hk hn kk
set_option maxRecDepth 100000 in
set_option maxHeartbeats 4000000 in
theorem sw_32 {X : mC} {d q mc ms k n : Nat} {w : mW} {N : Nat} {xs : Nat → Int32} (hX : mScr X N xs) (hC : Cx X RL cL_law (d + 12) mc ms) (hnl : mNL X = 9) (hq : 4 * q + 4 ≤ N) (hN : N ≤ 2048) (hk : k + 25 ≤ mc) (hn : n + 3100 ≤ ms) (hJ : JV w) (kk : ∀ w', w'.length = w.length → JV w' → Wp X (k + 25) (n + 3100) w' [(0, .ref 2000000), (1, .ref 0), (2, .ref 89), (3, .ref 100), (4, .ref 101), (5, .int (nI (4 * q)))] [] 2109) : Wp X k n w [(0, .ref 2000000), (1, .ref 0), (2, .ref 89), (3, .ref 100), (4, .ref 101), (5, .int (nI (4 * q)))] [.int (nI 32)] 44 := by
  refine r_tableIn (off := 1558) (tgt := 1602) hC dL_law_44 (by decide) (by decide) (by decide) (by decide) ?_
  obtain ⟨th, ⟨⟨f, g, sl, op, lo⟩, hd, rs, np, tp, av, lg, pl, tk⟩, l, ea, fa, so, txl, lnl, tx, tn, lf, ln, J⟩ := hJ
  exact op_32 hX J hC hnl hq hN hk hn kk
set_option maxRecDepth 100000 in
set_option maxHeartbeats 4000000 in
theorem sw_33 {X : mC} {d q mc ms k n : Nat} {w : mW} {N : Nat} {xs : Nat → Int32} (hX : mScr X N xs) (hC : Cx X RL cL_law (d + 12) mc ms) (hnl : mNL X = 9) (hq : 4 * q + 4 ≤ N) (hN : N ≤ 2048) (hk : k + 25 ≤ mc) (hn : n + 3100 ≤ ms) (hJ : JV w) (kk : ∀ w', w'.length = w.length → JV w' → Wp X (k + 25) (n + 3100) w' [(0, .ref 2000000), (1, .ref 0), (2, .ref 89), (3, .ref 100), (4, .ref 101), (5, .int (nI (4 * q)))] [] 2109) : Wp X k n w [(0, .ref 2000000), (1, .ref 0), (2, .ref 89), (3, .ref 100), (4, .ref 101), (5, .int (nI (4 * q)))] [.int (nI 33)] 44 := by
  refine r_tableIn (off := 1571) (tgt := 1615) hC dL_law_44 (by decide) (by decide) (by decide) (by decide) ?_
  obtain ⟨th, ⟨⟨f, g, sl, op, lo⟩, hd, rs, np, tp, av, lg, pl, tk⟩, l, ea, fa, so, txl, lnl, tx, tn, lf, ln, J⟩ := hJ
  exact op_33 hX J hC hnl hq hN hk hn kk
set_option maxRecDepth 100000 in
set_option maxHeartbeats 4000000 in
theorem sw_34 {X : mC} {d q mc ms k n : Nat} {w : mW} {N : Nat} {xs : Nat → Int32} (hX : mScr X N xs) (hC : Cx X RL cL_law (d + 12) mc ms) (hnl : mNL X = 9) (hq : 4 * q + 4 ≤ N) (hN : N ≤ 2048) (hk : k + 25 ≤ mc) (hn : n + 3100 ≤ ms) (hJ : JV w) (kk : ∀ w', w'.length = w.length → JV w' → Wp X (k + 25) (n + 3100) w' [(0, .ref 2000000), (1, .ref 0), (2, .ref 89), (3, .ref 100), (4, .ref 101), (5, .int (nI (4 * q)))] [] 2109) : Wp X k n w [(0, .ref 2000000), (1, .ref 0), (2, .ref 89), (3, .ref 100), (4, .ref 101), (5, .int (nI (4 * q)))] [.int (nI 34)] 44 := by
  refine r_tableIn (off := 1584) (tgt := 1628) hC dL_law_44 (by decide) (by decide) (by decide) (by decide) ?_
  obtain ⟨th, ⟨⟨f, g, sl, op, lo⟩, hd, rs, np, tp, av, lg, pl, tk⟩, l, ea, fa, so, txl, lnl, tx, tn, lf, ln, J⟩ := hJ
  exact op_34 hX J hC hnl hq hN hk hn kk
set_option maxRecDepth 100000 in
set_option maxHeartbeats 4000000 in
theorem sw_35 {X : mC} {d q mc ms k n : Nat} {w : mW} {N : Nat} {xs : Nat → Int32} (hX : mScr X N xs) (hC : Cx X RL cL_law (d + 12) mc ms) (hnl : mNL X = 9) (hq : 4 * q + 4 ≤ N) (hN : N ≤ 2048) (hk : k + 25 ≤ mc) (hn : n + 3100 ≤ ms) (hJ : JV w) (kk : ∀ w', w'.length = w.length → JV w' → Wp X (k + 25) (n + 3100) w' [(0, .ref 2000000), (1, .ref 0), (2, .ref 89), (3, .ref 100), (4, .ref 101), (5, .int (nI (4 * q)))] [] 2109) : Wp X k n w [(0, .ref 2000000), (1, .ref 0), (2, .ref 89), (3, .ref 100), (4, .ref 101), (5, .int (nI (4 * q)))] [.int (nI 35)] 44 := by
  refine r_tableIn (off := 1642) (tgt := 1686) hC dL_law_44 (by decide) (by decide) (by decide) (by decide) ?_
  obtain ⟨th, ⟨⟨f, g, sl, op, lo⟩, hd, rs, np, tp, av, lg, pl, tk⟩, l, ea, fa, so, txl, lnl, tx, tn, lf, ln, J⟩ := hJ
  exact op_35 hX J hC hnl hq hN hk hn kk
set_option maxRecDepth 100000 in
set_option maxHeartbeats 4000000 in
theorem sw_36 {X : mC} {d q mc ms k n : Nat} {w : mW} {N : Nat} {xs : Nat → Int32} (hX : mScr X N xs) (hC : Cx X RL cL_law (d + 12) mc ms) (hnl : mNL X = 9) (hq : 4 * q + 4 ≤ N) (hN : N ≤ 2048) (hk : k + 25 ≤ mc) (hn : n + 3100 ≤ ms) (hJ : JV w) (kk : ∀ w', w'.length = w.length → JV w' → Wp X (k + 25) (n + 3100) w' [(0, .ref 2000000), (1, .ref 0), (2, .ref 89), (3, .ref 100), (4, .ref 101), (5, .int (nI (4 * q)))] [] 2109) : Wp X k n w [(0, .ref 2000000), (1, .ref 0), (2, .ref 89), (3, .ref 100), (4, .ref 101), (5, .int (nI (4 * q)))] [.int (nI 36)] 44 := by
  refine r_tableIn (off := 1686) (tgt := 1730) hC dL_law_44 (by decide) (by decide) (by decide) (by decide) ?_
  obtain ⟨th, ⟨⟨f, g, sl, op, lo⟩, hd, rs, np, tp, av, lg, pl, tk⟩, l, ea, fa, so, txl, lnl, tx, tn, lf, ln, J⟩ := hJ
  exact op_36 hX J hC hnl hq hN hk hn kk
set_option maxRecDepth 100000 in
set_option maxHeartbeats 4000000 in
theorem sw_37 {X : mC} {d q mc ms k n : Nat} {w : mW} {N : Nat} {xs : Nat → Int32} (hX : mScr X N xs) (hC : Cx X RL cL_law (d + 12) mc ms) (hnl : mNL X = 9) (hq : 4 * q + 4 ≤ N) (hN : N ≤ 2048) (hk : k + 25 ≤ mc) (hn : n + 3100 ≤ ms) (hJ : JV w) (kk : ∀ w', w'.length = w.length → JV w' → Wp X (k + 25) (n + 3100) w' [(0, .ref 2000000), (1, .ref 0), (2, .ref 89), (3, .ref 100), (4, .ref 101), (5, .int (nI (4 * q)))] [] 2109) : Wp X k n w [(0, .ref 2000000), (1, .ref 0), (2, .ref 89), (3, .ref 100), (4, .ref 101), (5, .int (nI (4 * q)))] [.int (nI 37)] 44 := by
  refine r_tableIn (off := 1730) (tgt := 1774) hC dL_law_44 (by decide) (by decide) (by decide) (by decide) ?_
  obtain ⟨th, ⟨⟨f, g, sl, op, lo⟩, hd, rs, np, tp, av, lg, pl, tk⟩, l, ea, fa, so, txl, lnl, tx, tn, lf, ln, J⟩ := hJ
  exact op_37 hX J hC hnl hq hN hk hn kk
set_option maxRecDepth 100000 in
set_option maxHeartbeats 4000000 in
theorem sw_38 {X : mC} {d q mc ms k n : Nat} {w : mW} {N : Nat} {xs : Nat → Int32} (hX : mScr X N xs) (hC : Cx X RL cL_law (d + 12) mc ms) (hnl : mNL X = 9) (hq : 4 * q + 4 ≤ N) (hN : N ≤ 2048) (hk : k + 25 ≤ mc) (hn : n + 3100 ≤ ms) (hJ : JV w) (kk : ∀ w', w'.length = w.length → JV w' → Wp X (k + 25) (n + 3100) w' [(0, .ref 2000000), (1, .ref 0), (2, .ref 89), (3, .ref 100), (4, .ref 101), (5, .int (nI (4 * q)))] [] 2109) : Wp X k n w [(0, .ref 2000000), (1, .ref 0), (2, .ref 89), (3, .ref 100), (4, .ref 101), (5, .int (nI (4 * q)))] [.int (nI 38)] 44 := by
  refine r_tableIn (off := 1774) (tgt := 1818) hC dL_law_44 (by decide) (by decide) (by decide) (by decide) ?_
  obtain ⟨th, ⟨⟨f, g, sl, op, lo⟩, hd, rs, np, tp, av, lg, pl, tk⟩, l, ea, fa, so, txl, lnl, tx, tn, lf, ln, J⟩ := hJ
  exact op_38 hX J hC hnl hq hN hk hn kk
set_option maxRecDepth 100000 in
set_option maxHeartbeats 4000000 in
theorem sw_39 {X : mC} {d q mc ms k n : Nat} {w : mW} {N : Nat} {xs : Nat → Int32} (hX : mScr X N xs) (hC : Cx X RL cL_law (d + 12) mc ms) (hnl : mNL X = 9) (hq : 4 * q + 4 ≤ N) (hN : N ≤ 2048) (hk : k + 25 ≤ mc) (hn : n + 3100 ≤ ms) (hJ : JV w) (kk : ∀ w', w'.length = w.length → JV w' → Wp X (k + 25) (n + 3100) w' [(0, .ref 2000000), (1, .ref 0), (2, .ref 89), (3, .ref 100), (4, .ref 101), (5, .int (nI (4 * q)))] [] 2109) : Wp X k n w [(0, .ref 2000000), (1, .ref 0), (2, .ref 89), (3, .ref 100), (4, .ref 101), (5, .int (nI (4 * q)))] [.int (nI 39)] 44 := by
  refine r_tableIn (off := 1830) (tgt := 1874) hC dL_law_44 (by decide) (by decide) (by decide) (by decide) ?_
  obtain ⟨th, ⟨⟨f, g, sl, op, lo⟩, hd, rs, np, tp, av, lg, pl, tk⟩, l, ea, fa, so, txl, lnl, tx, tn, lf, ln, J⟩ := hJ
  exact op_39 hX J hC hnl hq hN hk hn kk
set_option maxRecDepth 100000 in
set_option maxHeartbeats 4000000 in
theorem sw_40 {X : mC} {d q mc ms k n : Nat} {w : mW} {N : Nat} {xs : Nat → Int32} (hX : mScr X N xs) (hC : Cx X RL cL_law (d + 12) mc ms) (hnl : mNL X = 9) (hq : 4 * q + 4 ≤ N) (hN : N ≤ 2048) (hk : k + 25 ≤ mc) (hn : n + 3100 ≤ ms) (hJ : JV w) (kk : ∀ w', w'.length = w.length → JV w' → Wp X (k + 25) (n + 3100) w' [(0, .ref 2000000), (1, .ref 0), (2, .ref 89), (3, .ref 100), (4, .ref 101), (5, .int (nI (4 * q)))] [] 2109) : Wp X k n w [(0, .ref 2000000), (1, .ref 0), (2, .ref 89), (3, .ref 100), (4, .ref 101), (5, .int (nI (4 * q)))] [.int (nI 40)] 44 := by
  refine r_tableIn (off := 1886) (tgt := 1930) hC dL_law_44 (by decide) (by decide) (by decide) (by decide) ?_
  obtain ⟨th, ⟨⟨f, g, sl, op, lo⟩, hd, rs, np, tp, av, lg, pl, tk⟩, l, ea, fa, so, txl, lnl, tx, tn, lf, ln, J⟩ := hJ
  exact op_40 hX J hC hnl hq hN hk hn kk
set_option maxRecDepth 100000 in
set_option maxHeartbeats 4000000 in
theorem sw_41 {X : mC} {d q mc ms k n : Nat} {w : mW} {N : Nat} {xs : Nat → Int32} (hX : mScr X N xs) (hC : Cx X RL cL_law (d + 12) mc ms) (hnl : mNL X = 9) (hq : 4 * q + 4 ≤ N) (hN : N ≤ 2048) (hk : k + 25 ≤ mc) (hn : n + 3100 ≤ ms) (hJ : JV w) (kk : ∀ w', w'.length = w.length → JV w' → Wp X (k + 25) (n + 3100) w' [(0, .ref 2000000), (1, .ref 0), (2, .ref 89), (3, .ref 100), (4, .ref 101), (5, .int (nI (4 * q)))] [] 2109) : Wp X k n w [(0, .ref 2000000), (1, .ref 0), (2, .ref 89), (3, .ref 100), (4, .ref 101), (5, .int (nI (4 * q)))] [.int (nI 41)] 44 := by
  refine r_tableIn (off := 1951) (tgt := 1995) hC dL_law_44 (by decide) (by decide) (by decide) (by decide) ?_
  obtain ⟨th, ⟨⟨f, g, sl, op, lo⟩, hd, rs, np, tp, av, lg, pl, tk⟩, l, ea, fa, so, txl, lnl, tx, tn, lf, ln, J⟩ := hJ
  exact op_41 hX J hC hnl hq hN hk hn kk
set_option maxRecDepth 100000 in
set_option maxHeartbeats 4000000 in
theorem sw_42 {X : mC} {d q mc ms k n : Nat} {w : mW} {N : Nat} {xs : Nat → Int32} (hX : mScr X N xs) (hC : Cx X RL cL_law (d + 12) mc ms) (hnl : mNL X = 9) (hq : 4 * q + 4 ≤ N) (hN : N ≤ 2048) (hk : k + 25 ≤ mc) (hn : n + 3100 ≤ ms) (hJ : JV w) (kk : ∀ w', w'.length = w.length → JV w' → Wp X (k + 25) (n + 3100) w' [(0, .ref 2000000), (1, .ref 0), (2, .ref 89), (3, .ref 100), (4, .ref 101), (5, .int (nI (4 * q)))] [] 2109) : Wp X k n w [(0, .ref 2000000), (1, .ref 0), (2, .ref 89), (3, .ref 100), (4, .ref 101), (5, .int (nI (4 * q)))] [.int (nI 42)] 44 := by
  refine r_tableIn (off := 1964) (tgt := 2008) hC dL_law_44 (by decide) (by decide) (by decide) (by decide) ?_
  obtain ⟨th, ⟨⟨f, g, sl, op, lo⟩, hd, rs, np, tp, av, lg, pl, tk⟩, l, ea, fa, so, txl, lnl, tx, tn, lf, ln, J⟩ := hJ
  rcases List.eq_nil_or_concat l with h | ⟨l2, z, h⟩
  · exact op_42a hX J hC hnl hq hN hk hn kk h
  · obtain ⟨⟨f2, g2, sl2, op2, lo2⟩, hd2, rs2, np2, tp2, av2, lg2, pl2, tk2⟩ := z
    exact op_42b hX J hC hnl hq hN hk hn kk (h.trans (List.concat_eq_append ..))
set_option maxRecDepth 100000 in
set_option maxHeartbeats 4000000 in
theorem sw_43 {X : mC} {d q mc ms k n : Nat} {w : mW} {N : Nat} {xs : Nat → Int32} (hX : mScr X N xs) (hC : Cx X RL cL_law (d + 12) mc ms) (hnl : mNL X = 9) (hq : 4 * q + 4 ≤ N) (hN : N ≤ 2048) (hk : k + 25 ≤ mc) (hn : n + 3100 ≤ ms) (hJ : JV w) (kk : ∀ w', w'.length = w.length → JV w' → Wp X (k + 25) (n + 3100) w' [(0, .ref 2000000), (1, .ref 0), (2, .ref 89), (3, .ref 100), (4, .ref 101), (5, .int (nI (4 * q)))] [] 2109) : Wp X k n w [(0, .ref 2000000), (1, .ref 0), (2, .ref 89), (3, .ref 100), (4, .ref 101), (5, .int (nI (4 * q)))] [.int (nI 43)] 44 := by
  refine r_tableIn (off := 2008) (tgt := 2052) hC dL_law_44 (by decide) (by decide) (by decide) (by decide) ?_
  obtain ⟨th, ⟨⟨f, g, sl, op, lo⟩, hd, rs, np, tp, av, lg, pl, tk⟩, l, ea, fa, so, txl, lnl, tx, tn, lf, ln, J⟩ := hJ
  exact op_43 hX J hC hnl hq hN hk hn kk
set_option maxRecDepth 100000 in
set_option maxHeartbeats 4000000 in
theorem sw_44 {X : mC} {d q mc ms k n : Nat} {w : mW} {N : Nat} {xs : Nat → Int32} (hX : mScr X N xs) (hC : Cx X RL cL_law (d + 12) mc ms) (hnl : mNL X = 9) (hq : 4 * q + 4 ≤ N) (hN : N ≤ 2048) (hk : k + 25 ≤ mc) (hn : n + 3100 ≤ ms) (hJ : JV w) (kk : ∀ w', w'.length = w.length → JV w' → Wp X (k + 25) (n + 3100) w' [(0, .ref 2000000), (1, .ref 0), (2, .ref 89), (3, .ref 100), (4, .ref 101), (5, .int (nI (4 * q)))] [] 2109) : Wp X k n w [(0, .ref 2000000), (1, .ref 0), (2, .ref 89), (3, .ref 100), (4, .ref 101), (5, .int (nI (4 * q)))] [.int (nI 44)] 44 := by
  refine r_tableIn (off := 2021) (tgt := 2065) hC dL_law_44 (by decide) (by decide) (by decide) (by decide) ?_
  obtain ⟨th, ⟨⟨f, g, sl, op, lo⟩, hd, rs, np, tp, av, lg, pl, tk⟩, l, ea, fa, so, txl, lnl, tx, tn, lf, ln, J⟩ := hJ
  rcases h : so with _ | ⟨⟨f2, g2, sl2, op2, lo2⟩, hd2, rs2, np2, tp2, av2, lg2, pl2, tk2⟩
  · exact op_44a hX J hC hnl hq hN hk hn kk h
  · exact op_44b hX J hC hnl hq hN hk hn kk h
set_option maxRecDepth 100000 in
set_option maxHeartbeats 4000000 in
theorem law_step {X : mC} {d q mc ms k n : Nat} {w : mW} {N : Nat} {xs : Nat → Int32} (hX : mScr X N xs) (hC : Cx X RL cL_law (d + 12) mc ms) (hnl : mNL X = 9) (hq : 4 * q + 4 ≤ N) (hN : N ≤ 2048) (hk : k + 25 ≤ mc) (hn : n + 3100 ≤ ms) (hJ : JV w) (kk : ∀ w', w'.length = w.length → JV w' → Wp X (k + 25) (n + 3100) w' [(0, .ref 2000000), (1, .ref 0), (2, .ref 89), (3, .ref 100), (4, .ref 101), (5, .int (nI (4 * q)))] [] 2109) : Wp X k n w [(0, .ref 2000000), (1, .ref 0), (2, .ref 89), (3, .ref 100), (4, .ref 101), (5, .int (nI (4 * q)))] [] 37 := by
  refine r_aload_n hC dL_law_37 rfl (j := 0) rfl ?_
  refine r_iload hC dL_law_38 (j := 5) rfl ?_
  refine r_ialdX hC dL_law_40 (j := (4 * q)) hX (mIx_nI (by omega) (by omega)) ?_
  refine r_bipush hC dL_law_41 (v := 63) (by decide) ?_
  refine r_iand hC dL_law_43 ?_
  obtain ⟨c, hc, ec⟩ := and63 (xs (4 * q))
  rw [ec]
  by_cases h45 : 45 ≤ c
  · refine r_tableOut (tgt := 2109) hC dL_law_44 (Or.inr (sw_out c hc h45)) (by decide) ?_
    exact Wp.wid (by omega) (by omega) (kk w rfl hJ)
  · have h9 : c < 45 := by omega
    match c, h9 with
    | 0, _ => exact sw_0 hX hC hnl hq hN hk hn hJ kk
    | 1, _ => exact sw_1 hX hC hnl hq hN hk hn hJ kk
    | 2, _ => exact sw_2 hX hC hnl hq hN hk hn hJ kk
    | 3, _ => exact sw_3 hX hC hnl hq hN hk hn hJ kk
    | 4, _ => exact sw_4 hX hC hnl hq hN hk hn hJ kk
    | 5, _ => exact sw_5 hX hC hnl hq hN hk hn hJ kk
    | 6, _ => exact sw_6 hX hC hnl hq hN hk hn hJ kk
    | 7, _ => exact sw_7 hX hC hnl hq hN hk hn hJ kk
    | 8, _ => exact sw_8 hX hC hnl hq hN hk hn hJ kk
    | 9, _ => exact sw_9 hX hC hnl hq hN hk hn hJ kk
    | 10, _ => exact sw_10 hX hC hnl hq hN hk hn hJ kk
    | 11, _ => exact sw_11 hX hC hnl hq hN hk hn hJ kk
    | 12, _ => exact sw_12 hX hC hnl hq hN hk hn hJ kk
    | 13, _ => exact sw_13 hX hC hnl hq hN hk hn hJ kk
    | 14, _ => exact sw_14 hX hC hnl hq hN hk hn hJ kk
    | 15, _ => exact sw_15 hX hC hnl hq hN hk hn hJ kk
    | 16, _ => exact sw_16 hX hC hnl hq hN hk hn hJ kk
    | 17, _ => exact sw_17 hX hC hnl hq hN hk hn hJ kk
    | 18, _ => exact sw_18 hX hC hnl hq hN hk hn hJ kk
    | 19, _ => exact sw_19 hX hC hnl hq hN hk hn hJ kk
    | 20, _ => exact sw_20 hX hC hnl hq hN hk hn hJ kk
    | 21, _ => exact sw_21 hX hC hnl hq hN hk hn hJ kk
    | 22, _ => exact sw_22 hX hC hnl hq hN hk hn hJ kk
    | 23, _ => exact sw_23 hX hC hnl hq hN hk hn hJ kk
    | 24, _ => exact sw_24 hX hC hnl hq hN hk hn hJ kk
    | 25, _ => exact sw_25 hX hC hnl hq hN hk hn hJ kk
    | 26, _ => exact sw_26 hX hC hnl hq hN hk hn hJ kk
    | 27, _ => exact sw_27 hX hC hnl hq hN hk hn hJ kk
    | 28, _ => exact sw_28 hX hC hnl hq hN hk hn hJ kk
    | 29, _ => exact sw_29 hX hC hnl hq hN hk hn hJ kk
    | 30, _ => exact sw_30 hX hC hnl hq hN hk hn hJ kk
    | 31, _ => exact sw_31 hX hC hnl hq hN hk hn hJ kk
    | 32, _ => exact sw_32 hX hC hnl hq hN hk hn hJ kk
    | 33, _ => exact sw_33 hX hC hnl hq hN hk hn hJ kk
    | 34, _ => exact sw_34 hX hC hnl hq hN hk hn hJ kk
    | 35, _ => exact sw_35 hX hC hnl hq hN hk hn hJ kk
    | 36, _ => exact sw_36 hX hC hnl hq hN hk hn hJ kk
    | 37, _ => exact sw_37 hX hC hnl hq hN hk hn hJ kk
    | 38, _ => exact sw_38 hX hC hnl hq hN hk hn hJ kk
    | 39, _ => exact sw_39 hX hC hnl hq hN hk hn hJ kk
    | 40, _ => exact sw_40 hX hC hnl hq hN hk hn hJ kk
    | 41, _ => exact sw_41 hX hC hnl hq hN hk hn hJ kk
    | 42, _ => exact sw_42 hX hC hnl hq hN hk hn hJ kk
    | 43, _ => exact sw_43 hX hC hnl hq hN hk hn hJ kk
    | 44, _ => exact sw_44 hX hC hnl hq hN hk hn hJ kk
    | c + 45, h9 => exact absurd h9 (by omega)
theorem law_gt {N q : Nat} (h : N < 4 * q + 4) (hN : N ≤ 2048) (hq : 4 * q ≤ 3000) : nI N - 4 < nI (4 * q) := by
  by_cases h4 : 4 ≤ N
  · rw [show nI N - 4 = nI (N - 4) from nI_sub (a := N) (b := 4) h4]
    exact (nI_ltS (by omega) (by omega)).mpr (by omega)
  · have e : nI N - 4 = 0 - nI (4 - N) := nI_subN (a := N) (b := 4) (by omega)
    have h3 : ∀ m, m < 5 → 1 ≤ m → (0 : Int32) - nI m < 0 := by decide
    rw [e]
    exact Int32.lt_of_lt_of_le (h3 (4 - N) (by omega) (by omega)) (nI_pos' (by omega))
theorem law_le {N q : Nat} (h : 4 * q + 4 ≤ N) (hN : N ≤ 2048) : ¬ nI N - 4 < nI (4 * q) := by
  rw [show nI N - 4 = nI (N - 4) from nI_sub (a := N) (b := 4) (by omega)]
  exact fun z => by
    have := (nI_ltS (a := N - 4) (b := 4 * q) (by omega) (by omega)).mp z
    omega
set_option maxRecDepth 100000 in
set_option maxHeartbeats 4000000 in
/-- the law's loop: from its head to its end -/
theorem law_loop {X : mC} {d mc ms N : Nat} {xs : Nat → Int32} (hX : mScr X N xs) (hC : Cx X RL cL_law (d + 12) mc ms) (hnl : mNL X = 9) (hN : N ≤ 2048) (hmc : 40000 ≤ mc) (hms : 4000000 ≤ ms) (kk : ∀ (k n : Nat) (w : mW) (L : List (Nat × Value)), k ≤ mc → n ≤ ms → Wp X k n w L [] 2115) : ∀ (i q k n : Nat) (w : mW), q + i = 513 → k + 25 * i ≤ 30000 → n + 3100 * i ≤ 3000000 → JV w → Wp X k n w [(0, .ref 2000000), (1, .ref 0), (2, .ref 89), (3, .ref 100), (4, .ref 101), (5, .int (nI (4 * q)))] [] 28 := by
  intro i
  induction i with
  | zero =>
    intro q k n w hi hk hn hJ
    refine r_iload hC dL_law_28 (j := 5) rfl ?_
    refine r_aload_n hC dL_law_30 rfl (j := 0) rfl ?_
    refine r_alenX hC dL_law_31 hX ?_
    refine r_iconst hC dL_law_32 (v := 4) (by decide) ?_
    refine r_isub hC dL_law_33 ?_
    refine r_icmp_gt hC dL_law_34 (tgt := 2115) (by decide) (fun _ => ?_) (fun h => absurd (law_gt (by omega) hN (by omega)) h)
    exact kk _ _ _ _ (by omega) (by omega)
  | succ i ih =>
    intro q k n w hi hk hn hJ
    refine r_iload hC dL_law_28 (j := 5) rfl ?_
    refine r_aload_n hC dL_law_30 rfl (j := 0) rfl ?_
    refine r_alenX hC dL_law_31 hX ?_
    refine r_iconst hC dL_law_32 (v := 4) (by decide) ?_
    refine r_isub hC dL_law_33 ?_
    by_cases hq : N < 4 * q + 4
    · refine r_icmp_gt hC dL_law_34 (tgt := 2115) (by decide) (fun _ => ?_) (fun h => absurd (law_gt hq hN (by omega)) h)
      exact kk _ _ _ _ (by omega) (by omega)
    · refine r_icmp_gt hC dL_law_34 (tgt := 2115) (by decide) (fun h => absurd h (law_le (by omega) hN)) (fun _ => ?_)
      refine law_step hX hC hnl (by omega) hN (by omega) (by omega) hJ (fun w' _ hJ' => ?_)
      refine r_iinc hC dL_law_2109 (j := 5) rfl (v := nI (4 * (q + 1))) (nI_add (4 * q) 4) (by rw [hnl]; decide) (L' := [(5, .int (nI (4 * (q + 1)))), (0, .ref 2000000), (1, .ref 0), (2, .ref 89), (3, .ref 100), (4, .ref 101)]) rfl ?_
      refine r_goto hC dL_law_2112 (tgt := 28) (by decide) ?_
      refine r_locals [1, 2, 3, 4, 5, 0] (L' := [(0, .ref 2000000), (1, .ref 0), (2, .ref 89), (3, .ref 100), (4, .ref 101), (5, .int (nI (4 * (q + 1))))]) rfl ?_
      exact ih (q + 1) (k + 25) (n + 3100) w' (by omega) (by omega) (by omega) hJ'
end LQ
