section JT
/-- the line of the one and of the other -/
def LnE (lnl : List Nat) (lf : Nat → Int32) (ln : Nat) : Prop := ln = lnl.length ∧ ∀ j, j < ln → lf j = nI (lnl.getD j 0)
/-- what holds of the two contests' things -/
def OKs (y : sv) (l : List sv) (ea fa : Int32) (so : Option sv) (txl lnl : List Nat) (tx : Nat → Int32) (tn : Nat) (lf : Nat → Int32) (ln : Nat) : Prop := TxE txl tx tn ∧ LnE lnl lf ln ∧ SInv y ∧ (∀ z ∈ l, SInv z) ∧ (∀ z, so = some z → SInv z) ∧ txl.length ≤ 60 ∧ lnl.length ≤ 40 ∧ (∀ z ∈ lnl, z < 128) ∧ (ea = -1 ∨ ¬ ea < 0) ∧ (fa = -1 ∨ ¬ fa < 0)
/-- the two contests stand side by side: class at 0, reference at 89, out at 100, outD at 101 -/
def JI (w : mW) (th : Int32) (y : sv) (l : List sv) (ea fa : Int32) (so : Option sv) (txl lnl : List Nat) (tx : Nat → Int32) (tn : Nat) (lf : Nat → Int32) (ln : Nat) : Prop :=
  CtAt w 0 y l ea fa so txl lnl ∧ MdAt w 89 th y l ea fa so tx tn lf ln ∧ (∃ q : Nat → Int64, w[100]? = some (.inl (1, 1, .inr (.inl q)))) ∧ (∃ q : Nat → UInt64, w[101]? = some (.inl (2, 1, .inr (.inr (.inr (.inl q)))))) ∧ OKs y l ea fa so txl lnl tx tn lf ln
def JV (w : mW) : Prop := ∃ th y l ea fa so txl lnl tx tn lf ln, JI w th y l ea fa so txl lnl tx tn lf ln
/-- the script, which lies outside the world: its handle is 2000000 -/
def mScr (X : mC) (N : Nat) (xs : Nat → Int32) : Prop := match X with
  | (_, _, _, _, s, _, _, _, _, _, _, _, _, ad, A, _) => va_T .int (ad 2000000) N (fun j => .int (xs j)) A s s.heap
theorem mScr.tie {n N : Nat} {xs : Nat → Int32} {X X1 : mC} (h : mTie n X X1) (hX : mScr X N xs) : mScr X1 N xs := by
  obtain ⟨p, l, e, R, s, m, args, below, meth, c, Q, D, dt, ad, A, nL⟩ := X
  obtain ⟨ad', hok, rfl⟩ := h
  show va_T .int (ad' 2000000) N (fun j => .int (xs j)) A s s.heap
  rw [hok.2 2000000 (by decide)]
  exact hX
section
variable {X : mC} {own : String} {cc : ByteArray} {d mc ms k n pc : Nat} {w : mW} {L : List (Nat × Value)} {st : List Value}
theorem r_ialdX (hC : Cx X own cc d mc ms) {j N : Nat} {i : Int32} {xs : Nat → Int32} (hd : decode cc pc = .ok (.iaload, 1)) (hX : mScr X N xs) (hi : mIx i j N) (kk : Wp X k n w L (.int (xs j) :: st) (pc + 1)) : Wp X k n w L (.int i :: .ref 2000000 :: st) pc := by
  obtain ⟨p, l, e, R, s, m, args, below, meth, c, Q, D, dt, ad, A, nL⟩ := X
  obtain ⟨hx, hb, hml, hown, hts, hlk, htr, hK, hA, hG, -⟩ := hC
  intro ws H locs ls hp hP hD hS hl
  exact va_ti hx hb hX hS hi.vp (v := .int (xs j)) (by show Value.int (xs i.toNatClampNeg) = _; rw [hi.2.1]) hd (kk ws H locs ls hp hP hD hS hl)
theorem r_alenX (hC : Cx X own cc d mc ms) {N : Nat} {xs : Nat → Int32} (hd : decode cc pc = .ok (.arraylength, 1)) (hX : mScr X N xs) (kk : Wp X k n w L (.int (nI N) :: st) (pc + 1)) : Wp X k n w L (.ref 2000000 :: st) pc := by
  obtain ⟨p, l, e, R, s, m, args, below, meth, c, Q, D, dt, ad, A, nL⟩ := X
  obtain ⟨hx, hb, hml, hown, hts, hlk, htr, hK, hA, hG, -⟩ := hC
  intro ws H locs ls hp hP hD hS hl
  exact va_tlen hx hb hX hS rfl hd (kk ws H locs ls hp hP hD hS hl)
end
theorem MdAt.frame {w w' : mW} {m : Nat} {th : Int32} {y : sv} {l : List sv} {ea fa : Int32} {so : Option sv} {tx : Nat → Int32} {tn : Nat} {lf : Nat → Int32} {ln : Nat} (H : MdAt w m th y l ea fa so tx tn lf ln) (F : ∀ k, m ≤ k → k ≤ m + 10 → w'[k]? = w[k]?) : MdAt w' m th y l ea fa so tx tn lf ln := by
  obtain ⟨he, en, iw, id0, bf, sf, kf, pf, lt, h0, h1, h2, h3, h4, h5, h6, h7, h8, h9, h10, hp, hs⟩ := H
  exact ⟨he, en, iw, id0, bf, sf, kf, pf, lt, (F _ (by omega) (by omega)).trans h0, (F _ (by omega) (by omega)).trans h1, (F _ (by omega) (by omega)).trans h2, (F _ (by omega) (by omega)).trans h3, (F _ (by omega) (by omega)).trans h4, (F _ (by omega) (by omega)).trans h5, (F _ (by omega) (by omega)).trans h6, (F _ (by omega) (by omega)).trans h7, (F _ (by omega) (by omega)).trans h8, (F _ (by omega) (by omega)).trans h9, (F _ (by omega) (by omega)).trans h10, hp, hs⟩
theorem MdAt.ob {w : mW} {m : Nat} {th : Int32} {y : sv} {l : List sv} {ea fa : Int32} {so : Option sv} {tx : Nat → Int32} {tn : Nat} {lf : Nat → Int32} {ln : Nat} (H : MdAt w m th y l ea fa so tx tn lf ln) : ∃ fs, w[m]? = some (mO 10 fs) := by
  obtain ⟨he, en, iw, id0, bf, sf, kf, pf, lt, h0, -⟩ := H
  exact ⟨_, h0⟩
theorem CtAt.ob {w : mW} {x : Nat} {y : sv} {l : List sv} {ea fa : Int32} {so : Option sv} {tx ln : List Nat} (H : CtAt w x y l ea fa so tx ln) : ∃ fs, w[x]? = some (mO 9 fs) := by
  obtain ⟨ol, hs, yb, ys, hx, q, qn, cn, ps, cs, h0, -⟩ := H
  exact ⟨_, h0⟩
section
variable {w w1 w2 : mW} {N : Nat} {xs : Nat → Int32} {th th2 : Int32} {y y2 : sv} {l l2 : List sv} {ea fa ea2 fa2 : Int32} {so so2 : Option sv} {txl lnl txl2 lnl2 : List Nat} {tx tx2 : Nat → Int32} {tn tn2 : Nat} {lf lf2 : Nat → Int32} {ln ln2 : Nat}
/-- what the class did lies in w1, then the reference did the same -/
theorem JI.step (_J : JI w th y l ea fa so txl lnl tx tn lf ln) (hc : CtAt w1 0 y2 l2 ea2 fa2 so2 txl2 lnl2) (_f1 : ∀ k, (k < 0 ∨ 0 + 88 < k) → k ≠ 100 → k ≠ 101 → w1[k]? = w[k]?) (ho : ∃ q : Nat → Int64, w1[100]? = some (.inl (1, 1, .inr (.inl q)))) (hd : ∃ q : Nat → UInt64, w1[101]? = some (.inl (2, 1, .inr (.inr (.inr (.inl q)))))) (T : MdTo w1 w2 89 th2 y2 l2 ea2 fa2 so2 tx2 tn2 lf2 ln2) (ok : OKs y2 l2 ea2 fa2 so2 txl2 lnl2 tx2 tn2 lf2 ln2) : JV w2 := by
  have F := T.2.2
  obtain ⟨q1, hq1⟩ := ho
  obtain ⟨q2, hq2⟩ := hd
  exact ⟨th2, y2, l2, ea2, fa2, so2, txl2, lnl2, tx2, tn2, lf2, ln2, hc.frame (fun k _ _ => F k (by omega)), T.1, ⟨q1, (F _ (by omega)).trans hq1⟩, ⟨q2, (F _ (by omega)).trans hq2⟩, ok⟩
end
theorem cmp_self (a : Int64) : lg_cmp a a = 0 := by
  unfold lg_cmp
  simp
end JT
