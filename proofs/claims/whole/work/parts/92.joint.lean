section JT
/-- the line of the one and of the other -/
def LnE (lnl : List Nat) (lf : Nat → Int32) (ln : Nat) : Prop := ln = lnl.length ∧ ∀ j, j < ln → lf j = nI (lnl.getD j 0)
/-- what holds of the two contests' things -/
def OKs (y : sv) (l : List sv) (ea fa : Int32) (so : Option sv) (txl lnl : List Nat) (tx : Nat → Int32) (tn : Nat) (lf : Nat → Int32) (ln : Nat) : Prop := TxE txl tx tn ∧ LnE lnl lf ln ∧ SInv y ∧ (∀ z ∈ l, SInv z) ∧ (∀ z, so = some z → SInv z) ∧ txl.length ≤ 60 ∧ lnl.length ≤ 40 ∧ (∀ z ∈ lnl, z < 128) ∧ (ea = -1 ∨ ¬ ea < 0) ∧ (fa = -1 ∨ ¬ fa < 0)
/-- the two contests stand side by side: script at 0, class at 1, reference at 90, out at 101, outD at 102 -/
def JI (w : mW) (N : Nat) (xs : Nat → Int32) (th : Int32) (y : sv) (l : List sv) (ea fa : Int32) (so : Option sv) (txl lnl : List Nat) (tx : Nat → Int32) (tn : Nat) (lf : Nat → Int32) (ln : Nat) : Prop :=
  w[0]? = some (mI 0 N xs) ∧ CtAt w 1 y l ea fa so txl lnl ∧ MdAt w 90 th y l ea fa so tx tn lf ln ∧ (∃ q : Nat → Int64, w[101]? = some (.inl (1, 1, .inr (.inl q)))) ∧ (∃ q : Nat → UInt64, w[102]? = some (.inl (2, 1, .inr (.inr (.inr (.inl q)))))) ∧ OKs y l ea fa so txl lnl tx tn lf ln
def JV (w : mW) (N : Nat) (xs : Nat → Int32) : Prop := ∃ th y l ea fa so txl lnl tx tn lf ln, JI w N xs th y l ea fa so txl lnl tx tn lf ln
theorem MdAt.frame {w w' : mW} {m : Nat} {th : Int32} {y : sv} {l : List sv} {ea fa : Int32} {so : Option sv} {tx : Nat → Int32} {tn : Nat} {lf : Nat → Int32} {ln : Nat} (H : MdAt w m th y l ea fa so tx tn lf ln) (F : ∀ k, m ≤ k → k ≤ m + 10 → w'[k]? = w[k]?) : MdAt w' m th y l ea fa so tx tn lf ln := by
  obtain ⟨he, en, iw, id0, bf, sf, kf, pf, lt, h0, h1, h2, h3, h4, h5, h6, h7, h8, h9, h10, hp, hs⟩ := H
  exact ⟨he, en, iw, id0, bf, sf, kf, pf, lt, (F _ (by omega) (by omega)).trans h0, (F _ (by omega) (by omega)).trans h1, (F _ (by omega) (by omega)).trans h2, (F _ (by omega) (by omega)).trans h3, (F _ (by omega) (by omega)).trans h4, (F _ (by omega) (by omega)).trans h5, (F _ (by omega) (by omega)).trans h6, (F _ (by omega) (by omega)).trans h7, (F _ (by omega) (by omega)).trans h8, (F _ (by omega) (by omega)).trans h9, (F _ (by omega) (by omega)).trans h10, hp, hs⟩
theorem MdAt.ob {w : mW} {m : Nat} {th : Int32} {y : sv} {l : List sv} {ea fa : Int32} {so : Option sv} {tx : Nat → Int32} {tn : Nat} {lf : Nat → Int32} {ln : Nat} (H : MdAt w m th y l ea fa so tx tn lf ln) : ∃ fs, w[m]? = some (mO 10 fs) := by
  obtain ⟨he, en, iw, id0, bf, sf, kf, pf, lt, h0, -⟩ := H
  exact ⟨_, h0⟩
theorem CtAt.ob {w : mW} {x : Nat} {y : sv} {l : List sv} {ea fa : Int32} {so : Option sv} {tx ln : List Nat} (H : CtAt w x y l ea fa so tx ln) : ∃ fs, w[x]? = some (mO 9 fs) := by
  obtain ⟨ol, hs, yb, ys, hx, q, qn, cn, ps, cs, h0, -⟩ := H
  exact ⟨_, h0⟩
section
variable {w w1 w2 : mW} {N : Nat} {xs : Nat → Int32} {th th2 : Int32} {y y2 : sv} {l l2 : List sv} {ea fa ea2 fa2 : Int32} {so so2 : Option sv} {txl lnl txl2 lnl2 : List Nat} {tx tx2 : Nat → Int32} {tn tn2 : Nat} {lf lf2 : Nat → Int32} {ln ln2 : Nat}
/-- what the class did lies in w1, then the reference did the same -/
theorem JI.step (J : JI w N xs th y l ea fa so txl lnl tx tn lf ln) (hc : CtAt w1 1 y2 l2 ea2 fa2 so2 txl2 lnl2) (f1 : ∀ k, (k < 1 ∨ 1 + 88 < k) → k ≠ 101 → k ≠ 102 → w1[k]? = w[k]?) (ho : ∃ q : Nat → Int64, w1[101]? = some (.inl (1, 1, .inr (.inl q)))) (hd : ∃ q : Nat → UInt64, w1[102]? = some (.inl (2, 1, .inr (.inr (.inr (.inl q)))))) (T : MdTo w1 w2 90 th2 y2 l2 ea2 fa2 so2 tx2 tn2 lf2 ln2) (ok : OKs y2 l2 ea2 fa2 so2 txl2 lnl2 tx2 tn2 lf2 ln2) : JV w2 N xs := by
  obtain ⟨h0, -, -, -, -, -⟩ := J
  have F := T.2.2
  obtain ⟨q1, hq1⟩ := ho
  obtain ⟨q2, hq2⟩ := hd
  exact ⟨th2, y2, l2, ea2, fa2, so2, txl2, lnl2, tx2, tn2, lf2, ln2, ((F 0 (by omega)).trans (f1 0 (by omega) (by omega) (by omega))).trans h0, hc.frame (fun k _ _ => F k (by omega)), T.1, ⟨q1, (F _ (by omega)).trans hq1⟩, ⟨q2, (F _ (by omega)).trans hq2⟩, ok⟩
end
theorem cmp_self (a : Int64) : lg_cmp a a = 0 := by
  unfold lg_cmp
  simp
end JT
