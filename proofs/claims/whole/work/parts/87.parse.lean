section PQ
def fwL : List (List Int32) := [mSt30 ++ [32], mSt31 ++ [32], mSt32 ++ [32], mSt33 ++ [32], mSt34, mSt35 ++ [32], mSt36, mSt37]
def fwd (c : Nat) : List Int32 := fwL.getD c []
def kwd (c : Nat) : List Int32 := kwL.getD c []
def kdf (c c' : Nat) : Bool := (List.range 7).any fun i => decide (i < (kwd c).length) && (decide (i < (fwd c').length) && !decide ((kwd c).getD i 0 = (fwd c').getD i 0))
theorem kdf_ok : ∀ c, c < 8 → ∀ c', c' < 8 → c ≠ c' → kdf c c' = true := by decide
theorem kfw : ∀ c, c < 8 → (msL c = [] ∧ fwd c = kwd c) ∨ (msL c ≠ [] ∧ fwd c = kwd c ++ [32]) := by decide
theorem fwd_len : ∀ c, c < 8 → waN c + (fwd c).length = waN (c + 1) ∧ (kwd c).length ≤ (fwd c).length ∧ 0 < (kwd c).length ∧ (fwd c).length ≤ 7 ∧ 4 ≤ (kwd c).length := by decide
theorem fwd_let : ∀ c, c < 8 → ∀ i, i < 7 → i < (fwd c).length → (fwd c).getD i 0 = wdF (waN c + i) := by decide
section
variable {t : Nat → Int32} {e h : Nat}
theorem cAl_pre : ∀ {l : List Int32} {n h : Nat}, n ≤ cAl t e l h ↔ n ≤ l.length ∧ cPre t e l h n
  | [], n, h => by
    constructor
    · intro q
      have q : n ≤ 0 := q
      exact ⟨q, fun i hi => absurd hi (by omega)⟩
    · intro q; exact q.1
  | x :: r, 0, h => ⟨fun _ => ⟨Nat.zero_le _, fun i hi => absurd hi (Nat.not_lt_zero i)⟩, fun _ => Nat.zero_le _⟩
  | x :: r, m + 1, h => by
    have ih := cAl_pre (l := r) (n := m) (h := h + 1)
    unfold cAl
    by_cases z : sgn t e h = x
    · rw [if_pos z]
      constructor
      · intro q
        obtain ⟨h1, h2⟩ := ih.mp (by omega)
        refine ⟨by rw [List.length_cons]; omega, fun i hi => ?_⟩
        cases i with
        | zero => exact z
        | succ i =>
          have := h2 i (by omega)
          rw [show h + (i + 1) = h + 1 + i by omega, this]; rfl
      · intro ⟨h1, h2⟩
        rw [List.length_cons] at h1
        have := ih.mpr ⟨by omega, fun i hi => by
          have := h2 (i + 1) (by omega)
          rw [show h + 1 + i = h + (i + 1) by omega, this]; rfl⟩
        omega
    · rw [if_neg z]
      exact ⟨fun q => absurd q (by omega), fun q => absurd (q.2 0 (by omega)) z⟩
theorem al_fwd {c : Nat} (hc : c < 8) : ∀ {n : Nat}, al t e h c n = true ↔ n ≤ cAl t e (fwd c) h
  | 0 => ⟨fun _ => Nat.zero_le _, fun _ => rfl⟩
  | n + 1 => by
    have ih := al_fwd hc (n := n)
    obtain ⟨hl, -, -, h7, -⟩ := fwd_len c hc
    have e1 : al t e h c (n + 1) = (al t e h c n && (decide (waN c + n < waN (c + 1)) && decide (wdF (waN c + n) = sgn t e (h + n)))) := rfl
    rw [e1, Bool.and_eq_true, Bool.and_eq_true, decide_eq_true_iff, decide_eq_true_iff, ih, cAl_pre, cAl_pre]
    constructor
    · intro ⟨⟨h1, h2⟩, h3, h4⟩
      refine ⟨by omega, fun i hi => ?_⟩
      rcases Nat.lt_or_ge i n with q | q
      · exact h2 i q
      · obtain rfl : i = n := by omega
        rw [fwd_let c hc i (by omega) (by omega), h4]
    · intro ⟨h1, h2⟩
      refine ⟨⟨by omega, fun i hi => h2 i (by omega)⟩, by omega, ?_⟩
      rw [h2 n (by omega), fwd_let c hc n (by omega) (by omega)]
theorem cAl_app {x : Int32} : ∀ {l : List Int32} {h : Nat}, cAl t e (l ++ [x]) h = if cAl t e l h = l.length then (if sgn t e (h + l.length) = x then l.length + 1 else l.length) else cAl t e l h
  | [], h => by
    show (if sgn t e h = x then 0 + 1 else 0) = (if (0 : Nat) = 0 then (if sgn t e (h + 0) = x then 0 + 1 else 0) else 0)
    rw [if_pos rfl]; rfl
  | a :: r, h => by
    have ih := cAl_app (l := r) (h := h + 1) (x := x)
    show (if sgn t e h = a then cAl t e (r ++ [x]) (h + 1) + 1 else 0) = (if (if sgn t e h = a then cAl t e r (h + 1) + 1 else 0) = (a :: r).length then (if sgn t e (h + (a :: r).length) = x then (a :: r).length + 1 else (a :: r).length) else (if sgn t e h = a then cAl t e r (h + 1) + 1 else 0))
    rw [List.length_cons, show h + (r.length + 1) = h + 1 + r.length by omega]
    by_cases z : sgn t e h = a
    · rw [if_pos z, if_pos z, ih]
      by_cases q : cAl t e r (h + 1) = r.length
      · rw [if_pos q, if_pos (show cAl t e r (h + 1) + 1 = r.length + 1 by omega)]
        split <;> rfl
      · rw [if_neg q, if_neg (show ¬ cAl t e r (h + 1) + 1 = r.length + 1 by omega)]
    · rw [if_neg z, if_neg z, if_neg (show ¬ (0 : Nat) = r.length + 1 by omega)]
/-- a word that stands there whole leaves none of the others as long -/
theorem only {c c' : Nat} (hc : c < 8) (hc' : c' < 8) (hne : c ≠ c') (hB : cAl t e (kwd c) h = (kwd c).length) : cAl t e (fwd c') h < (kwd c).length := by
  have hd := kdf_ok c hc c' hc' hne
  unfold kdf at hd
  rw [List.any_eq_true] at hd
  obtain ⟨i, hi, hq⟩ := hd
  rw [Bool.and_eq_true, Bool.and_eq_true, decide_eq_true_iff, decide_eq_true_iff, Bool.not_eq_true', decide_eq_false_iff_not] at hq
  obtain ⟨h1, h2, h3⟩ := hq
  rcases Nat.lt_or_ge i (cAl t e (fwd c') h) with q | q
  · exfalso
    have e1 := (cAl_pre (t := t) (e := e) (l := fwd c') (h := h)).mp q
    have e2 := (cAl_pre (t := t) (e := e) (l := kwd c) (h := h)).mp (Nat.le_of_eq hB.symm)
    exact h3 ((e2.2 i h1).symm.trans (e1.2 i (Nat.lt_succ_self i)))
  · omega
theorem fwd_cAl {c : Nat} (hc : c < 8) : (¬ cAl t e (kwd c) h = (kwd c).length → cAl t e (fwd c) h = cAl t e (kwd c) h) ∧ (cAl t e (kwd c) h = (kwd c).length → fwd c = kwd c ++ [32] → cAl t e (fwd c) h = if sgn t e (h + (kwd c).length) = 32 then (kwd c).length + 1 else (kwd c).length) := by
  refine ⟨fun z => ?_, fun z q => ?_⟩
  · rcases kfw c hc with ⟨-, q⟩ | ⟨-, q⟩
    · rw [q]
    · rw [q, cAl_app, if_neg z]
  · rw [q, cAl_app, if_pos z]
theorem finO_none {n : Nat} : ∀ {m : Nat}, finO t e h n m = none → ∀ c, c < m → ¬ (al t e h c n = true ∧ waN c + n = waN (c + 1))
  | 0, _, c, hc => absurd hc (Nat.not_lt_zero c)
  | m + 1, q, c, hc => by
    unfold finO at q
    split at q
    · cases q
    · rename_i z
      rcases Nat.lt_or_ge c m with r | r
      · exact finO_none q c r
      · obtain rfl : c = m := by omega
        intro ⟨h1, h2⟩
        exact z (by rw [h1, decide_eq_true h2]; rfl)
theorem anyA_in {n m c : Nat} (hc : c < m) (ha : al t e h c n = true) : anyA t e h n m = true := by
  cases q : anyA t e h n m with
  | true => rfl
  | false => rw [anyA_no q c hc] at ha; cases ha
theorem wordR_c {c : Nat} (hc : c < 8) (hB : cAl t e (kwd c) h = (kwd c).length) (hA : cAl t e (fwd c) h = (fwd c).length) : ∀ (k n : Nat), n < (fwd c).length → (fwd c).length ≤ n + k → wordR t e h k n = (some c, (fwd c).length)
  | 0, n, h1, h2 => absurd h2 (by omega)
  | k + 1, n, h1, h2 => by
    obtain ⟨hl, hkf, hk0, h7, -⟩ := fwd_len c hc
    have h3 : anyA t e h (n + 1) 8 = true := anyA_in hc ((al_fwd hc).mpr (by omega))
    show (if anyA t e h (n + 1) 8 = true then (match finO t e h (n + 1) 8 with
      | some c => (some c, n + 1)
      | none => wordR t e h k (n + 1)) else (none, n)) = _
    rw [if_pos h3]
    cases q : finO t e h (n + 1) 8 with
    | some c1 =>
      have hc1 := finO_lt q
      obtain ⟨a1, a2⟩ := finO_al q
      have a3 := (al_fwd hc1).mp a1
      obtain ⟨hl1, hkf1, hk01, -, -⟩ := fwd_len c1 hc1
      have hcc : c1 = c := by
        by_cases z : c1 = c
        · exact z
        · exfalso
          have b1 := only hc hc1 (Ne.symm z) hB
          have b2 : cAl t e (kwd c1) h = (kwd c1).length := by
            by_cases y : cAl t e (kwd c1) h = (kwd c1).length
            · exact y
            · have y1 := (fwd_cAl hc1).1 y
              have y2 := cAl_le (t := t) (e := e) (l := kwd c1) (h := h)
              omega
          have b3 := only hc1 hc z b2
          omega
      subst hcc
      show (some c1, n + 1) = _
      rw [show n + 1 = (fwd c1).length by omega]
    | none =>
      have := finO_none q c hc
      refine wordR_c hc hB hA k (n + 1) ?_ (by omega)
      rcases Nat.lt_or_ge (n + 1) (fwd c).length with z | z
      · exact z
      · exact absurd ⟨(al_fwd hc).mpr (by omega), by omega⟩ this
theorem wordR_n {M : Nat} (hn : ∀ c, c < 8 → cAl t e (fwd c) h < (fwd c).length) (hM : ∀ c, c < 8 → cAl t e (fwd c) h ≤ M) (hex : M = 0 ∨ ∃ c, c < 8 ∧ cAl t e (fwd c) h = M) : ∀ (k n : Nat), n ≤ M → M ≤ n + k → wordR t e h k n = (none, M)
  | 0, n, h1, h2 => by
    obtain rfl : n = M := by omega
    rfl
  | k + 1, n, h1, h2 => by
    show (if anyA t e h (n + 1) 8 = true then (match finO t e h (n + 1) 8 with
      | some c => (some c, n + 1)
      | none => wordR t e h k (n + 1)) else (none, n)) = _
    by_cases z : anyA t e h (n + 1) 8 = true
    · rw [if_pos z]
      obtain ⟨c, hc, ha⟩ := anyA_ex z
      have a3 := (al_fwd hc).mp ha
      have a4 := hM c hc
      cases q : finO t e h (n + 1) 8 with
      | some c1 =>
        have hc1 := finO_lt q
        obtain ⟨a1, a2⟩ := finO_al q
        have a5 := (al_fwd hc1).mp a1
        have a6 := hn c1 hc1
        obtain ⟨hl1, -⟩ := fwd_len c1 hc1
        omega
      | none => exact wordR_n hn hM hex k (n + 1) (by omega) (by omega)
    · rw [if_neg z]
      rcases Nat.lt_or_ge n M with y | y
      · exfalso
        rcases hex with rfl | ⟨c, hc, hcM⟩
        · omega
        · exact z (anyA_in hc ((al_fwd hc).mpr (by omega)))
      · rw [show n = M by omega]
theorem cKey_i : ∀ {ws : List (List Int32)} {c lg i : Nat}, i < ws.length → (∀ j, j < i → ¬ cAl t e (ws.getD j []) h = (ws.getD j []).length) → cAl t e (ws.getD i []) h = (ws.getD i []).length → cKey t e h ws c lg = (some (c + i), h + (ws.getD i []).length)
  | [], c, lg, i, hi, _, _ => absurd hi (Nat.not_lt_zero i)
  | w :: r, c, lg, 0, hi, hn, hy => cKey_p hy
  | w :: r, c, lg, i + 1, hi, hn, hy => by
    have h0 : ¬ cAl t e w h = w.length := hn 0 (by omega)
    rw [cKey_n h0, cKey_i (ws := r) (i := i) (by rw [List.length_cons] at hi; omega) (fun j hj => hn (j + 1) (by omega)) hy, show c + 1 + i = c + (i + 1) by omega]
    rfl
theorem cKey_none : ∀ {ws : List (List Int32)} {c lg : Nat}, (∀ j, j < ws.length → ¬ cAl t e (ws.getD j []) h = (ws.getD j []).length) → ∃ M, cKey t e h ws c lg = (none, h + M) ∧ lg ≤ M ∧ (∀ j, j < ws.length → cAl t e (ws.getD j []) h ≤ M) ∧ (M = lg ∨ ∃ j, j < ws.length ∧ cAl t e (ws.getD j []) h = M)
  | [], c, lg, _ => ⟨lg, cKey_0, Nat.le_refl _, fun j hj => absurd hj (Nat.not_lt_zero j), Or.inl rfl⟩
  | w :: r, c, lg, hn => by
    obtain ⟨M, h1, h2, h3, h4⟩ := cKey_none (ws := r) (c := c + 1) (lg := max lg (cAl t e w h)) (fun j hj => hn (j + 1) (by rw [List.length_cons]; omega))
    have h0 : ¬ cAl t e w h = w.length := hn 0 (by rw [List.length_cons]; omega)
    have hle : lg ≤ M ∧ cAl t e w h ≤ M := by clear h4 h3 h1; omega
    refine ⟨M, by rw [cKey_n h0, h1], hle.1, fun j hj => ?_, ?_⟩
    · cases j with
      | zero => exact hle.2
      | succ j => exact h3 j (by rw [List.length_cons] at hj; omega)
    · rcases h4 with h4 | ⟨j, hj, h4⟩
      · rcases Nat.le_total lg (cAl t e w h) with z | z
        · exact Or.inr ⟨0, by rw [List.length_cons]; omega, by show cAl t e w h = M; omega⟩
        · exact Or.inl (by omega)
      · exact Or.inr ⟨j + 1, by rw [List.length_cons]; omega, h4⟩
end
def cmdEq (c c' : cmdT) : Prop := (∀ y, cmdFlt y c = cmdFlt y c') ∧ ∀ y, cmdDo y c = cmdDo y c'
def RelC (a b : Option cmdT × Nat) : Prop := (∃ k, a = (none, k) ∧ b = (none, k)) ∨ ∃ c c' k, a = (some c, k) ∧ b = (some c', k) ∧ cmdEq c c'
theorem RelC.no {k : Nat} : RelC (none, k) (none, k) := Or.inl ⟨k, rfl, rfl⟩
theorem RelC.yes {k : Nat} {c c' : cmdT} (h : cmdEq c c') : RelC (some c, k) (some c', k) := Or.inr ⟨c, c', k, rfl, rfl, h⟩
section
variable {t : Nat → Int32} {e h : Nat}
theorem ce0 {a b c b' c' : Int32} : cmdEq (0, a, b, c) (0, a, b', c') := ⟨fun y => Eq.trans (b := fltEntry y.2.2.2.1 a) rfl rfl, fun y => Eq.trans (b := (y.1, upd y.2.1 y.2.2.2.1 a, upd y.2.2.1 y.2.2.2.1 0, y.2.2.2.1 + 1, y.2.2.2.2)) rfl rfl⟩
theorem ce2 {a b c c' : Int32} : cmdEq (2, a, b, c) (2, a, b, c') := ⟨fun y => Eq.trans (b := fltPile y.1.1 a b) rfl rfl, fun y => Eq.trans (b := sPile y a.toNatClampNeg b) rfl rfl⟩
theorem ce3 {a b c c' : Int32} : cmdEq (3, a, b, c) (3, a, b, c') := ⟨fun y => Eq.trans (b := fltTake y.1.1 y.1.2.1 y.2.2.2.1 a b) rfl rfl, fun y => Eq.trans (b := sTake y a.toNatClampNeg b.toNatClampNeg) rfl rfl⟩
theorem ce4 {a b c a' b' c' : Int32} : cmdEq (4, a, b, c) (4, a', b', c') := ⟨fun y => Eq.trans (b := 1000010) rfl rfl, fun y => Eq.trans (b := (y.1, y.2.1, sPass y.2.2.1 (-1) y.2.2.2.1, y.2.2.2.1, y.2.2.2.2)) rfl rfl⟩
theorem ce5 {a b c b' c' : Int32} : cmdEq (5, a, b, c) (5, a, b', c') := ⟨fun y => Eq.trans (b := fltSlope a) rfl rfl, fun y => Eq.trans (b := sSlope y a) rfl rfl⟩
theorem ce6 {a b c a' b' c' : Int32} : cmdEq (6, a, b, c) (6, a', b', c') := ⟨fun y => Eq.trans (b := 1000010) rfl rfl, fun y => Eq.trans (b := sBorder y 1) rfl rfl⟩
theorem ce7 {a b c a' b' c' : Int32} : cmdEq (7, a, b, c) (7, a', b', c') := ⟨fun y => Eq.trans (b := 1000010) rfl rfl, fun y => Eq.trans (b := sBorder y 0) rfl rfl⟩
theorem cArgs_1 {m g k : Nat} {ms : List Nat} {c : cmdT} {v : Int32} (hb : pBeh t e h m = (some v, k)) : cArgs t e (m :: ms) g c h = cArgs t e ms (g + 1) (setA c g v) k := by
  unfold cArgs
  rw [hb]
  cases ms <;> rfl
theorem cArgs_2 {m g k : Nat} {ms : List Nat} {c : cmdT} (hb : pBeh t e h m = (none, k)) : cArgs t e (m :: ms) g c h = (none, k) := by
  unfold cArgs
  rw [hb]
theorem args_eq {a b c : Int32} (hs : sgn t e h = 32) : ∀ w, w < 8 → msL w ≠ [] → RelC (cArgs t e (msL w) 0 (w, a, b, c) h) (pArgs t e w (h + 1))
  | 0, _, _ => by
    show RelC (cArgs t e [2] 0 (0, a, b, c) h) (match pDig t e (h + 1) 2 with
    | (some a, k) => (some (0, a, 0, 0), k)
    | (none, k) => (none, k))
    rcases hq : pDig t e (h + 1) 2 with ⟨_ | v, k⟩
    · rw [cArgs_2 ((pBeh_yes hs).trans hq)]; exact RelC.no
    · rw [cArgs_1 ((pBeh_yes hs).trans hq)]; exact RelC.yes ce0
  | 1, _, _ => by
    show RelC (cArgs t e [1, 2, 1] 0 (1, a, b, c) h) (match pDig t e (h + 1) 1 with
    | (some a, k) => (match pBeh t e k 2 with
      | (some b, k2) => (match pBeh t e k2 1 with
        | (some c, k3) => (some (1, a, b, c), k3)
        | (none, k3) => (none, k3))
      | (none, k2) => (none, k2))
    | (none, k) => (none, k))
    rcases hq : pDig t e (h + 1) 1 with ⟨_ | v, k⟩
    · rw [cArgs_2 ((pBeh_yes hs).trans hq)]; exact RelC.no
    · rw [cArgs_1 ((pBeh_yes hs).trans hq)]
      dsimp only
      rcases hq2 : pBeh t e k 2 with ⟨_ | v2, k2⟩
      · rw [cArgs_2 hq2]; exact RelC.no
      · rw [cArgs_1 hq2]
        dsimp only
        rcases hq3 : pBeh t e k2 1 with ⟨_ | v3, k3⟩
        · rw [cArgs_2 hq3]; exact RelC.no
        · rw [cArgs_1 hq3]; exact RelC.yes ⟨fun _ => rfl, fun _ => rfl⟩
  | 2, _, _ => by
    show RelC (cArgs t e [2, 1] 0 (2, a, b, c) h) (match pDig t e (h + 1) 2 with
    | (some a, k) => (match pBeh t e k 1 with
      | (some b, k2) => (some (2, a, b, 0), k2)
      | (none, k2) => (none, k2))
    | (none, k) => (none, k))
    rcases hq : pDig t e (h + 1) 2 with ⟨_ | v, k⟩
    · rw [cArgs_2 ((pBeh_yes hs).trans hq)]; exact RelC.no
    · rw [cArgs_1 ((pBeh_yes hs).trans hq)]
      dsimp only
      rcases hq2 : pBeh t e k 1 with ⟨_ | v2, k2⟩
      · rw [cArgs_2 hq2]; exact RelC.no
      · rw [cArgs_1 hq2]; exact RelC.yes ce2
  | 3, _, _ => by
    show RelC (cArgs t e [1, 2] 0 (3, a, b, c) h) (match pDig t e (h + 1) 1 with
    | (some a, k) => (match pBeh t e k 2 with
      | (some b, k2) => (some (3, a, b, 0), k2)
      | (none, k2) => (none, k2))
    | (none, k) => (none, k))
    rcases hq : pDig t e (h + 1) 1 with ⟨_ | v, k⟩
    · rw [cArgs_2 ((pBeh_yes hs).trans hq)]; exact RelC.no
    · rw [cArgs_1 ((pBeh_yes hs).trans hq)]
      dsimp only
      rcases hq2 : pBeh t e k 2 with ⟨_ | v2, k2⟩
      · rw [cArgs_2 hq2]; exact RelC.no
      · rw [cArgs_1 hq2]; exact RelC.yes ce3
  | 4, _, z => absurd rfl z
  | 5, _, _ => by
    show RelC (cArgs t e [1] 0 (5, a, b, c) h) (match pDig t e (h + 1) 1 with
    | (some a, k) => (some (5, a, 0, 0), k)
    | (none, k) => (none, k))
    rcases hq : pDig t e (h + 1) 1 with ⟨_ | v, k⟩
    · rw [cArgs_2 ((pBeh_yes hs).trans hq)]; exact RelC.no
    · rw [cArgs_1 ((pBeh_yes hs).trans hq)]; exact RelC.yes ce5
  | 6, _, z => absurd rfl z
  | 7, _, z => absurd rfl z
theorem args_eq0 {a b c : Int32} : ∀ w, w < 8 → msL w = [] → RelC (cArgs t e (msL w) 0 (w, a, b, c) h) (pArgs t e w h)
  | 0, _, z => absurd z (by decide)
  | 1, _, z => absurd z (by decide)
  | 2, _, z => absurd z (by decide)
  | 3, _, z => absurd z (by decide)
  | 4, _, _ => by
    show RelC (some (4, a, b, c), h) (some (4, 0, 0, 0), h)
    exact RelC.yes ce4
  | 5, _, z => absurd z (by decide)
  | 6, _, _ => by
    show RelC (some (6, a, b, c), h) (some (6, 0, 0, 0), h)
    exact RelC.yes ce6
  | 7, _, _ => by
    show RelC (some (7, a, b, c), h) (some (7, 0, 0, 0), h)
    exact RelC.yes ce7
theorem cArgs_no {ms : List Nat} {g : Nat} {c : cmdT} (hm : ms ≠ []) (hs : ¬ sgn t e h = 32) : cArgs t e ms g c h = (none, h) := by
  cases ms with
  | nil => exact absurd rfl hm
  | cons m ms =>
    unfold cArgs
    rw [pBeh_no hs]
theorem pCmd_w {c n : Nat} (hw : wordR t e h 8 0 = (some c, n)) : pCmd t e h = pArgs t e c (h + n) := by
  unfold pCmd pWord
  rw [hw]
theorem pCmd_x {n : Nat} (hw : wordR t e h 8 0 = (none, n)) : pCmd t e h = (none, h + n) := by
  unfold pCmd pWord
  rw [hw]
theorem cmd_eq {c0 : cmdT} : RelC (cCmd t e h c0) (pCmd t e h) := by
  by_cases z : ∃ c, c < 8 ∧ cAl t e (kwd c) h = (kwd c).length
  · obtain ⟨c, hc, hB⟩ := z
    obtain ⟨hl, hkf, hk0, h7, -⟩ := fwd_len c hc
    have hk : cKey t e h kwL 0 0 = (some c, h + (kwd c).length) := by
      have := cKey_i (t := t) (e := e) (h := h) (ws := kwL) (c := 0) (lg := 0) (i := c) hc (fun j hj q => by
        have h1 := only (t := t) (e := e) (h := h) hc (show j < 8 by omega) (show c ≠ j by omega) hB
        have h2 : cAl t e (kwd j) h = (kwd j).length := q
        have h3 := only (t := t) (e := e) (h := h) (show j < 8 by omega) hc (show j ≠ c by omega) h2
        have h4 := cAl_pre.mpr (⟨hkf, fun i hi => by
          have := (cAl_pre (t := t) (e := e) (l := kwd c) (h := h)).mp (Nat.le_of_eq hB.symm)
          rw [this.2 i hi]
          rcases kfw c hc with ⟨-, y⟩ | ⟨-, y⟩
          · rw [y]
          · rw [y, List.getD_eq_getElem?_getD, List.getD_eq_getElem?_getD, List.getElem?_append_left hi]⟩ : (kwd c).length ≤ (fwd c).length ∧ cPre t e (fwd c) h (kwd c).length)
        have hkj := (fwd_len j (by omega)).2.1
        have h5 := cAl_pre.mpr (⟨hkj, fun i hi => by
          have := (cAl_pre (t := t) (e := e) (l := kwd j) (h := h)).mp (Nat.le_of_eq h2.symm)
          rw [this.2 i hi]
          rcases kfw j (by omega) with ⟨-, y⟩ | ⟨-, y⟩
          · rw [y]
          · rw [y, List.getD_eq_getElem?_getD, List.getD_eq_getElem?_getD, List.getElem?_append_left hi]⟩ : (kwd j).length ≤ (fwd j).length ∧ cPre t e (fwd j) h (kwd j).length)
        omega) hB
      rw [Nat.zero_add] at this
      exact this
    have e1 : cCmd t e h c0 = cArgs t e (msL c) 0 (c, c0.2) (h + (kwd c).length) := by
      unfold cCmd
      rw [hk]
    rw [e1]
    rcases kfw c hc with ⟨hm, y⟩ | ⟨hm, y⟩
    · have hw := wordR_c (t := t) (e := e) (h := h) hc hB (by rw [y]; exact hB) 8 0 (by omega) (by omega)
      rw [pCmd_w hw, y]
      exact args_eq0 c hc hm
    · have hf : (fwd c).length = (kwd c).length + 1 := by rw [y, List.length_append]; rfl
      have hA := (fwd_cAl hc).2 hB y
      by_cases hs : sgn t e (h + (kwd c).length) = 32
      · rw [if_pos hs] at hA
        have hw := wordR_c (t := t) (e := e) (h := h) hc hB (hA.trans hf.symm) 8 0 (by omega) (by omega)
        rw [pCmd_w hw, hf]
        exact args_eq hs c hc hm
      · rw [if_neg hs] at hA
        have hw := wordR_n (t := t) (e := e) (h := h) (M := (kwd c).length) (fun c' hc' => by
          by_cases q : c' = c
          · subst q; omega
          · have h1 := only (t := t) (e := e) (h := h) hc hc' (Ne.symm q) hB
            rcases Nat.lt_or_ge (cAl t e (fwd c') h) (fwd c').length with r | r
            · exact r
            · exfalso
              have hle := (fwd_len c' hc').2.1
              have h2 : cAl t e (kwd c') h = (kwd c').length := by
                by_cases u : cAl t e (kwd c') h = (kwd c').length
                · exact u
                · have u1 := (fwd_cAl hc').1 u
                  have u2 := cAl_le (t := t) (e := e) (l := kwd c') (h := h)
                  omega
              have h3 := only (t := t) (e := e) (h := h) hc' hc q h2
              omega) (fun c' hc' => by
          by_cases q : c' = c
          · subst q; omega
          · exact Nat.le_of_lt (only hc hc' (Ne.symm q) hB)) (Or.inr ⟨c, hc, hA⟩) 8 0 (Nat.zero_le _) (by omega)
        rw [pCmd_x hw, cArgs_no hm hs]
        exact RelC.no
  · have hno : ∀ c, c < 8 → ¬ cAl t e (kwd c) h = (kwd c).length := fun c hc q => z ⟨c, hc, q⟩
    have hAB : ∀ c, c < 8 → cAl t e (fwd c) h = cAl t e (kwd c) h := fun c hc => (fwd_cAl hc).1 (hno c hc)
    obtain ⟨M, h1, -, h3, h4⟩ := cKey_none (t := t) (e := e) (h := h) (ws := kwL) (c := 0) (lg := 0) (fun j hj => hno j hj)
    have e1 : cCmd t e h c0 = (none, h + M) := by
      unfold cCmd
      rw [h1]
    have hlt : ∀ c, c < 8 → cAl t e (fwd c) h < (fwd c).length := fun c hc => by
      have a1 := hno c hc
      have a2 := cAl_le (t := t) (e := e) (l := kwd c) (h := h)
      have a3 := (fwd_len c hc).2.1
      rw [hAB c hc]
      omega
    have hM : ∀ c, c < 8 → cAl t e (fwd c) h ≤ M := fun c hc => by rw [hAB c hc]; exact h3 c hc
    have hex : M = 0 ∨ ∃ c, c < 8 ∧ cAl t e (fwd c) h = M := by
      rcases h4 with h4 | ⟨j, hj, h4⟩
      · exact Or.inl h4
      · exact Or.inr ⟨j, hj, (hAB j hj).trans h4⟩
    have hM8 : M ≤ 8 := by
      rcases hex with rfl | ⟨c, hc, hcM⟩
      · decide
      · have := hlt c hc
        have := (fwd_len c hc).2.2.2.1
        omega
    rw [e1, pCmd_x (wordR_n hlt hM hex 8 0 (Nat.zero_le _) (by omega))]
    exact RelC.no
/-- a command has at least four signs -/
theorem pDig_ge {m k : Nat} {v : Int32} (q : pDig t e h m = (some v, k)) : h ≤ k := by
  unfold pDig at q
  split at q
  · split at q <;> (cases q; omega)
  · cases q
theorem pBeh_ge {m k : Nat} {v : Int32} (q : pBeh t e h m = (some v, k)) : h ≤ k := by
  unfold pBeh at q
  split at q
  · have := pDig_ge q; omega
  · cases q
end
theorem cArgs_ge {t : Nat → Int32} {e : Nat} : ∀ {ms : List Nat} {g h k : Nat} {c c' : cmdT}, cArgs t e ms g c h = (some c', k) → h ≤ k
  | [], g, h, k, c, c', q => by cases q; exact Nat.le_refl _
  | m :: ms, g, h, k, c, c', q => by
    unfold cArgs at q
    split at q
    · rename_i hb
      have h1 := pBeh_ge hb
      have h2 := cArgs_ge q
      omega
    · cases q
theorem cKey_ge {t : Nat → Int32} {e h : Nat} : ∀ {ws : List (List Int32)} {c lg i k : Nat}, (∀ w ∈ ws, 4 ≤ w.length) → cKey t e h ws c lg = (some i, k) → h + 4 ≤ k
  | [], c, lg, i, k, _, q => by cases q
  | w :: r, c, lg, i, k, hw, q => by
    by_cases z : cAl t e w h = w.length
    · rw [cKey_p z] at q
      cases q
      have := hw w List.mem_cons_self
      omega
    · rw [cKey_n z] at q
      exact cKey_ge (fun x hx => hw x (List.mem_cons_of_mem _ hx)) q
theorem cCmd_ge {t : Nat → Int32} {e h k : Nat} {c0 c : cmdT} (q : cCmd t e h c0 = (some c, k)) : h + 4 ≤ k := by
  unfold cCmd at q
  split at q
  · rename_i hk
    have h1 := cKey_ge (by decide) hk
    have h2 := cArgs_ge q
    omega
  · cases q
def LEq : List cmdT → List cmdT → Prop
  | [], [] => True
  | c :: l, c' :: l' => cmdEq c c' ∧ LEq l l'
  | _, _ => False
theorem LEq.len : ∀ {l l' : List cmdT}, LEq l l' → l.length = l'.length
  | [], [], _ => rfl
  | c :: l, c' :: l', h => by rw [List.length_cons, List.length_cons, LEq.len h.2]
  | [], _ :: _, h => h.elim
  | _ :: _, [], h => h.elim
theorem LEq.ex : ∀ {l l' : List cmdT} {y : sv}, LEq l l' → exL l y = exL l' y
  | [], [], _, _ => rfl
  | c :: l, c' :: l', y, h => by
    unfold exL
    rw [h.1.1 y, h.1.2 y, LEq.ex h.2]
  | [], _ :: _, _, h => h.elim
  | _ :: _, [], _, h => h.elim
def RelL (a b : Option (List cmdT) × Nat) : Prop := (∃ k, a = (none, k) ∧ b = (none, k)) ∨ ∃ l l' k, a = (some l, k) ∧ b = (some l', k) ∧ LEq l l'
/-- a command and what follows, as the reference reads it -/
def pFrom (t : Nat → Int32) (e g h : Nat) : Option (List cmdT) × Nat := match pCmd t e h with
  | (some c, k2) => (match pRest t e g k2 with
    | (some l, k3) => (some (c :: l), k3)
    | (none, k3) => (none, k3))
  | (none, k2) => (none, k2)
theorem pFrom_all {t : Nat → Int32} {e : Nat} : pFrom t e 61 0 = pAll t e := rfl
theorem pFrom_n {t : Nat → Int32} {e g h k : Nat} (q : pCmd t e h = (none, k)) : pFrom t e g h = (none, k) := by
  unfold pFrom; rw [q]
theorem pFrom_s {t : Nat → Int32} {e g h k : Nat} {c : cmdT} (q : pCmd t e h = (some c, k)) : pFrom t e g h = (match pRest t e g k with
    | (some l, k3) => (some (c :: l), k3)
    | (none, k3) => (none, k3)) := by
  unfold pFrom; rw [q]
theorem pRest_go {t : Nat → Int32} {e g h : Nat} (hh : h < e) (hs : sgn t e h = 59) : pRest t e (g + 1) h = pFrom t e g (h + 1) := (if_pos hh).trans (if_pos hs)
theorem cCmd_end {t : Nat → Int32} {e h : Nat} {c0 : cmdT} (hh : e ≤ h) : cCmd t e h c0 = (none, h) := by
  have hs : sgn t e h = -1 := sgn_out hh
  unfold cCmd
  have : cKey t e h kwL 0 0 = (none, h) := by
    have h0 : ∀ {x : Int32} {r : List Int32}, ¬ (-1 : Int32) = x → cAl t e (x :: r) h = 0 := fun hx => by unfold cAl; rw [if_neg (by rw [hs]; exact hx)]
    obtain ⟨M, h1, -, h3, h4⟩ := cKey_none (t := t) (e := e) (h := h) (ws := kwL) (c := 0) (lg := 0) (fun j hj => by
      have e0 : cAl t e (kwL.getD j []) h = 0 := by
        match j, hj with
        | 0, _ => exact h0 (by decide)
        | 1, _ => exact h0 (by decide)
        | 2, _ => exact h0 (by decide)
        | 3, _ => exact h0 (by decide)
        | 4, _ => exact h0 (by decide)
        | 5, _ => exact h0 (by decide)
        | 6, _ => exact h0 (by decide)
        | 7, _ => exact h0 (by decide)
      rw [e0]
      have := (fwd_len j hj).2.2.1
      exact fun q => absurd this (by show ¬ 0 < (kwL.getD j []).length; omega))
    have hM0 : M = 0 := by
      rcases h4 with h4 | ⟨j, hj, h4⟩
      · exact h4
      · rw [← h4]
        match j, hj with
        | 0, _ => exact h0 (by decide)
        | 1, _ => exact h0 (by decide)
        | 2, _ => exact h0 (by decide)
        | 3, _ => exact h0 (by decide)
        | 4, _ => exact h0 (by decide)
        | 5, _ => exact h0 (by decide)
        | 6, _ => exact h0 (by decide)
        | 7, _ => exact h0 (by decide)
    rw [h1, hM0]; rfl
  rw [this]
end PQ
