section PQ2
theorem pDig_le {t : Nat → Int32} {e h m k : Nat} {v : Int32} (q : pDig t e h m = (some v, k)) : k ≤ e := by
  unfold pDig at q
  split at q
  · rename_i z
    have h1 := dg_in z
    split at q
    · rename_i y
      have h2 := dg_in y.2
      cases q; omega
    · cases q; omega
  · cases q
theorem pBeh_le {t : Nat → Int32} {e h m k : Nat} {v : Int32} (q : pBeh t e h m = (some v, k)) : k ≤ e := by
  unfold pBeh at q
  split at q
  · exact pDig_le q
  · cases q
theorem cArgs_le {t : Nat → Int32} {e : Nat} : ∀ {ms : List Nat} {g h k : Nat} {c c' : cmdT}, h ≤ e → cArgs t e ms g c h = (some c', k) → k ≤ e
  | [], g, h, k, c, c', hh, q => by cases q; exact hh
  | m :: ms, g, h, k, c, c', hh, q => by
    rcases hq : pBeh t e h m with ⟨_ | v, k2⟩
    · rw [cArgs_2 hq] at q; cases q
    · rw [cArgs_1 hq] at q
      exact cArgs_le (pBeh_le hq) q
theorem cCmd_le {t : Nat → Int32} {e h k : Nat} {c0 c : cmdT} (hh : h ≤ e) (q : cCmd t e h c0 = (some c, k)) : k ≤ e := by
  have hki := cKey_in (t := t) (e := e) (h := h) hh (ws := kwL) (c := 0) (lg := 0) kwL_ok hh
  unfold cCmd at q
  split at q
  · rename_i hk
    rw [hk] at hki
    exact cArgs_le hki.2 q
  · cases q
theorem all_eq {t : Nat → Int32} {e : Nat} {cs : Nat → cmdT} : ∀ (f n h g : Nat), h ≤ e → e ≤ h + 5 * f → e < h + g → RelL (cAllR t e cs f n h) (pFrom t e g h)
  | 0, n, h, g, h1, h2, h3 => by
    obtain rfl : h = e := by omega
    have hr := cmd_eq (t := t) (e := h) (h := h) (c0 := cs n)
    rw [cCmd_end (Nat.le_refl h)] at hr
    rcases hr with ⟨k, a, b⟩ | ⟨c, c', k, a, b, _⟩
    · cases a
      rw [pFrom_n b]
      exact Or.inl ⟨h, rfl, rfl⟩
    · cases a
  | f + 1, n, h, g, h1, h2, h3 => by
    rcases cmd_eq (t := t) (e := e) (h := h) (c0 := cs n) with ⟨k, a, b⟩ | ⟨c, c', k, a, b, hc⟩
    · rw [cAllR_n a, pFrom_n b]
      exact Or.inl ⟨k, rfl, rfl⟩
    · have h4 := cCmd_ge a
      have h5 := cCmd_le h1 a
      obtain ⟨g', rfl⟩ : ∃ g', g = g' + 1 := ⟨g - 1, by omega⟩
      rw [pFrom_s b]
      by_cases q : k = e
      · rw [cAllR_e a q, pRest_end (by omega)]
        exact Or.inr ⟨[c], [c'], k, rfl, rfl, hc, trivial⟩
      · by_cases s : sgn t e k = 59
        · rw [pRest_go (by omega) s]
          rcases all_eq (t := t) (e := e) (cs := cs) f (n + 1) (k + 1) g' (by omega) (by omega) (by omega) with ⟨k2, r1, r2⟩ | ⟨l, l', k2, r1, r2, r3⟩
          · rw [cAllR_d a q s r1, r2]
            exact Or.inl ⟨k2, rfl, rfl⟩
          · rw [cAllR_c a q s r1, r2]
            exact Or.inr ⟨c :: l, c' :: l', k2, rfl, rfl, hc, r3⟩
        · rw [cAllR_x a q s, pRest_sep (by omega) s]
          exact Or.inl ⟨k, rfl, rfl⟩
/-- the class's reader and the reference's -/
theorem read_eq {t : Nat → Int32} {e : Nat} {cs : Nat → cmdT} (he : e ≤ 60) : RelL (cAllR t e cs 12 0 0) (pAll t e) := by
  rw [← pFrom_all]
  exact all_eq 12 0 0 61 (Nat.zero_le _) (by omega) (by omega)
section
variable {t t' : Nat → Int32} {e : Nat}
theorem al_c (S : sgn t e = sgn t' e) {h c : Nat} : ∀ {n : Nat}, al t e h c n = al t' e h c n
  | 0 => rfl
  | n + 1 => by
    unfold al
    rw [al_c S, S]
theorem anyA_c (S : sgn t e = sgn t' e) {h n : Nat} : ∀ {c : Nat}, anyA t e h n c = anyA t' e h n c
  | 0 => rfl
  | c + 1 => by
    unfold anyA
    rw [anyA_c S, al_c S]
theorem finO_c (S : sgn t e = sgn t' e) {h n : Nat} : ∀ {c : Nat}, finO t e h n c = finO t' e h n c
  | 0 => rfl
  | c + 1 => by
    unfold finO
    rw [finO_c S, al_c S]
theorem wordR_c9 (S : sgn t e = sgn t' e) {h : Nat} : ∀ {k n : Nat}, wordR t e h k n = wordR t' e h k n
  | 0, n => rfl
  | k + 1, n => by
    unfold wordR
    rw [anyA_c S, finO_c S, wordR_c9 S]
theorem pDig_c (S : sgn t e = sgn t' e) : pDig t e = pDig t' e := by
  funext h m
  unfold pDig
  rw [S]
theorem pBeh_c (S : sgn t e = sgn t' e) : pBeh t e = pBeh t' e := by
  funext h m
  unfold pBeh
  rw [S, pDig_c S]
theorem pArgs_c (S : sgn t e = sgn t' e) {w h : Nat} : pArgs t e w h = pArgs t' e w h := by
  unfold pArgs
  simp only [pDig_c S, pBeh_c S]
theorem pCmd_c (S : sgn t e = sgn t' e) {h : Nat} : pCmd t e h = pCmd t' e h := by
  unfold pCmd pWord
  rw [wordR_c9 S]
  simp only [pArgs_c S]
theorem pRest_c (S : sgn t e = sgn t' e) : ∀ {k h : Nat}, pRest t e k h = pRest t' e k h
  | 0, h => rfl
  | k + 1, h => by
    unfold pRest
    simp only [pCmd_c S, pRest_c S, S]
theorem pAll_c (S : sgn t e = sgn t' e) : pAll t e = pAll t' e := by
  unfold pAll
  simp only [pCmd_c S, pRest_c S]
end
/-- the text of the one and the text of the other -/
def TxE (txl : List Nat) (tx : Nat → Int32) (tn : Nat) : Prop := tn = txl.length ∧ ∀ j, j < tn → tx j = nI (txl.getD j 0)
theorem TxE.sgn {txl : List Nat} {tx : Nat → Int32} {tn : Nat} (H : TxE txl tx tn) : sgn tx tn = sgn (tT txl) txl.length := by
  obtain ⟨rfl, h⟩ := H
  funext j
  unfold _root_.Jvm.Pilot.CHillContestLaw_law_r7326_84b5bb.sgn
  by_cases z : j < txl.length
  · rw [if_pos z, if_pos z]; exact h j z
  · rw [if_neg z, if_neg z]
theorem TxE.all {txl : List Nat} {tx : Nat → Int32} {tn : Nat} {cs : Nat → cmdT} (H : TxE txl tx tn) (he : txl.length ≤ 60) : RelL (cAllR (tT txl) txl.length cs 12 0 0) (pAll tx tn) := by
  have h1 := read_eq (t := tT txl) (e := txl.length) (cs := cs) he
  have h2 := H.sgn
  obtain ⟨rfl, -⟩ := H
  rw [pAll_c h2]
  exact h1
end PQ2
