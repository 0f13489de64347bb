section INV2
def SInv (y : sv) : Prop := HInv 300 y.1 ∧ ¬ y.2.2.2.2.2.2.1 < 0 ∧ y.2.2.2.1 ≤ 4
theorem isS_k {x : Int32} (h : isS x = true) : ∃ k, 1 ≤ k ∧ k ≤ 9 ∧ x = nI k := by
  simp only [isS, Bool.and_eq_true, Bool.not_eq_true', decide_eq_false_iff_not] at h
  have h0 : ¬ x < 0 := fun z => h.1 (Int32.lt_trans z (by decide))
  obtain ⟨k, hk, rfl⟩ := nI_of h0
  refine ⟨k, ?_, ?_, rfl⟩
  · rcases Nat.eq_zero_or_pos k with z | z
    · exact absurd (by rw [z]; decide) h.1
    · exact z
  · rcases Nat.lt_or_ge 9 k with z | z
    · exact absurd (Int32.not_le.mp (nI_ge (b := k) (a := 9) z hk)) h.2
    · exact z
theorem place_inv {M N : Nat} {x : hv} {c k : Nat} {t : Int32} (hN : N < 400) (H : HInv M x) (hc : c < 25) (hk : sN (cN x.1) 25 + k ≤ N) (ht : t = -1 ∨ ∃ q, q < 4 ∧ t = nI q) : HInv N (hPlace x c (nI k) t) := by
  obtain ⟨⟨hp, hS⟩, h25, hop, hs2, hs6, hown⟩ := H
  obtain ⟨ea, hal⟩ := cN_eq (hp c hc)
  have hle := sN_le (F := cN x.1) hc
  have e1 : x.1 c + nI k = nI (cN x.1 c + k) := by
    conv => lhs; rw [ea]
    exact nI_add _ _
  have ecn : ∀ j, j < 25 → j ≠ c → cN (upd x.1 c (x.1 c + nI k)) j = cN x.1 j := fun j _ hj => by unfold cN; rw [pk_un hj]
  have ecc : cN (upd x.1 c (x.1 c + nI k)) c = cN x.1 c + k := cN_of (by rw [pk_us, e1]) (by omega)
  have u1 := sN_upd (F := cN x.1) (G := cN (upd x.1 c (x.1 c + nI k))) hc ecn
  rw [ecc] at u1
  refine ⟨⟨fun j hj => ?_, ?_⟩, ?_, hop, hs2, hs6, fun j hj => ?_⟩
  · show ¬ upd x.1 c (x.1 c + nI k) j < 0
    by_cases z : j = c
    · subst z; rw [pk_us, e1]; exact nI_pos (by omega)
    · rw [pk_un z]; exact hp j hj
  · show sN (cN (upd x.1 c (x.1 c + nI k))) 25 ≤ N
    omega
  · show upd x.1 c (x.1 c + nI k) 25 = 0
    rw [pk_un (by omega)]; exact h25
  · show upd x.2.1 c t j = -1 ∨ ∃ k, k < 4 ∧ upd x.2.1 c t j = nI k
    by_cases z : j = c
    · subst z; rw [pk_us]; exact ht
    · rw [pk_un z]; exact hown j hj
theorem rem_inv {N : Nat} {x : hv} {c : Nat} (hN : N < 400) (H : HInv N x) (hc : c < 25) (h0 : ¬ x.1 c = 0) : HInv N (hRem x c) := by
  obtain ⟨⟨hp, hS⟩, h25, hop, hs2, hs6, hown⟩ := H
  obtain ⟨ea, hal⟩ := cN_eq (hp c hc)
  have hle := sN_le (F := cN x.1) hc
  have hpos : 1 ≤ cN x.1 c := by
    rcases Nat.eq_zero_or_pos (cN x.1 c) with z | z
    · rw [z] at ea; exact absurd ea h0
    · exact z
  have e1 : x.1 c - 1 = nI (cN x.1 c - 1) := by
    conv => lhs; rw [ea]
    exact nI_sub (b := 1) (by omega)
  have ecn : ∀ j, j < 25 → j ≠ c → cN (upd x.1 c (x.1 c - 1)) j = cN x.1 j := fun j _ hj => by unfold cN; rw [pk_un hj]
  have ecc : cN (upd x.1 c (x.1 c - 1)) c = cN x.1 c - 1 := cN_of (by rw [pk_us, e1]) (by omega)
  have u1 := sN_upd (F := cN x.1) (G := cN (upd x.1 c (x.1 c - 1))) hc ecn
  rw [ecc] at u1
  refine ⟨⟨fun j hj => ?_, ?_⟩, ?_, hop, hs2, hs6, fun j hj => ?_⟩
  · show ¬ upd x.1 c (x.1 c - 1) j < 0
    by_cases z : j = c
    · subst z; rw [pk_us, e1]; exact nI_pos (by omega)
    · rw [pk_un z]; exact hp j hj
  · show sN (cN (upd x.1 c (x.1 c - 1))) 25 ≤ N
    omega
  · show upd x.1 c (x.1 c - 1) 25 = 0
    rw [pk_un (by omega)]; exact h25
  · exact hRem_own (hown j hj)
theorem settle_inv {y : sv} (H : HInv 300 y.1) (hlg : ¬ y.2.2.2.2.2.2.1 < 0) (hnp : y.2.2.2.1 ≤ 4) : SInv (sSettle y) := by
  refine ⟨(restF_inv (by decide) H).1, ?_, hnp⟩
  show ¬ (avZ y.2.2.2.2 (nI (hRestF y.1).1)).2.2.1 < 0
  have hn : (hRestF y.1).1 ≤ 50000 := hRest_num 50000 _
  unfold avZ
  split
  · exact hlg
  · show ¬ (if y.2.2.2.2.2.2.1 < nI (hRestF y.1).1 then nI (hRestF y.1).1 else y.2.2.2.2.2.2.1) < 0
    split
    · exact nI_pos (by omega)
    · exact hlg
theorem pile_ok {f : Nat → Int32} {c x : Int32} (h : fltPile f c x = 1000010) : isC c = true ∧ isS x = true ∧ hSum f 25 + x ≤ 300 := by
  unfold fltPile at h
  split at h
  · cases h
  · split at h
    · cases h
    · split at h
      · rename_i z1 z2 z3
        exact ⟨by simpa using z1, by simpa using z2, z3⟩
      · cases h
theorem pile_hill {y : sv} {c : Nat} {x t : Int32} (H : HInv 300 y.1) (hc : c < 25) (hS : isS x = true) (h3 : hSum y.1.1 25 + x ≤ 300) (ht : t = -1 ∨ ∃ q, q < 4 ∧ t = nI q) : HInv 300 (hPlace y.1 c x t) := by
  obtain ⟨k, k1, k9, rfl⟩ := isS_k hS
  refine place_inv (by decide) H hc ?_ ht
  rw [hSum_N H.1.1, nI_add] at h3
  exact (nI_leI (b := 300) (by have := H.1.2; omega) (by decide)).mp h3
theorem trial_hill {x : hv} {c : Nat} {s : Int32} (H : HInv 300 x) (hc : c < 25) (hS : isS s = true) : HInv 309 (hPlace x c s (-1)) := by
  obtain ⟨k, k1, k9, rfl⟩ := isS_k hS
  exact place_inv (by decide) H hc (by have := H.1.2; omega) (Or.inl rfl)
theorem drop_ok {f hd rs : Nat → Int32} {np : Nat} {q c x : Int32} (h : fltDrop f hd rs np q c x = 1000010) : isP q np = true ∧ fltPile f c x = 1000010 ∧ rs q.toNatClampNeg ≤ 0 ∧ x ≤ hd q.toNatClampNeg := by
  unfold fltDrop at h
  split at h
  · cases h
  · split at h
    · rename_i z1 z2; exact absurd h z2
    · split at h
      · cases h
      · split at h
        · rename_i z1 z2 z3 z4
          exact ⟨by simpa using z1, Decidable.not_not.mp z2, Decidable.not_not.mp z3, z4⟩
        · cases h
theorem take_ok {f g : Nat → Int32} {np : Nat} {q c : Int32} (h : fltTake f g np q c = 1000010) : isP q np = true ∧ isC c = true ∧ ¬ f c.toNatClampNeg = 0 ∧ g c.toNatClampNeg = q := by
  unfold fltTake at h
  split at h
  · cases h
  · split at h
    · cases h
    · split at h
      · rename_i z1 z2 z3
        refine ⟨?_, ?_, z2, z3⟩
        · cases e : isP q np with
          | true => rfl
          | false => exact absurd (Or.inl e) z1
        · cases e : isC c with
          | true => rfl
          | false => exact absurd (Or.inr e) z1
      · cases h
theorem slope_ok {x : Int32} (h : fltSlope x = 1000010) : ¬ x < 2 ∧ ¬ 6 < x := by
  unfold fltSlope at h
  split at h
  · cases h
  · rename_i z
    exact ⟨fun q => z (Or.inl q), fun q => z (Or.inr q)⟩
theorem entry_ok {np : Nat} {x : Int32} (hnp : np ≤ 4) (h : fltEntry np x = 1000010) : np < 4 := by
  unfold fltEntry at h
  split at h
  · cases h
  · split at h
    · rename_i z1 z2
      rcases Nat.lt_or_ge np 4 with q | q
      · exact q
      · obtain rfl : np = 4 := by omega
        exact absurd z2 (by decide)
    · cases h
theorem cmd_hill {y : sv} {c : cmdT} (H : SInv y) (h : cmdFlt y c = 1000010) (h0 : ¬ c.1 = 0) (h4 : ¬ c.1 = 4) : HInv 300 (cmdHill y c) := by
  obtain ⟨hi, hlg, hnp⟩ := H
  obtain ⟨w, a, b, d⟩ := c
  have hbd : ∀ o : Int32, (o = 0 ∨ o = 1) → HInv 300 (y.1.1, y.1.2.1, y.1.2.2.1, o, y.1.2.2.2.2) := fun o ho => ⟨hi.1, hi.2.1, ho, hi.2.2.2.1, hi.2.2.2.2.1, hi.2.2.2.2.2⟩
  match w, h, h0, h4 with
  | 0, _, h0, _ => exact absurd rfl h0
  | 1, h, _, _ =>
    obtain ⟨h1, h2, _, _⟩ := drop_ok h
    obtain ⟨p1, p2, p3⟩ := pile_ok h2
    refine pile_hill hi (isC_lt p1).1 p2 p3 (Or.inr ⟨_, ?_, rfl⟩)
    have h9 : a.toNatClampNeg < y.2.2.2.1 := (isP_lt h1 hnp).1
    show a.toNatClampNeg < 4
    omega
  | 2, h, _, _ =>
    obtain ⟨p1, p2, p3⟩ := pile_ok h
    exact pile_hill hi (isC_lt p1).1 p2 p3 (Or.inl rfl)
  | 3, h, _, _ =>
    obtain ⟨h1, h2, h3, _⟩ := take_ok h
    exact rem_inv (by decide) hi (isC_lt h2).1 h3
  | 4, _, _, h4 => exact absurd rfl h4
  | 5, h, _, _ =>
    obtain ⟨h1, h2⟩ := slope_ok h
    exact ⟨hi.1, hi.2.1, hi.2.2.1, h1, h2, hi.2.2.2.2.2⟩
  | 6, _, _, _ => exact hbd 1 (Or.inr rfl)
  | n + 7, _, _, _ => exact hbd 0 (Or.inl rfl)
theorem cmd_T9 {y : sv} {c : cmdT} (H : SInv y) : cmdT9 y c := by
  by_cases h0 : c.1 = 0
  · exact Or.inl h0
  · by_cases h4 : c.1 = 4
    · exact Or.inr (Or.inl h4)
    · exact Or.inr (Or.inr (fun h => (restF_inv (by decide) (cmd_hill H h h0 h4)).2))
theorem cmd_inv {y : sv} {c : cmdT} (H : SInv y) (h : cmdFlt y c = 1000010) : SInv (cmdDo y c) := by
  have H9 := fun h0 h4 => cmd_hill H h h0 h4
  obtain ⟨hi, hlg, hnp⟩ := H
  obtain ⟨w, a, b, d⟩ := c
  match w, h, H9 with
  | 0, h, _ =>
    refine ⟨hi, hlg, ?_⟩
    show y.2.2.2.1 + 1 ≤ 4
    have := entry_ok hnp h
    omega
  | 1, h, H9 =>
    have h9 : SInv (sDropA y a.toNatClampNeg b.toNatClampNeg d) := settle_inv (y := (_, _, _, _, (_, _, _, _, _))) (H9 (show ¬ (1 : Nat) = 0 by decide) (show ¬ (1 : Nat) = 4 by decide)) hlg hnp
    show SInv (sDrop y a.toNatClampNeg b.toNatClampNeg d)
    unfold sDrop
    split
    · exact h9
    · exact ⟨h9.1, h9.2.1, h9.2.2⟩
  | 2, h, H9 => exact settle_inv (y := (_, _, _, _, (_, _, _, _, _))) (H9 (show ¬ (2 : Nat) = 0 by decide) (show ¬ (2 : Nat) = 4 by decide)) hlg hnp
  | 3, h, H9 => exact settle_inv (y := (_, _, _, _, (_, _, _, _, _))) (H9 (show ¬ (3 : Nat) = 0 by decide) (show ¬ (3 : Nat) = 4 by decide)) hlg hnp
  | 4, _, _ => exact ⟨hi, hlg, hnp⟩
  | 5, h, H9 => exact settle_inv (y := (_, _, _, _, (_, _, _, _, _))) (H9 (show ¬ (5 : Nat) = 0 by decide) (show ¬ (5 : Nat) = 4 by decide)) hlg hnp
  | 6, h, H9 => exact settle_inv (y := (_, _, _, _, (_, _, _, _, _))) (H9 (show ¬ (6 : Nat) = 0 by decide) (show ¬ (6 : Nat) = 4 by decide)) hlg hnp
  | n + 7, h, H9 => exact settle_inv (y := (_, _, _, _, (_, _, _, _, _))) (H9 (Nat.succ_ne_zero _) (by show ¬ n + 7 = 4; omega)) hlg hnp
end INV2
