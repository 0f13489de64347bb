section INV
def sN (F : Nat → Nat) : Nat → Nat
  | 0 => 0
  | c + 1 => sN F c + F c
theorem sN_congr {F G : Nat → Nat} : ∀ {n : Nat}, (∀ j, j < n → F j = G j) → sN F n = sN G n
  | 0, _ => rfl
  | n + 1, h => by
    unfold sN
    rw [sN_congr (fun j hj => h j (by omega)), h n (Nat.lt_succ_self n)]
theorem sN_upd {F G : Nat → Nat} {k : Nat} : ∀ {n : Nat}, k < n → (∀ j, j < n → j ≠ k → G j = F j) → sN G n + F k = sN F n + G k
  | 0, hk, _ => absurd hk (Nat.not_lt_zero k)
  | n + 1, hk, h => by
    unfold sN
    by_cases z : k = n
    · subst z
      rw [sN_congr (F := G) (G := F) (n := k) (fun j hj => h j (by omega) (by omega))]
      omega
    · have := sN_upd (F := F) (G := G) (k := k) (n := n) (by omega) (fun j hj hjk => h j (by omega) hjk)
      have e := h n (Nat.lt_succ_self n) (fun q => z q.symm)
      omega
theorem sN_le {F : Nat → Nat} {k : Nat} : ∀ {n : Nat}, k < n → F k ≤ sN F n
  | 0, hk => absurd hk (Nat.not_lt_zero k)
  | n + 1, hk => by
    unfold sN
    by_cases z : k = n
    · subst z; omega
    · have := sN_le (F := F) (k := k) (n := n) (by omega)
      omega
theorem sN_sq {F : Nat → Nat} : ∀ {n : Nat}, sN (fun c => F c * F c) n ≤ sN F n * sN F n
  | 0 => Nat.le_refl 0
  | n + 1 => by
    have h := sN_sq (F := F) (n := n)
    unfold sN
    have e : (sN F n + F n) * (sN F n + F n) = sN F n * sN F n + F n * F n + (sN F n * F n + F n * sN F n) := by
      rw [Nat.add_mul, Nat.mul_add, Nat.mul_add]; omega
    omega
def cN (f : Nat → Int32) (c : Nat) : Nat := (f c).toNatClampNeg
theorem cN_eq {f : Nat → Int32} {c : Nat} (h : ¬ f c < 0) : f c = nI (cN f c) ∧ cN f c < 2 ^ 31 := by
  obtain ⟨j, hj, e⟩ := nI_of h
  unfold cN
  rw [e, nI_clamp hj]
  exact ⟨rfl, hj⟩
theorem cN_of {f : Nat → Int32} {c n : Nat} (h : f c = nI n) (hn : n < 2 ^ 31) : cN f c = n := by
  unfold cN
  rw [h, nI_clamp hn]
/-- heights, and how many stones there are at most -/
def HOK (N : Nat) (f : Nat → Int32) : Prop := (∀ c, c < 25 → ¬ f c < 0) ∧ sN (cN f) 25 ≤ N
def HInv (N : Nat) (x : hv) : Prop := HOK N x.1 ∧ x.1 25 = 0 ∧ (x.2.2.2.1 = 0 ∨ x.2.2.2.1 = 1) ∧ ¬ x.2.2.1 < 2 ∧ ¬ 6 < x.2.2.1 ∧ ∀ c, c < 25 → x.2.1 c = -1 ∨ ∃ k, k < 4 ∧ x.2.1 c = nI k
theorem hNext_steep {f : Nat → Int32} {op sl : Int32} : ∀ {n c : Nat}, hNext f op sl n = some c → ¬ hSteep f op c < sl
  | 0, c, q => by cases q
  | n + 1, c, q => by
    unfold hNext at q
    split at q
    · rename_i z
      cases q
      exact z.2
    · exact hNext_steep q
theorem nI_sub {a b : Nat} (h : b ≤ a) : nI a - nI b = nI (a - b) := by
  have e : nI a = nI (a - b) + nI b := by rw [nI_add]; congr 1; omega
  rw [e, Int32.add_sub_cancel]
theorem negk : ∀ k, k < 400 → (0 - nI k).toInt = -(k : Int) := by decide +kernel
theorem nI_subN {a b : Nat} (h : a ≤ b) : nI a - nI b = 0 - nI (b - a) := by
  have e : nI b = nI a + nI (b - a) := by rw [nI_add]; congr 1; omega
  rw [e]
  grind
theorem steep2 {a b : Nat} {sl : Int32} (ha : a < 400) (hb : b < 400) (hs : ¬ sl < 2) (h : ¬ nI a - nI b < sl) : b + 2 ≤ a := by
  rw [Int32.lt_iff_toInt_lt] at hs h
  have hs2 : (2 : Int) ≤ sl.toInt := by
    have : (2 : Int32).toInt = 2 := by decide
    omega
  rcases Nat.lt_or_ge a b with z | z
  · rw [nI_subN (by omega), negk _ (by omega)] at h
    omega
  · rw [nI_sub z, nI_toInt (by omega)] at h
    omega
theorem hLow_ne {f : Nat → Int32} {op sl : Int32} {c : Nat} (hs : ¬ sl < 2) (h : ¬ hSteep f op c < sl) : hLow f op c ≠ c := by
  intro e
  unfold hSteep at h
  rw [e, Int32.sub_self, Int32.lt_iff_toInt_lt] at h
  rw [Int32.lt_iff_toInt_lt] at hs
  have h0 : (0 : Int32).toInt = 0 := by decide
  have h2 : (2 : Int32).toInt = 2 := by decide
  omega
def sqN (f : Nat → Int32) : Nat := sN (fun c => cN f c * cN f c) 25
theorem hRem_own {x : hv} {c j : Nat} (h : x.2.1 j = -1 ∨ ∃ k, k < 4 ∧ x.2.1 j = nI k) : (hRem x c).2.1 j = -1 ∨ ∃ k, k < 4 ∧ (hRem x c).2.1 j = nI k := by
  show (if x.1 c - 1 = 0 then upd x.2.1 c (-1) else x.2.1) j = -1 ∨ ∃ k, k < 4 ∧ (if x.1 c - 1 = 0 then upd x.2.1 c (-1) else x.2.1) j = nI k
  split
  · by_cases z : j = c
    · subst z; rw [pk_us]; exact Or.inl rfl
    · rw [pk_un z]; exact h
  · exact h
/-- one topple -/
theorem topple_inv {N : Nat} (hN : N < 400) {x : hv} {c : Nat} (H : HInv N x) (hq : hNx x = some c) : HInv N (hTopple x c) ∧ sqN (hTopple x c).1 + 2 ≤ sqN x.1 := by
  obtain ⟨⟨hp, hS⟩, h25, hop, hs2, hs6, hown⟩ := H
  have hc : c < 25 := hNext_lt hq
  have hst := hNext_steep hq
  have hne := hLow_ne hs2 hst
  have hlt := hLow_lt (f := x.1) (op := x.2.2.2.1) hc
  obtain ⟨ea, hal⟩ := cN_eq (hp c hc)
  have haN : cN x.1 c ≤ N := Nat.le_trans (sN_le (F := cN x.1) hc) hS
  have hst2 : ¬ x.1 c - x.1 (hLow x.1 x.2.2.2.1 c) < x.2.2.1 := hst
  by_cases q : hLow x.1 x.2.2.2.1 c = 25
  · -- over the border
    rw [q, h25, ea] at hst2
    have h2 : 0 + 2 ≤ cN x.1 c := steep2 (b := 0) (by omega) (by omega) hs2 hst2
    have e : hTopple x c = ((hRem x c).1, (hRem x c).2.1, x.2.2.1, x.2.2.2.1, x.2.2.2.2 + 1) := if_pos q
    have ef : (hTopple x c).1 = upd x.1 c (x.1 c - 1) := by rw [e]; rfl
    have e1 : x.1 c - 1 = nI (cN x.1 c - 1) := by
      conv => lhs; rw [ea]
      exact nI_sub (b := 1) (by omega)
    have ecn : ∀ j, j < 25 → j ≠ c → cN (upd x.1 c (x.1 c - 1)) j = cN x.1 j := fun j _ hj => by unfold cN; rw [pk_un hj]
    have ecc : cN (upd x.1 c (x.1 c - 1)) c = cN x.1 c - 1 := cN_of (by rw [pk_us, e1]) (by omega)
    have u1 := sN_upd (F := cN x.1) (G := cN (upd x.1 c (x.1 c - 1))) hc ecn
    have u2 := sN_upd (F := fun j => cN x.1 j * cN x.1 j) (G := fun j => cN (upd x.1 c (x.1 c - 1)) j * cN (upd x.1 c (x.1 c - 1)) j) hc (fun j h1 h2 => by show _ = _; rw [ecn j h1 h2])
    simp only [ecc] at u1 u2
    have hsq : (cN x.1 c - 1) * (cN x.1 c - 1) + 2 ≤ cN x.1 c * cN x.1 c := by
      obtain ⟨a, ha⟩ : ∃ a, cN x.1 c = a + 1 := ⟨cN x.1 c - 1, by omega⟩
      rw [ha, Nat.add_sub_cancel, Nat.add_mul, Nat.mul_add]
      omega
    refine ⟨⟨⟨?_, ?_⟩, ?_, ?_, ?_, ?_, ?_⟩, ?_⟩
    · intro j hj
      rw [ef]
      by_cases z : j = c
      · subst z; rw [pk_us, e1]; exact nI_pos (by omega)
      · rw [pk_un z]; exact hp j hj
    · rw [ef]; omega
    · exact hTopple_25 hc h25
    · rw [hTopple_op]; exact hop
    · rw [e]; exact hs2
    · rw [e]; exact hs6
    · intro j hj
      rw [e]
      exact hRem_own (hown j hj)
    · rw [ef]; unfold sqN; omega
  · -- to another cell
    have hr : hLow x.1 x.2.2.2.1 c < 25 := by omega
    obtain ⟨eb, hbl⟩ := cN_eq (hp _ hr)
    have hbN : cN x.1 (hLow x.1 x.2.2.2.1 c) ≤ N := Nat.le_trans (sN_le (F := cN x.1) hr) hS
    have e : hTopple x c = hPlace (hRem x c) (hLow x.1 x.2.2.2.1 c) 1 (x.2.1 c) := if_neg q
    obtain ⟨r, hr9⟩ : ∃ r, r = hLow x.1 x.2.2.2.1 c := ⟨_, rfl⟩
    rw [← hr9] at hst2 hne hr eb hbl hbN e q
    rw [ea, eb] at hst2
    have h2 := steep2 (by omega) (by omega) hs2 hst2
    have ef : (hTopple x c).1 = upd (upd x.1 c (x.1 c - 1)) r (x.1 r + 1) := by
      rw [e]
      show upd (upd x.1 c (x.1 c - 1)) r (upd x.1 c (x.1 c - 1) r + 1) = _
      rw [pk_un hne]
    have e1 : x.1 c - 1 = nI (cN x.1 c - 1) := by
      conv => lhs; rw [ea]
      exact nI_sub (b := 1) (by omega)
    have e2 : x.1 r + 1 = nI (cN x.1 r + 1) := by
      conv => lhs; rw [eb]
      exact (nI_succ _).symm
    have ecn : ∀ j, j < 25 → j ≠ c → cN (upd x.1 c (x.1 c - 1)) j = cN x.1 j := fun j _ hj => by unfold cN; rw [pk_un hj]
    have ecc : cN (upd x.1 c (x.1 c - 1)) c = cN x.1 c - 1 := cN_of (by rw [pk_us, e1]) (by omega)
    have ern : ∀ j, j < 25 → j ≠ r → cN (upd (upd x.1 c (x.1 c - 1)) r (x.1 r + 1)) j = cN (upd x.1 c (x.1 c - 1)) j := fun j _ hj => by
      show (upd (upd x.1 c (x.1 c - 1)) r (x.1 r + 1) j).toNatClampNeg = (upd x.1 c (x.1 c - 1) j).toNatClampNeg
      rw [pk_un hj]
    have err : cN (upd (upd x.1 c (x.1 c - 1)) r (x.1 r + 1)) r = cN x.1 r + 1 := cN_of (by rw [pk_us, e2]) (by omega)
    have u1 := sN_upd (F := cN x.1) (G := cN (upd x.1 c (x.1 c - 1))) hc ecn
    have u2 := sN_upd (F := fun j => cN x.1 j * cN x.1 j) (G := fun j => cN (upd x.1 c (x.1 c - 1)) j * cN (upd x.1 c (x.1 c - 1)) j) hc (fun j h1 h2 => by show _ = _; rw [ecn j h1 h2])
    have v1 := sN_upd (F := cN (upd x.1 c (x.1 c - 1))) (G := cN (upd (upd x.1 c (x.1 c - 1)) r (x.1 r + 1))) hr ern
    have v2 := sN_upd (F := fun j => cN (upd x.1 c (x.1 c - 1)) j * cN (upd x.1 c (x.1 c - 1)) j) (G := fun j => cN (upd (upd x.1 c (x.1 c - 1)) r (x.1 r + 1)) j * cN (upd (upd x.1 c (x.1 c - 1)) r (x.1 r + 1)) j) hr (fun j h1 h2 => by show _ = _; rw [ern j h1 h2])
    simp only [ecc] at u1 u2
    simp only [err, ecn r hr hne] at v1 v2
    have hsq : (cN x.1 c - 1) * (cN x.1 c - 1) + (cN x.1 r + 1) * (cN x.1 r + 1) + 2 ≤ cN x.1 c * cN x.1 c + cN x.1 r * cN x.1 r := by
      obtain ⟨a, ha⟩ : ∃ a, cN x.1 c = a + 1 := ⟨cN x.1 c - 1, by omega⟩
      rw [ha] at h2
      rw [ha, Nat.add_sub_cancel]
      simp only [Nat.add_mul, Nat.mul_add, Nat.mul_one, Nat.one_mul]
      omega
    refine ⟨⟨⟨?_, ?_⟩, ?_, ?_, ?_, ?_, ?_⟩, ?_⟩
    · intro j hj
      rw [ef]
      by_cases z : j = r
      · subst z; rw [pk_us, e2]; exact nI_pos (by omega)
      · rw [pk_un z]
        by_cases z2 : j = c
        · subst z2; rw [pk_us, e1]; exact nI_pos (by omega)
        · rw [pk_un z2]; exact hp j hj
    · rw [ef]; omega
    · exact hTopple_25 hc h25
    · rw [hTopple_op]; exact hop
    · rw [e]; exact hs2
    · rw [e]; exact hs6
    · intro j hj
      rw [e]
      show upd (hRem x c).2.1 r (x.2.1 c) j = -1 ∨ ∃ k, k < 4 ∧ upd (hRem x c).2.1 r (x.2.1 c) j = nI k
      by_cases z : j = r
      · subst z; rw [pk_us]; exact hown c hc
      · rw [pk_un z]; exact hRem_own (hown j hj)
    · rw [ef]; unfold sqN; omega
theorem rest_inv {N : Nat} (hN : N < 400) : ∀ (n : Nat) (x : hv), HInv N x → sqN x.1 < 2 * n + 2 → HInv N (hRest n x).2 ∧ hNx (hRest n x).2 = none
  | n, x, H, h => by
    cases hq : hNx x with
    | none => rw [hRest_none hq]; exact ⟨H, hq⟩
    | some c =>
      obtain ⟨H2, h2⟩ := topple_inv hN H hq
      cases n with
      | zero => omega
      | succ n =>
        rw [hRest_some hq]
        exact rest_inv hN n _ H2 (by omega)
theorem restF_inv {N : Nat} (hN : N < 310) {x : hv} (H : HInv N x) : HInv N (hRestF x).2 ∧ hNx (hRestF x).2 = none := by
  refine rest_inv (by omega) 50000 x H ?_
  have h1 : sqN x.1 ≤ sN (cN x.1) 25 * sN (cN x.1) 25 := sN_sq
  have h2 : sN (cN x.1) 25 * sN (cN x.1) 25 ≤ 309 * 309 := Nat.mul_le_mul (by have := H.1.2; omega) (by have := H.1.2; omega)
  omega
theorem hSum_N {f : Nat → Int32} : ∀ {n : Nat}, (∀ c, c < n → ¬ f c < 0) → hSum f n = nI (sN (cN f) n)
  | 0, _ => rfl
  | n + 1, h => by
    unfold hSum sN
    rw [hSum_N (fun c hc => h c (by omega)), (cN_eq (h n (Nat.lt_succ_self n))).1, nI_add]
end INV
