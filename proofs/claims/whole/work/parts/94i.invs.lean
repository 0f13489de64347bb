section IV
theorem inv_0 {y : sv} {a : Int32} (hI : SInv y) (h : fltEntry y.2.2.2.1 a = 1000010) : SInv (y.1, upd y.2.1 y.2.2.2.1 a, upd y.2.2.1 y.2.2.2.1 0, y.2.2.2.1 + 1, y.2.2.2.2) := by
  have e1 : cmdFlt y (0, a, 0, 0) = fltEntry y.2.2.2.1 a := rfl
  have h2 := cmd_inv (c := (0, a, 0, 0)) hI (e1.trans h)
  have e2 : cmdDo y (0, a, 0, 0) = (y.1, upd y.2.1 y.2.2.2.1 a, upd y.2.2.1 y.2.2.2.1 0, y.2.2.2.1 + 1, y.2.2.2.2) := rfl
  rw [e2] at h2
  exact h2
theorem inv_5 {y : sv} {a : Int32} (hI : SInv y) (h : fltSlope a = 1000010) : SInv (sSlope y a) ∧ hNx (hRestF (y.1.1, y.1.2.1, a, y.1.2.2.2.1, y.1.2.2.2.2)).2 = none := by
  have e1 : cmdFlt y (5, a, 0, 0) = fltSlope a := rfl
  have h2 := cmd_inv (c := (5, a, 0, 0)) hI (e1.trans h)
  have h3 := cmd_hill (c := (5, a, 0, 0)) hI (e1.trans h) (show ¬ (5 : Nat) = 0 by decide) (show ¬ (5 : Nat) = 4 by decide)
  have e2 : cmdDo y (5, a, 0, 0) = sSlope y a := rfl
  have e3 : cmdHill y (5, a, 0, 0) = (y.1.1, y.1.2.1, a, y.1.2.2.2.1, y.1.2.2.2.2) := rfl
  rw [e2] at h2
  rw [e3] at h3
  exact ⟨h2, (restF_inv (by decide) h3).2⟩
theorem inv_2 {y : sv} {a b : Int32} (hI : SInv y) (h : fltPile y.1.1 a b = 1000010) : SInv (sPile y a.toNatClampNeg b) ∧ hNx (hRestF (hPlace y.1 a.toNatClampNeg b (-1))).2 = none := by
  have e1 : cmdFlt y (2, a, b, 0) = fltPile y.1.1 a b := rfl
  have h2 := cmd_inv (c := (2, a, b, 0)) hI (e1.trans h)
  have h3 := cmd_hill (c := (2, a, b, 0)) hI (e1.trans h) (show ¬ (2 : Nat) = 0 by decide) (show ¬ (2 : Nat) = 4 by decide)
  have e2 : cmdDo y (2, a, b, 0) = sPile y a.toNatClampNeg b := rfl
  have e3 : cmdHill y (2, a, b, 0) = hPlace y.1 a.toNatClampNeg b (-1) := rfl
  rw [e2] at h2
  rw [e3] at h3
  exact ⟨h2, (restF_inv (by decide) h3).2⟩
theorem inv_3 {y : sv} {a b : Int32} (hI : SInv y) (h : fltTake y.1.1 y.1.2.1 y.2.2.2.1 a b = 1000010) : SInv (sTake y a.toNatClampNeg b.toNatClampNeg) ∧ hNx (hRestF (hRem y.1 b.toNatClampNeg)).2 = none := by
  have e1 : cmdFlt y (3, a, b, 0) = fltTake y.1.1 y.1.2.1 y.2.2.2.1 a b := rfl
  have h2 := cmd_inv (c := (3, a, b, 0)) hI (e1.trans h)
  have h3 := cmd_hill (c := (3, a, b, 0)) hI (e1.trans h) (show ¬ (3 : Nat) = 0 by decide) (show ¬ (3 : Nat) = 4 by decide)
  have e2 : cmdDo y (3, a, b, 0) = sTake y a.toNatClampNeg b.toNatClampNeg := rfl
  have e3 : cmdHill y (3, a, b, 0) = hRem y.1 b.toNatClampNeg := rfl
  rw [e2] at h2
  rw [e3] at h3
  exact ⟨h2, (restF_inv (by decide) h3).2⟩
theorem inv_1 {y : sv} {a b c : Int32} (hI : SInv y) (h : fltDrop y.1.1 y.2.1 y.2.2.1 y.2.2.2.1 a b c = 1000010) : SInv (sDrop y a.toNatClampNeg b.toNatClampNeg c) ∧ hNx (hRestF (hPlace y.1 b.toNatClampNeg c (nI a.toNatClampNeg))).2 = none := by
  have e1 : cmdFlt y (1, a, b, c) = fltDrop y.1.1 y.2.1 y.2.2.1 y.2.2.2.1 a b c := rfl
  have h2 := cmd_inv (c := (1, a, b, c)) hI (e1.trans h)
  have h3 := cmd_hill (c := (1, a, b, c)) hI (e1.trans h) (show ¬ (1 : Nat) = 0 by decide) (show ¬ (1 : Nat) = 4 by decide)
  have e2 : cmdDo y (1, a, b, c) = sDrop y a.toNatClampNeg b.toNatClampNeg c := rfl
  have e3 : cmdHill y (1, a, b, c) = hPlace y.1 b.toNatClampNeg c (nI a.toNatClampNeg) := rfl
  rw [e2] at h2
  rw [e3] at h3
  exact ⟨h2, (restF_inv (by decide) h3).2⟩
theorem inv_4 {y : sv} (hI : SInv y) : SInv (y.1, y.2.1, sPass y.2.2.1 (-1) y.2.2.2.1, y.2.2.2.1, y.2.2.2.2) := by
  have e1 : cmdFlt y (4, 0, 0, 0) = 1000010 := rfl
  have h2 := cmd_inv (c := (4, 0, 0, 0)) hI e1
  have e2 : cmdDo y (4, 0, 0, 0) = (y.1, y.2.1, sPass y.2.2.1 (-1) y.2.2.2.1, y.2.2.2.1, y.2.2.2.2) := rfl
  rw [e2] at h2
  exact h2
theorem inv_6 {y : sv} {b : Int32} (hb : b = 0 ∨ b = 1) (hI : SInv y) : SInv (sBorder y b) ∧ hNx (hRestF (y.1.1, y.1.2.1, y.1.2.2.1, b, y.1.2.2.2.2)).2 = none := by
  rcases hb with rfl | rfl
  · have e1 : cmdFlt y (7, 0, 0, 0) = 1000010 := rfl
    have h2 := cmd_inv (c := (7, 0, 0, 0)) hI e1
    have h3 := cmd_hill (c := (7, 0, 0, 0)) hI e1 (show ¬ (7 : Nat) = 0 by decide) (show ¬ (7 : Nat) = 4 by decide)
    have e2 : cmdDo y (7, 0, 0, 0) = sBorder y 0 := rfl
    have e3 : cmdHill y (7, 0, 0, 0) = (y.1.1, y.1.2.1, y.1.2.2.1, 0, y.1.2.2.2.2) := rfl
    rw [e2] at h2
    rw [e3] at h3
    exact ⟨h2, (restF_inv (by decide) h3).2⟩
  · have e1 : cmdFlt y (6, 0, 0, 0) = 1000010 := rfl
    have h2 := cmd_inv (c := (6, 0, 0, 0)) hI e1
    have h3 := cmd_hill (c := (6, 0, 0, 0)) hI e1 (show ¬ (6 : Nat) = 0 by decide) (show ¬ (6 : Nat) = 4 by decide)
    have e2 : cmdDo y (6, 0, 0, 0) = sBorder y 1 := rfl
    have e3 : cmdHill y (6, 0, 0, 0) = (y.1.1, y.1.2.1, y.1.2.2.1, 1, y.1.2.2.2.2) := rfl
    rw [e2] at h2
    rw [e3] at h3
    exact ⟨h2, (restF_inv (by decide) h3).2⟩
end IV
