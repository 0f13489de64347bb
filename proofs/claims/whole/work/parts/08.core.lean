section MK
/-- private methods of AbstractStringBuilder are selected for a StringBuilder too -/
def jSel : List Cond := [.selects "java/lang/StringBuilder" ⟨"java/lang/AbstractStringBuilder", "ensureCapacityInternal", "(I)V"⟩ ⟨"java/lang/AbstractStringBuilder", "ensureCapacityInternal", "(I)V"⟩, .selects "java/lang/StringBuilder" ⟨"java/lang/AbstractStringBuilder", "newCapacity", "(I)I"⟩ ⟨"java/lang/AbstractStringBuilder", "newCapacity", "(I)I"⟩]
/-- the words of the tables that a callee may be handed -/
def mGood : List Cond := (jSel ++ lw_tbl).filter goodWord
theorem mGood_in {w : Cond} (h : w ∈ lw_tbl) (g : goodWord w = true) : w ∈ mGood := List.mem_filter.mpr ⟨List.mem_append_right _ h, g⟩
theorem mGood_jSel {w : Cond} (h : w ∈ jSel) (g : goodWord w = true) : w ∈ mGood := List.mem_filter.mpr ⟨List.mem_append_left _ h, g⟩
theorem mGood_GoodIn {big : List Cond} (hb : ∀ w ∈ mGood, w ∈ big) {c : Cond} (hc : c ∈ mGood) : GoodIn big (c :: mGood) := by
  have key : ∀ w ∈ mGood, w ∈ big ∧ ((w.onTables && w.keeps) = true ∨ ∃ ty, w = .arrayClass ty) := fun w hw => ⟨hb w hw, good_of_word (List.mem_filter.mp hw).2⟩
  intro w hw
  rcases List.mem_cons.mp hw with rfl | hw
  · exact key _ hc
  · exact key _ hw
/-- words that hold on while classes are warmed, though a callee isn't handed them: they go as premises -/
def mNest : Cond → Bool
  | .fieldLinkNest .. => true
  | .methodLinkNest .. => true
  | .castable .. => true
  | .declares _ => true
  | .arrayOver (.object _) => true
  | _ => false
def mNests : List Cond := lw_tbl.filter mNest
theorem mNests_in {w : Cond} (h : w ∈ lw_tbl) (g : mNest w = true) : w ∈ mNests := List.mem_filter.mpr ⟨h, g⟩
theorem mNest_warm {w : Cond} (hn : mNest w = true) {s U : State} (hW : s.WarmedH U.vm) (h : va_Nw w s) : va_Nw w U := by
  cases w <;> first | exact va_Nw.warmF hW h | exact va_Nw.warmM hW h | exact va_Nw.warmD hW h | exact va_Nw.warmC hW h | (rename_i ty; cases ty <;> first | exact va_AO.moved hW.alike h | (simp [mNest] at hn)) | (simp [mNest] at hn)
theorem mNest_same {w : Cond} (hn : mNest w = true) {u U : State} (h : u.vm = U.vm) (hZ : va_Nw w u) : va_Nw w U := by
  have ha : u.vm.Alike U.vm := by rw [h]; exact Vm.Alike.refl _
  cases w <;> first | exact va_Nw.same rfl h hZ | (rename_i ty; cases ty <;> first | exact va_AO.moved ha hZ | (simp [mNest] at hn)) | (simp [mNest] at hn)
/-- the world's things: an array (which of the kinds of arrays, its length and contents), an object (which class, its fields), a builder of text -/
abbrev mE : Type := (Nat × vp_A) ⊕ ((Nat × List Value) ⊕ List Nat)
abbrev mW : Type := List mE
abbrev mI (t n : Nat) (f : Nat → Int32) : mE := .inl (t, n, .inl f)
abbrev mO (c : Nat) (fs : List Value) : mE := .inr (.inl (c, fs))
abbrev mT (t : List Nat) : mE := .inr (.inr t)
def trV (ad : Nat → Nat) (v : Value) : Value := match v with
  | .ref k => .ref (ad k)
  | x => x
def trA (ad : Nat → Nat) (a : vp_A) : vp_A := (a.1, match a.2 with
  | .inr (.inr (.inr (.inr f))) => .inr (.inr (.inr (.inr (fun i => (f i).map ad))))
  | x => x)
def trL (ad : Nat → Nat) (L : List (Nat × Value)) : List (Nat × Value) := L.map fun q => (q.1, trV ad q.2)
theorem trV_cat (ad : Nat → Nat) (v : Value) : (trV ad v).category = v.category := by cases v <;> rfl
theorem trL_at {ad : Nat → Nat} {L : List (Nat × Value)} {j i : Nat} {v : Value} (h : L[j]? = some (i, v)) : (trL ad L)[j]? = some (i, trV ad v) := by
  unfold trL
  rw [List.getElem?_map, h]
  rfl
/-- the class ids of the kinds of arrays -/
abbrev mTy (dt : Nat → ClassId) : List (ClassId × FieldType) := [(dt 0, .int), (dt 1, .long), (dt 2, .double), (dt 3, .object "HillContest$State"), (dt 4, .object "HillContest$Command"), (dt 5, .byte)]
def mPicS (dt : Nat → ClassId) (ad sv : Nat → Nat) (w : mW) (ws : va_W) : Prop := ∀ (k : Nat) (tx : List Nat), w[k]? = some (mT tx) → ∃ (cap : Nat) (a : Nat → Int32) (ml : Int32), (ad k, .inr (1, [.ref (sv k), .int 0, .int ml, .int (nI tx.length)])) ∈ ws ∧ (sv k, .inl (dt 5, cap, .inl a)) ∈ ws ∧ tx.length ≤ cap ∧ cap ≤ 65536 ∧ sb_Lat (fun i => tx.getD i 0) tx.length a ∧ sb_Fit a
/-- the list of cells ws shows the world w, its things at the addresses ad -/
def mPic (dt : Nat → ClassId) (ad : Nat → Nat) (w : mW) (ws : va_W) : Prop :=
  (∀ (k t : Nat) (a : vp_A), w[k]? = some (.inl (t, a)) → (ad k, .inl (dt t, trA ad a)) ∈ ws) ∧
  (∀ (k c : Nat) (fs : List Value), w[k]? = some (mO c fs) → (ad k, .inr (c, fs.map (trV ad))) ∈ ws) ∧
  (∀ i j : Nat, i < w.length → j < w.length → ad i = ad j → i = j) ∧ w.length ≤ 999999 ∧
  ∃ sv : Nat → Nat, mPicS dt ad sv w ws ∧ (∀ (i j : Nat) (x y : List Nat), w[i]? = some (mT x) → w[j]? = some (mT y) → sv i = sv j → i = j) ∧ (∀ (i j : Nat) (x : List Nat), w[i]? = some (mT x) → j < w.length → sv i ≠ ad j)
theorem mem_set_ne {ws : va_W} {x y z : Nat × va_E} {q : Nat} (hx : x ∈ ws) (hy : ws[q]? = some y) (hn : x.1 ≠ y.1) : x ∈ ws.set q z := by
  obtain ⟨i, hi⟩ := List.getElem?_of_mem hx
  have hiq : q ≠ i := by
    intro e
    subst e
    rw [hi] at hy
    cases hy
    exact hn rfl
  exact List.mem_of_getElem? (i := i) (by rw [List.getElem?_set_ne hiq]; exact hi)
theorem mem_set_at {ws : va_W} {y z : Nat × va_E} {q : Nat} (hy : ws[q]? = some y) : z ∈ ws.set q z := List.mem_of_getElem? (i := q) (List.getElem?_set_self (List.getElem?_eq_some_iff.mp hy).1)
theorem lt_of_get {α : Type} {w : List α} {k : Nat} {e : α} (h : w[k]? = some e) : k < w.length := (List.getElem?_eq_some_iff.mp h).1
/-- an array's contents change -/
theorem mPic.arr {dt : Nat → ClassId} {ad : Nat → Nat} {w : mW} {ws : va_W} (h : mPic dt ad w ws) {k t q : Nat} {a b : vp_A} (hk : w[k]? = some (.inl (t, a))) (hq : ws[q]? = some (ad k, .inl (dt t, trA ad a))) : mPic dt ad (w.set k (.inl (t, b))) (ws.set q (ad k, .inl (dt t, trA ad b))) := by
  obtain ⟨h1, h2, h3, h4, sv, h5, h6, h7⟩ := h
  have hkl := lt_of_get hk
  have nes : ∀ (j : Nat) (tx : List Nat), (w.set k (.inl (t, b)))[j]? = some (mT tx) → w[j]? = some (mT tx) ∧ j ≠ k := by
    intro j tx hj
    by_cases e : k = j
    · subst e
      rw [List.getElem?_set_self hkl] at hj
      cases hj
    · rw [List.getElem?_set_ne e] at hj
      exact ⟨hj, fun z => e z.symm⟩
  refine ⟨fun j t' a' hj => ?_, fun j c fs hj => ?_, by rw [List.length_set]; exact h3, by rw [List.length_set]; exact h4, sv, fun j tx hj => ?_, fun i j x y hi hj => ?_, fun i j x hi hj => ?_⟩
  · by_cases e : k = j
    · subst e
      rw [List.getElem?_set_self hkl] at hj
      cases hj
      exact mem_set_at hq
    · rw [List.getElem?_set_ne e] at hj
      exact mem_set_ne (h1 j t' a' hj) hq (fun z => e (h3 j k (lt_of_get hj) hkl z).symm)
  · by_cases e : k = j
    · subst e
      rw [List.getElem?_set_self hkl] at hj
      cases hj
    · rw [List.getElem?_set_ne e] at hj
      exact mem_set_ne (h2 j c fs hj) hq (fun z => e (h3 j k (lt_of_get hj) hkl z).symm)
  · obtain ⟨hj', hn⟩ := nes j tx hj
    obtain ⟨cap, a', ml, g1, g2, g3⟩ := h5 j tx hj'
    exact ⟨cap, a', ml, mem_set_ne g1 hq (fun z => hn (h3 j k (lt_of_get hj') hkl z)), mem_set_ne g2 hq (h7 j k tx hj' hkl), g3⟩
  · exact h6 i j x y (nes i x hi).1 (nes j y hj).1
  · rw [List.length_set] at hj
    exact h7 i j x (nes i x hi).1 hj
/-- an object's fields change -/
theorem mPic.obj {dt : Nat → ClassId} {ad : Nat → Nat} {w : mW} {ws : va_W} (h : mPic dt ad w ws) {k c q : Nat} {a b : List Value} (hk : w[k]? = some (mO c a)) (hq : ws[q]? = some (ad k, .inr (c, a.map (trV ad)))) : mPic dt ad (w.set k (mO c b)) (ws.set q (ad k, .inr (c, b.map (trV ad)))) := by
  obtain ⟨h1, h2, h3, h4, sv, h5, h6, h7⟩ := h
  have hkl := lt_of_get hk
  have nes : ∀ (j : Nat) (tx : List Nat), (w.set k (mO c b))[j]? = some (mT tx) → w[j]? = some (mT tx) ∧ j ≠ k := by
    intro j tx hj
    by_cases e : k = j
    · subst e
      rw [List.getElem?_set_self hkl] at hj
      cases hj
    · rw [List.getElem?_set_ne e] at hj
      exact ⟨hj, fun z => e z.symm⟩
  refine ⟨fun j t' a' hj => ?_, fun j c' fs hj => ?_, by rw [List.length_set]; exact h3, by rw [List.length_set]; exact h4, sv, fun j tx hj => ?_, fun i j x y hi hj => ?_, fun i j x hi hj => ?_⟩
  · by_cases e : k = j
    · subst e
      rw [List.getElem?_set_self hkl] at hj
      cases hj
    · rw [List.getElem?_set_ne e] at hj
      exact mem_set_ne (h1 j t' a' hj) hq (fun z => e (h3 j k (lt_of_get hj) hkl z).symm)
  · by_cases e : k = j
    · subst e
      rw [List.getElem?_set_self hkl] at hj
      cases hj
      exact mem_set_at hq
    · rw [List.getElem?_set_ne e] at hj
      exact mem_set_ne (h2 j c' fs hj) hq (fun z => e (h3 j k (lt_of_get hj) hkl z).symm)
  · obtain ⟨hj', hn⟩ := nes j tx hj
    obtain ⟨cap, a', ml, g1, g2, g3⟩ := h5 j tx hj'
    exact ⟨cap, a', ml, mem_set_ne g1 hq (fun z => hn (h3 j k (lt_of_get hj') hkl z)), mem_set_ne g2 hq (h7 j k tx hj' hkl), g3⟩
  · exact h6 i j x y (nes i x hi).1 (nes j y hj).1
  · rw [List.length_set] at hj
    exact h7 i j x (nes i x hi).1 hj
end MK
