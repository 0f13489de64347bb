section QQ
/-- a comes before b in the order in which cells topple -/
def Bf (f : Nat → Int32) (a b : Nat) : Prop := f b < f a ∨ (f a = f b ∧ a < b)
theorem Bf.irr {f : Nat → Int32} {a : Nat} : ¬ Bf f a a := fun h => h.elim (fun z => Int32.lt_irrefl z) (fun z => Nat.lt_irrefl _ z.2)
theorem Bf.trans {f : Nat → Int32} {a b c : Nat} (h1 : Bf f a b) (h2 : Bf f b c) : Bf f a c := by
  rcases h1 with h1 | ⟨h1, h1'⟩
  · rcases h2 with h2 | ⟨h2, -⟩
    · exact Or.inl (Int32.lt_trans h2 h1)
    · exact Or.inl (by rw [← h2]; exact h1)
  · rcases h2 with h2 | ⟨h2, h2'⟩
    · exact Or.inl (by rw [h1]; exact h2)
    · exact Or.inr ⟨h1.trans h2, Nat.lt_trans h1' h2'⟩
theorem Bf.total {f : Nat → Int32} {a b : Nat} (h : a ≠ b) (hn : ¬ Bf f a b) : Bf f b a := by
  rcases Decidable.em (f a < f b) with z | z
  · exact Or.inl z
  · rcases Decidable.em (f b < f a) with z2 | z2
    · exact absurd (Or.inl z2) hn
    · have e : f a = f b := Int32.le_antisymm (Int32.not_lt.mp z2) (Int32.not_lt.mp z)
      refine Or.inr ⟨e.symm, ?_⟩
      rcases Nat.lt_or_ge b a with q | q
      · exact q
      · exact absurd (Or.inr ⟨e, by omega⟩) hn
theorem qBef_iff {f : Nat → Int32} {a b : Nat} (ha : ¬ f a < 0) (hb : ¬ f b < 0) (ha4 : cN f a < 400) (hb4 : cN f b < 400) : qBef f a b = true ↔ Bf f a b := by
  obtain ⟨ea, -⟩ := cN_eq ha
  obtain ⟨eb, -⟩ := cN_eq hb
  have key : (f a - f b ≤ 0 ↔ cN f a ≤ cN f b) ∧ (f a - f b = 0 ↔ cN f a = cN f b) := by
    rw [ea, eb]
    generalize cN f a = p at *
    generalize cN f b = q at *
    have hk : (nI p - nI q).toInt = (p : Int) - q := by
      rcases Nat.lt_or_ge p q with z | z
      · rw [nI_subN (by omega), negk _ (by omega)]; omega
      · rw [nI_sub z, nI_toInt (by omega)]; omega
    constructor
    · rw [Int32.le_iff_toInt_le, hk]
      show (p : Int) - q ≤ 0 ↔ _
      omega
    · constructor
      · intro h
        have := congrArg Int32.toInt h
        rw [hk] at this
        have h0 : (0 : Int32).toInt = 0 := by decide
        omega
      · intro h
        rw [h, Int32.sub_self]
  have k2 : f b < f a ↔ cN f b < cN f a := by
    rw [ea, eb, Int32.lt_iff_toInt_lt, nI_toInt (by omega), nI_toInt (by omega)]
    omega
  have k3 : f a = f b ↔ cN f a = cN f b := by
    constructor
    · intro h; unfold cN; rw [h]
    · intro h; rw [ea, eb, h]
  unfold qBef Bf
  simp only [Bool.or_eq_true, Bool.and_eq_true, Bool.not_eq_true', decide_eq_false_iff_not, decide_eq_true_eq]
  rw [key.1, key.2, k2, k3]
  omega
theorem mem_insRev {f : Nat → Int32} {c x : Nat} : ∀ {l : List Nat}, x ∈ insRev f c l ↔ x = c ∨ x ∈ l
  | [] => by simp [insRev]
  | z :: r => by
    unfold insRev
    split
    · rw [List.mem_cons, mem_insRev (l := r), List.mem_cons]
      constructor
      · rintro (h | h | h)
        · exact Or.inr (Or.inl h)
        · exact Or.inl h
        · exact Or.inr (Or.inr h)
      · rintro (h | h | h)
        · exact Or.inr (Or.inl h)
        · exact Or.inl h
        · exact Or.inr (Or.inr h)
    · rw [List.mem_cons]
theorem mem_qIns {f : Nat → Int32} {c x : Nat} {l : List Nat} : x ∈ qIns f c l ↔ x = c ∨ x ∈ l := by
  unfold qIns
  rw [List.mem_reverse, mem_insRev, List.mem_reverse]
theorem mem_qRem {c x : Nat} {l : List Nat} : x ∈ qRem c l ↔ x ∈ l ∧ x ≠ c := by
  unfold qRem
  rw [List.mem_filter]
  simp
abbrev Hk (f : Nat → Int32) : Prop := ∀ k, k < 25 → ¬ f k < 0 ∧ cN f k < 400
def Srt (f : Nat → Int32) (l : List Nat) : Prop := l.Pairwise (Bf f)
theorem ins_srt {f : Nat → Int32} (hk : Hk f) {c : Nat} (hc : c < 25) : ∀ {l : List Nat}, (∀ k ∈ l, k < 25) → c ∉ l → l.Pairwise (fun a b => Bf f b a) → (insRev f c l).Pairwise (fun a b => Bf f b a)
  | [], _, _, _ => List.pairwise_singleton _ _
  | z :: r, hl, hn, hp => by
    have hz : z < 25 := hl z List.mem_cons_self
    have hzc : c ≠ z := fun e => hn (by rw [e]; exact List.mem_cons_self)
    obtain ⟨p1, p2⟩ := List.pairwise_cons.mp hp
    have hb := qBef_iff (hk c hc).1 (hk z hz).1 (hk c hc).2 (hk z hz).2
    unfold insRev
    split
    · rename_i q
      refine List.pairwise_cons.mpr ⟨fun y hy => ?_, ins_srt hk hc (fun k hk => hl k (List.mem_cons_of_mem _ hk)) (fun h => hn (List.mem_cons_of_mem _ h)) p2⟩
      rcases mem_insRev.mp hy with rfl | hy
      · exact hb.mp q
      · exact p1 y hy
    · rename_i q
      have q2 : Bf f z c := Bf.total hzc (fun h => q (hb.mpr h))
      refine List.pairwise_cons.mpr ⟨fun y hy => ?_, hp⟩
      rcases List.mem_cons.mp hy with rfl | hy
      · exact q2
      · exact (p1 y hy).trans q2
theorem qIns_srt {f : Nat → Int32} (hk : Hk f) {c : Nat} (hc : c < 25) {l : List Nat} (hl : ∀ k ∈ l, k < 25) (hn : c ∉ l) (hs : Srt f l) : Srt f (qIns f c l) := by
  unfold Srt qIns
  rw [List.pairwise_reverse]
  refine ins_srt hk hc (fun k h => hl k (List.mem_reverse.mp h)) (fun h => hn (List.mem_reverse.mp h)) ?_
  rw [List.pairwise_reverse]
  exact hs
abbrev Unst (f : Nat → Int32) (op sl : Int32) (c : Nat) : Prop := ¬ hSteep f op c < sl
theorem mem_qRef {f : Nat → Int32} {op sl : Int32} {c x : Nat} {l : List Nat} : x ∈ qRef f op sl c l ↔ (x = c ∧ Unst f op sl c) ∨ (x ≠ c ∧ x ∈ l) := by
  unfold qRef Unst
  split
  · rename_i h
    rw [mem_qRem]
    constructor
    · rintro ⟨h1, h2⟩; exact Or.inr ⟨h2, h1⟩
    · rintro (⟨-, h2⟩ | ⟨h1, h2⟩)
      · exact absurd h h2
      · exact ⟨h2, h1⟩
  · rename_i h
    rw [mem_qIns, mem_qRem]
    constructor
    · rintro (h1 | ⟨h1, h2⟩)
      · exact Or.inl ⟨h1, h⟩
      · exact Or.inr ⟨h2, h1⟩
    · rintro (⟨h1, -⟩ | ⟨h1, h2⟩)
      · exact Or.inl h1
      · exact Or.inr ⟨h2, h1⟩
theorem qRef_srt {f : Nat → Int32} {op sl : Int32} (hk : Hk f) {c : Nat} (hc : c < 25) {l : List Nat} (hl : ∀ k ∈ l, k < 25) (hs : Srt f (qRem c l)) : Srt f (qRef f op sl c l) := by
  unfold qRef
  split
  · exact hs
  · exact qIns_srt hk hc (fun k h => hl k (mem_qRem.mp h).1) (fun h => (mem_qRem.mp h).2 rfl) hs
theorem qRem_srt {f : Nat → Int32} {c : Nat} {l : List Nat} (hs : Srt f l) : Srt f (qRem c l) := List.Pairwise.filter _ hs
/-- cells refreshed one after the other -/
def RF (f : Nat → Int32) (op sl : Int32) : List Nat → List Nat → List Nat
  | [], l => l
  | e :: es, l => RF f op sl es (qRef f op sl e l)
theorem RF_ok {f : Nat → Int32} {op sl : Int32} (hk : Hk f) : ∀ {es l : List Nat}, (∀ e ∈ es, e < 25) → (∀ k ∈ l, k < 25) → Srt f l → Srt f (RF f op sl es l) ∧ ∀ x, x ∈ RF f op sl es l ↔ (x ∈ es ∧ Unst f op sl x) ∨ (x ∉ es ∧ x ∈ l)
  | [], l, _, _, hs => ⟨hs, fun x => by unfold RF; simp⟩
  | e :: es, l, he, hl, hs => by
    have he1 := he e List.mem_cons_self
    have hl2 : ∀ k ∈ qRef f op sl e l, k < 25 := fun k hk => by
      rcases mem_qRef.mp hk with ⟨rfl, -⟩ | ⟨-, h⟩
      · exact he1
      · exact hl k h
    obtain ⟨i1, i2⟩ := RF_ok (op := op) (sl := sl) hk (es := es) (fun k h => he k (List.mem_cons_of_mem _ h)) hl2 (qRef_srt hk he1 hl (qRem_srt hs))
    refine ⟨i1, fun x => ?_⟩
    unfold RF
    rw [i2 x, mem_qRef, List.mem_cons]
    by_cases h1 : x ∈ es
    · simp only [h1, true_and, not_true_eq_false, false_and, or_false, or_true]
    · by_cases h2 : x = e
      · subst h2
        simp [h1]
      · simp [h1, h2]
def nbL (c : Nat) : List Nat := [hNb c 0, hNb c 1, hNb c 2, hNb c 3].filter (fun k => decide (k ≠ 25))
theorem RF_app {f : Nat → Int32} {op sl : Int32} : ∀ {a b l : List Nat}, RF f op sl (a ++ b) l = RF f op sl b (RF f op sl a l)
  | [], _, _ => rfl
  | e :: a, b, l => by
    show RF f op sl (a ++ b) (qRef f op sl e l) = _
    rw [RF_app]
    rfl
theorem qNb_RF {f : Nat → Int32} {op sl : Int32} {c s : Nat} {l : List Nat} : qNb f op sl c s l = RF f op sl (if hNb c s = 25 then [] else [hNb c s]) l := by
  unfold qNb
  split <;> rfl
theorem nbL_eq {c : Nat} : nbL c = (if hNb c 0 = 25 then [] else [hNb c 0]) ++ ((if hNb c 1 = 25 then [] else [hNb c 1]) ++ ((if hNb c 2 = 25 then [] else [hNb c 2]) ++ (if hNb c 3 = 25 then [] else [hNb c 3]))) := by
  unfold nbL
  by_cases h0 : hNb c 0 = 25 <;> by_cases h1 : hNb c 1 = 25 <;> by_cases h2 : hNb c 2 = 25 <;> by_cases h3 : hNb c 3 = 25 <;> simp [h0, h1, h2, h3]
theorem qRA_RF {f : Nat → Int32} {op sl : Int32} {c : Nat} {l : List Nat} : qRA f op sl c l = RF f op sl (c :: nbL c) l := by
  unfold qRA
  rw [qNb_RF, qNb_RF, qNb_RF, qNb_RF, nbL_eq]
  show _ = RF f op sl _ (qRef f op sl c l)
  rw [RF_app, RF_app, RF_app]
theorem nbL_lt {c : Nat} (hc : c < 25) : ∀ e ∈ c :: nbL c, e < 25 := by
  have : ∀ c, c < 25 → ∀ e ∈ c :: nbL c, e < 25 := by decide +kernel
  exact this c hc
theorem nb_sym {k c s : Nat} (hk : k < 25) (hs : s < 4) (h : hNb k s = c) (hc : c < 25) : k ∈ nbL c := by
  have : ∀ k, k < 25 → ∀ s, s < 4 → hNb k s < 25 → k ∈ nbL (hNb k s) := by decide +kernel
  subst h
  exact this k hk s hs hc
theorem low_same {f f' : Nat → Int32} {op : Int32} {k : Nat} (h : ∀ s, s < 4 → f' (hNb k s) = f (hNb k s)) : hLow f' op k = hLow f op k ∧ ∃ s, s < 4 ∧ hLow f op k = hNb k s := by
  have step : ∀ {s lo : Nat}, s < 4 → (∃ s', s' < 4 ∧ lo = hNb k s') → lowStep f' op k s lo = lowStep f op k s lo ∧ ∃ s', s' < 4 ∧ lowStep f op k s lo = hNb k s' := fun {s lo} hs hlo => by
    obtain ⟨s', hs', e⟩ := hlo
    have e1 : f' lo = f lo := by rw [e]; exact h s' hs'
    refine ⟨by unfold lowStep; rw [e1, h s hs], ?_⟩
    unfold lowStep
    split
    · exact ⟨s, hs, rfl⟩
    · exact ⟨s', hs', e⟩
  unfold hLow
  obtain ⟨a1, a2⟩ := step (s := 1) (lo := hNb k 0) (by decide) ⟨0, by decide, rfl⟩
  rw [a1]
  obtain ⟨b1, b2⟩ := step (s := 2) (by decide) a2
  rw [b1]
  exact step (s := 3) (by decide) b2
theorem steep_same {f f' : Nat → Int32} {op : Int32} {k : Nat} (hk : f' k = f k) (h : ∀ s, s < 4 → f' (hNb k s) = f (hNb k s)) : hSteep f' op k = hSteep f op k := by
  obtain ⟨a, s, hs, e⟩ := low_same (op := op) h
  unfold hSteep
  rw [a, hk, e, h s hs]
/-- the queue holds the unstable cells, the next one first -/
def QI (x : hv) (l : List Nat) : Prop := Srt x.1 l ∧ (∀ k ∈ l, k < 25) ∧ ∀ k, k < 25 → (k ∈ l ↔ Unst x.1 x.2.2.2.1 x.2.2.1 k)
theorem hNext_none {f : Nat → Int32} {op sl : Int32} : ∀ {n : Nat}, hNext f op sl n = none → ∀ k, k < n → ¬ Unst f op sl k
  | 0, _, k, hk => absurd hk (Nat.not_lt_zero k)
  | n + 1, h, k, hk => by
    unfold hNext at h
    split at h
    · cases h
    · rename_i z
      rcases Nat.lt_or_ge k n with q | q
      · exact hNext_none h k q
      · obtain rfl : k = n := by omega
        exact fun u => z ⟨Or.inl h, u⟩
theorem hNext_first {f : Nat → Int32} {op sl : Int32} : ∀ {n c : Nat}, hNext f op sl n = some c → ∀ k, k < n → Unst f op sl k → k = c ∨ Bf f c k
  | 0, c, h, k, hk => absurd hk (Nat.not_lt_zero k)
  | n + 1, c, h, k, hk => by
    intro u
    unfold hNext at h
    split at h
    · rename_i z
      cases h
      rcases Nat.lt_or_ge k n with q | q
      · refine Or.inr (Or.inl ?_)
        cases hp : hNext f op sl n with
        | none => exact absurd u (hNext_none hp k q)
        | some p =>
          have h1 : ¬ f n ≤ f p := by
            rcases z.1 with z1 | z1
            · rw [hp] at z1; cases z1
            · rw [hp] at z1; exact z1
          rcases hNext_first hp k q u with rfl | h2
          · exact Int32.not_le.mp h1
          · rcases h2 with h2 | ⟨h2, -⟩
            · exact Int32.lt_trans h2 (Int32.not_le.mp h1)
            · rw [← h2]; exact Int32.not_le.mp h1
      · left; omega
    · rename_i z
      rcases Nat.lt_or_ge k n with q | q
      · exact hNext_first h k q u
      · obtain rfl : k = n := by omega
        have h1 : f k ≤ f c := by
          rcases Decidable.em (f k ≤ f c) with q1 | q1
          · exact q1
          · exact absurd ⟨Or.inr (by rw [h]; exact q1), u⟩ z
        have hlt := hNext_lt h
        rcases Decidable.em (f k < f c) with q1 | q1
        · exact Or.inr (Or.inl q1)
        · exact Or.inr (Or.inr ⟨Int32.le_antisymm (Int32.not_lt.mp q1) h1, hlt⟩)
theorem QI_nil {x : hv} (h : QI x []) : hNx x = none := by
  cases e : hNx x with
  | none => rfl
  | some c =>
    have := (h.2.2 c (hNext_lt e)).mpr (hNext_steep e)
    cases this
theorem QI_head {x : hv} {c : Nat} {r : List Nat} (h : QI x (c :: r)) : hNx x = some c := by
  have hc := h.2.1 c List.mem_cons_self
  have hu := (h.2.2 c hc).mp List.mem_cons_self
  cases e : hNx x with
  | none => exact absurd hu (hNext_none e c hc)
  | some c' =>
    have hc' := hNext_lt e
    have h1 := (h.2.2 c' hc').mpr (hNext_steep e)
    rcases List.mem_cons.mp h1 with h1 | h1
    · rw [h1]
    · have b1 := (List.pairwise_cons.mp h.1).1 c' h1
      rcases hNext_first e c hc hu with b2 | b2
      · rw [b2]
      · exact absurd (b1.trans b2) Bf.irr
theorem Hk_of {N : Nat} (hN : N < 400) {x : hv} (H : HInv N x) : Hk x.1 := fun k hk => ⟨H.1.1 k hk, by have := sN_le (F := cN x.1) hk; have := H.1.2; omega⟩
theorem Srt_congr {f f' : Nat → Int32} : ∀ {l : List Nat}, (∀ k ∈ l, f' k = f k) → Srt f l → Srt f' l
  | [], _, _ => List.Pairwise.nil
  | a :: l, h, hs => by
    obtain ⟨p1, p2⟩ := List.pairwise_cons.mp hs
    refine List.pairwise_cons.mpr ⟨fun b hb => ?_, Srt_congr (fun k hk => h k (List.mem_cons_of_mem _ hk)) p2⟩
    unfold Bf
    rw [h a List.mem_cons_self, h b (List.mem_cons_of_mem _ hb)]
    exact p1 b hb
theorem topple_f {x : hv} {c k : Nat} (h1 : k ≠ c) (h2 : hLow x.1 x.2.2.2.1 c = 25 ∨ k ≠ hLow x.1 x.2.2.2.1 c) : (hTopple x c).1 k = x.1 k := by
  unfold hTopple
  split
  · show upd x.1 c (x.1 c - 1) k = x.1 k
    rw [pk_un h1]
  · rename_i q
    show upd (upd x.1 c (x.1 c - 1)) (hLow x.1 x.2.2.2.1 c) _ k = x.1 k
    rw [pk_un (h2.resolve_left q), pk_un h1]
theorem topple_sl {x : hv} {c : Nat} : (hTopple x c).2.2.1 = x.2.2.1 := by
  unfold hTopple
  split <;> rfl
theorem QI_step {N : Nat} (hN : N < 400) {x : hv} (H : HInv N x) {c : Nat} {r : List Nat} (h : QI x (c :: r)) : QI (hTopple x c) (qAfter x c (c :: r)) := by
  have hq := QI_head h
  have hc := h.2.1 c List.mem_cons_self
  have H' := (topple_inv hN H hq).1
  have hk' := Hk_of hN H'
  obtain ⟨hs, hl, hm⟩ := h
  have hop : (hTopple x c).2.2.2.1 = x.2.2.2.1 := hTopple_op
  have hsl : (hTopple x c).2.2.1 = x.2.2.1 := topple_sl
  have hl1 : ∀ k ∈ qRem c (c :: r), k < 25 := fun k hk => hl k (mem_qRem.mp hk).1
  have hs1 : Srt x.1 (qRem c (c :: r)) := qRem_srt hs
  -- a cell that isn't near the two stays as it was
  have far : ∀ k, k < 25 → k ∉ c :: nbL c → (hLow x.1 x.2.2.2.1 c = 25 ∨ k ∉ hLow x.1 x.2.2.2.1 c :: nbL (hLow x.1 x.2.2.2.1 c)) → (Unst (hTopple x c).1 (hTopple x c).2.2.2.1 (hTopple x c).2.2.1 k ↔ Unst x.1 x.2.2.2.1 x.2.2.1 k) := fun k hk n1 n2 => by
    have e : hSteep (hTopple x c).1 x.2.2.2.1 k = hSteep x.1 x.2.2.2.1 k := by
      refine steep_same (topple_f (fun z => n1 (by rw [z]; exact List.mem_cons_self)) (n2.imp id (fun n2 z => n2 (by rw [← z]; exact List.mem_cons_self)))) (fun s hs => ?_)
      refine topple_f (fun z => n1 (List.mem_cons_of_mem _ (nb_sym hk hs z hc))) ?_
      rcases n2 with n2 | n2
      · exact Or.inl n2
      · rcases Decidable.em (hLow x.1 x.2.2.2.1 c = 25) with q | q
        · exact Or.inl q
        · exact Or.inr (fun z => n2 (List.mem_cons_of_mem _ (nb_sym hk hs z (by have := hLow_lt (f := x.1) (op := x.2.2.2.1) hc; omega))))
    show ¬ hSteep _ _ k < _ ↔ ¬ hSteep _ _ k < _
    rw [hop, hsl, e]
  have near : ∀ k, k < 25 → k ≠ c → (k ∈ qRem c (c :: r) ↔ Unst x.1 x.2.2.2.1 x.2.2.1 k) := fun k hk hkc => by
    rw [mem_qRem]
    exact ⟨fun z => (hm k hk).mp z.1, fun z => ⟨(hm k hk).mpr z, hkc⟩⟩
  unfold qAfter
  by_cases q : hLow x.1 x.2.2.2.1 c = 25
  · rw [if_pos q, qRA_RF]
    have hs2 : Srt (hTopple x c).1 (qRem c (c :: r)) := Srt_congr (fun k hk => topple_f (mem_qRem.mp hk).2 (Or.inl q)) hs1
    obtain ⟨r1, r2⟩ := RF_ok (op := (hTopple x c).2.2.2.1) (sl := (hTopple x c).2.2.1) hk' (es := c :: nbL c) (nbL_lt hc) hl1 hs2
    refine ⟨r1, fun k hk => ?_, fun k hk => ?_⟩
    · rcases (r2 k).mp hk with ⟨z, -⟩ | ⟨-, z⟩
      · exact nbL_lt hc k z
      · exact hl1 k z
    · rw [r2 k]
      by_cases z : k ∈ c :: nbL c
      · simp only [z, true_and, not_true_eq_false, false_and, or_false]
      · simp only [z, false_and, not_false_eq_true, true_and, false_or]
        rw [near k hk (fun e => z (by rw [e]; exact List.mem_cons_self)), far k hk z (Or.inl q)]
  · rw [if_neg q, qRA_RF, qRA_RF, ← RF_app]
    have hr : hLow x.1 x.2.2.2.1 c < 25 := by have := hLow_lt (f := x.1) (op := x.2.2.2.1) hc; omega
    generalize hLr : hLow x.1 x.2.2.2.1 c = rr at *
    -- the receiver is refreshed first
    have hs2 : Srt (hTopple x c).1 (qRem rr (qRem c (c :: r))) := Srt_congr (fun k hk => topple_f (mem_qRem.mp (mem_qRem.mp hk).1).2 (Or.inr (by rw [hLr]; exact (mem_qRem.mp hk).2))) (qRem_srt hs1)
    have hs3 := qRef_srt (op := (hTopple x c).2.2.2.1) (sl := (hTopple x c).2.2.1) hk' hr hl1 hs2
    have hl3 : ∀ k ∈ qRef (hTopple x c).1 (hTopple x c).2.2.2.1 (hTopple x c).2.2.1 rr (qRem c (c :: r)), k < 25 := fun k hk => by
      rcases mem_qRef.mp hk with ⟨rfl, -⟩ | ⟨-, z⟩
      · exact hr
      · exact hl1 k z
    have hes : ∀ e ∈ nbL rr ++ c :: nbL c, e < 25 := fun e he => by
      rcases List.mem_append.mp he with z | z
      · exact nbL_lt hr e (List.mem_cons_of_mem _ z)
      · exact nbL_lt hc e z
    obtain ⟨r1, r2⟩ := RF_ok (op := (hTopple x c).2.2.2.1) (sl := (hTopple x c).2.2.1) hk' (es := nbL rr ++ c :: nbL c) hes hl3 hs3
    refine ⟨r1, fun k hk => ?_, fun k hk => ?_⟩
    · rcases (r2 k).mp hk with ⟨z, -⟩ | ⟨-, z⟩
      · exact hes k z
      · exact hl3 k z
    · show k ∈ RF _ _ _ (nbL rr ++ c :: nbL c) (qRef _ _ _ rr _) ↔ _
      rw [r2 k, mem_qRef]
      by_cases z : k ∈ nbL rr ++ c :: nbL c
      · simp only [z, true_and, not_true_eq_false, false_and, or_false]
      · simp only [z, false_and, not_false_eq_true, true_and, false_or]
        by_cases z2 : k = rr
        · subst z2
          simp
        · simp only [z2, false_and, ne_eq, not_false_eq_true, true_and, false_or]
          have z3 : k ∉ c :: nbL c := fun e => z (List.mem_append_right _ e)
          rw [near k hk (fun e => z3 (by rw [e]; exact List.mem_cons_self)), far k hk z3 (Or.inr (fun e => by
            rcases List.mem_cons.mp e with e | e
            · exact z2 e
            · exact z (List.mem_append_left _ e)))]
theorem QI_fill {N : Nat} (hN : N < 400) {x : hv} (H : HInv N x) : QI x (qFill x.1 x.2.2.2.1 x.2.2.1 25) := by
  have hk := Hk_of hN H
  have key : ∀ c, c ≤ 25 → Srt x.1 (qFill x.1 x.2.2.2.1 x.2.2.1 c) ∧ ∀ k, k ∈ qFill x.1 x.2.2.2.1 x.2.2.1 c ↔ k < c ∧ Unst x.1 x.2.2.2.1 x.2.2.1 k := by
    intro c
    induction c with
    | zero => exact fun _ => ⟨List.Pairwise.nil, fun k => by simp [qFill]⟩
    | succ c ih =>
      intro hc
      obtain ⟨i1, i2⟩ := ih (by omega)
      have hl : ∀ k ∈ qFill x.1 x.2.2.2.1 x.2.2.1 c, k < 25 := fun k hk => by have := ((i2 k).mp hk).1; omega
      refine ⟨qRef_srt hk (by omega) hl (qRem_srt i1), fun k => ?_⟩
      show k ∈ qRef _ _ _ c _ ↔ _
      rw [mem_qRef, i2 k]
      constructor
      · rintro (⟨rfl, h⟩ | ⟨h1, h2, h3⟩)
        · exact ⟨Nat.lt_succ_self k, h⟩
        · exact ⟨by omega, h3⟩
      · rintro ⟨h1, h2⟩
        by_cases z : k = c
        · subst z; exact Or.inl ⟨rfl, h2⟩
        · exact Or.inr ⟨z, by omega, h2⟩
  obtain ⟨k1, k2⟩ := key 25 (Nat.le_refl 25)
  exact ⟨k1, fun k hk => ((k2 k).mp hk).1, fun k hk => (k2 k).trans ⟨fun z => z.2, fun z => ⟨hk, z⟩⟩⟩
theorem qRun_rest {N : Nat} (hN : N < 400) : ∀ (n : Nat) (x : hv) (l : List Nat), HInv N x → QI x l → qRun n x l = (hRest n x).1
  | 0, _, _, _, _ => rfl
  | n + 1, x, [], _, h => by
    rw [hRest_none (QI_nil h)]
    rfl
  | n + 1, x, c :: r, H, h => by
    have hq := QI_head h
    rw [hRest_some hq]
    show qRun n (hTopple x c) (qAfter x c (c :: r)) + 1 = _
    rw [qRun_rest hN n _ _ (topple_inv hN H hq).1 (QI_step hN H h)]
/-- the queue counts what the scan counts -/
theorem queue_scan {N : Nat} (hN : N < 400) {x : hv} (H : HInv N x) : qRunF x (qFill x.1 x.2.2.2.1 x.2.2.1 25) = (hRestF x).1 := qRun_rest hN 50000 x _ H (QI_fill hN H)
end QQ
