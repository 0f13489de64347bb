section TC
def mBack (k : Nat) (v : Value) : Value := match v with
  | .ref _ => .ref k
  | x => x
/-- what the small world of a builder's method says at its end: the text tx' -/
def mTx (w' : mW) (tx' : List Nat) : Prop := ∃ (vh cap' : Nat) (a' : Nat → Int32) (ml' : Int32), w'[0]? = some (mO 1 [.ref vh, .int 0, .int ml', .int (nI tx'.length)]) ∧ w'[vh]? = some (mI 5 cap' a') ∧ tx'.length ≤ cap' ∧ cap' ≤ 65536 ∧ sb_Lat (fun i => tx'.getD i 0) tx'.length a' ∧ sb_Fit a'
theorem nodup_get {l : List Nat} : l.Nodup ↔ ∀ (i j x : Nat), l[i]? = some x → l[j]? = some x → i = j := by
  constructor
  · intro h i j x hi hj
    obtain ⟨li, ei⟩ := List.getElem?_eq_some_iff.mp hi
    obtain ⟨lj, ej⟩ := List.getElem?_eq_some_iff.mp hj
    rcases Nat.lt_trichotomy i j with z | z | z
    · exact absurd (ei.trans ej.symm) (List.pairwise_iff_getElem.mp h i j li lj z)
    · exact z
    · exact absurd (ej.trans ei.symm) (List.pairwise_iff_getElem.mp h j i lj li z)
  · intro h
    refine List.pairwise_iff_getElem.mpr (fun i j hi hj hij e => ?_)
    have := h i j l[j] (by rw [List.getElem?_eq_getElem hi, e]) (List.getElem?_eq_getElem hj)
    omega
theorem va_at_lt {D : va_G} {ws : va_W} {H : Heap} (hP : va_P D vwCl ws H) {q : Nat × va_E} (hq : q ∈ ws) : q.1 < H.size := by
  obtain ⟨i, hi⟩ := List.getElem?_of_mem hq
  exact (hP i q hi).lt
/-- the text of one builder changes: the cells of the small world go back into the large one -/
theorem text_back {D : va_G} {dt : Nat → ClassId} {ad ad' : Nat → Nat} {w w' : mW} {ws ws' : va_W} {sz k : Nat} {tx' : List Nat} {H T : Heap} {o1 : va_E} {bs : List (Nat × va_E)}
    (hkl : k < w.length) (hsz : H.size = sz) (hP : va_P D vwCl ws H) (hD : va_D (fun _ => True) ws)
    (h1 : ∀ (i t : Nat) (a : vp_A), i ≠ k → w[i]? = some (.inl (t, a)) → (ad i, .inl (dt t, trA ad a)) ∈ ws)
    (h2 : ∀ (i c : Nat) (fs : List Value), i ≠ k → w[i]? = some (mO c fs) → (ad i, .inr (c, fs.map (trV ad))) ∈ ws)
    (h3 : ∀ i j : Nat, i < w.length → j < w.length → ad i = ad j → i = j) (h4 : w.length ≤ 999999) {sv : Nat → Nat}
    (h5 : ∀ (i : Nat) (tx : List Nat), i ≠ k → w[i]? = some (mT tx) → ∃ (cap : Nat) (a : Nat → Int32) (ml : Int32), (ad i, .inr (1, [.ref (sv i), .int 0, .int ml, .int (nI tx.length)])) ∈ ws ∧ (sv i, .inl (dt 5, cap, .inl a)) ∈ ws ∧ tx.length ≤ cap ∧ cap ≤ 65536 ∧ sb_Lat (fun j => tx.getD j 0) tx.length a ∧ sb_Fit a)
    (h6 : ∀ (i j : Nat) (x y : List Nat), i ≠ k → j ≠ k → w[i]? = some (mT x) → w[j]? = some (mT y) → sv i = sv j → i = j) (h7 : ∀ (i j : Nat) (x : List Nat), i ≠ k → w[i]? = some (mT x) → j < w.length → sv i ≠ ad j)
    (hk1 : (ad k, o1) ∈ ws) (hbs : ∀ b ∈ bs, b ∈ ws ∧ (∀ j, j < w.length → b.1 ≠ ad j) ∧ ∀ i x, i ≠ k → w[i]? = some (mT x) → b.1 ≠ sv i) (hbl : bs.length ≤ 1)
    (ho : ad' 0 = ad k) (htx : mTx w' tx') (hpic' : mPic dt ad' w' ws') (hPt : va_P D vwCl ws' T) (hDt : va_D (va_A ((ad k, o1) :: bs) sz) ws') (hF : H.size ≤ T.size ∧ ∀ q : Nat, q < H.size → ¬ va_A ((ad k, o1) :: bs) sz q → T[q]? = H[q]?) :
    ∃ ws9, mPic dt ad (w.set k (mT tx')) ws9 ∧ va_P D vwCl ws9 T ∧ va_D (va_A ws sz) ws9 := by
  obtain ⟨vh, cap', a', ml', g0, g1, g2, g3, g4, g5⟩ := htx
  have hvl := lt_of_get g1
  have h0l := lt_of_get g0
  have hv0 : vh ≠ 0 := fun e => by rw [e, g0] at g1; cases g1
  have e0 : (ad k, .inr (1, [.ref (ad' vh), .int 0, .int ml', .int (nI tx'.length)])) ∈ ws' := by
    have := hpic'.2.1 0 1 _ g0
    rw [ho] at this
    exact this
  have e1 : (ad' vh, .inl (dt 5, cap', .inl a')) ∈ ws' := hpic'.1 vh 5 _ g1
  have hne : ad' vh ≠ ad k := fun e => hv0 (hpic'.2.2.1 vh 0 hvl h0l (e.trans ho.symm))
  have hA9 : va_A ((ad k, o1) :: bs) sz (ad' vh) := by
    obtain ⟨i, hi⟩ := List.getElem?_of_mem e1
    exact hDt.2 i _ hi
  have hA : (∃ b ∈ bs, b.1 = ad' vh) ∨ sz ≤ ad' vh := by
    rcases hA9 with ⟨i, e, hi⟩ | hi
    · cases i with
      | zero => simp at hi; exact absurd hi.1.symm hne
      | succ i => exact Or.inl ⟨_, List.mem_of_getElem? (by simpa using hi), rfl⟩
    · exact Or.inr hi
  -- the large list without the old bytes
  have hlt : ∀ q ∈ ws, q.1 < sz := fun q hq => hsz ▸ va_at_lt hP hq
  have hfar : ∀ q ∈ ws, (∀ b ∈ bs, q.1 ≠ b.1) → q.1 ≠ ad' vh := fun q hq hb e => by
    rcases hA with ⟨b, hb1, hb2⟩ | hA
    · exact hb b hb1 (e.trans hb2.symm)
    · have := hlt q hq
      omega
  have hP0 : ∀ q ∈ ws, va_at D vwCl q H := fun q hq => by
    obtain ⟨i, hi⟩ := List.getElem?_of_mem hq
    exact hP i q hi
  have hP1 : ∀ q ∈ ws', va_at D vwCl q T := fun q hq => by
    obtain ⟨i, hi⟩ := List.getElem?_of_mem hq
    exact hPt i q hi
  have hkeep : ∀ q ∈ ws, q.1 ≠ ad k → (∀ b ∈ bs, q.1 ≠ b.1) → va_at D vwCl q T := fun q hq n1 n2 => by
    refine (hP0 q hq).kept (hF.2 q.1 (va_at_lt hP hq) (fun hA => ?_))
    rcases hA with ⟨i, e, hi⟩ | hi
    · cases i with
      | zero => simp at hi; exact n1 hi.1.symm
      | succ i => exact n2 (q.1, e) (List.mem_of_getElem? (i := i) (by simpa using hi)) rfl
    · have := hlt q hq
      omega
  let good : Nat × va_E → Bool := fun q => decide (q.1 ≠ ad k) && bs.all (fun b => decide (q.1 ≠ b.1))
  have hgood : ∀ q, good q = true ↔ q.1 ≠ ad k ∧ ∀ b ∈ bs, q.1 ≠ b.1 := fun q => by
    simp only [good, Bool.and_eq_true, decide_eq_true_eq, List.all_eq_true]
  have hnd : (ws.map (fun q => q.1)).Nodup := by
    refine nodup_get.mpr (fun i j x hi hj => ?_)
    rw [List.getElem?_map] at hi hj
    obtain ⟨p, hp9, e1⟩ := Option.map_eq_some_iff.mp hi
    obtain ⟨q, hq9, e2⟩ := Option.map_eq_some_iff.mp hj
    exact hD.1 i j p q hp9 hq9 (e1.trans e2.symm)
  have hmem : ∀ q, q ∈ ws.filter good ++ [(ad k, .inr (1, [.ref (ad' vh), .int 0, .int ml', .int (nI tx'.length)])), (ad' vh, .inl (dt 5, cap', .inl a'))] → (q ∈ ws ∧ q.1 ≠ ad k ∧ ∀ b ∈ bs, q.1 ≠ b.1) ∨ (q ∈ ws' ∧ (q.1 = ad k ∨ q.1 = ad' vh)) := fun q hq => by
    rcases List.mem_append.mp hq with hq | hq
    · obtain ⟨q1, q2⟩ := List.mem_filter.mp hq
      exact Or.inl ⟨q1, (hgood q).mp q2⟩
    · simp only [List.mem_cons, List.not_mem_nil, or_false] at hq
      rcases hq with rfl | rfl
      · exact Or.inr ⟨e0, Or.inl rfl⟩
      · exact Or.inr ⟨e1, Or.inr rfl⟩
  have hin : ∀ q ∈ ws, q.1 ≠ ad k → (∀ b ∈ bs, q.1 ≠ b.1) → q ∈ ws.filter good ++ [(ad k, .inr (1, [.ref (ad' vh), .int 0, .int ml', .int (nI tx'.length)])), (ad' vh, .inl (dt 5, cap', .inl a'))] := fun q hq n1 n2 => List.mem_append_left _ (List.mem_filter.mpr ⟨hq, (hgood q).mpr ⟨n1, n2⟩⟩)
  have hown : ∀ i, i < w.length → i ≠ k → ∃ y, (ad i, y) ∈ ws := fun i hi hik => by
    obtain ⟨c', e⟩ : ∃ c', w[i]? = some c' := ⟨w[i], List.getElem?_eq_getElem hi⟩
    match c', e with
    | .inl (t, a), e => exact ⟨_, h1 i t a hik e⟩
    | .inr (.inl (ci, fs)), e => exact ⟨_, h2 i ci fs hik e⟩
    | .inr (.inr tx), e => obtain ⟨cap, a, ml, m1, -⟩ := h5 i tx hik e; exact ⟨_, m1⟩
  have hadk : ∀ i, i < w.length → i ≠ k → ad i ≠ ad k := fun i hi hik e => hik (h3 i k hi hkl e)
  have hbad : ∀ i, i < w.length → ∀ b ∈ bs, ad i ≠ b.1 := fun i hi b hb e => (hbs b hb).2.1 i hi e.symm
  have hcase : ∀ {i : Nat} {c : mE}, (w.set k (mT tx'))[i]? = some c → (i = k ∧ c = mT tx') ∨ (i ≠ k ∧ w[i]? = some c) := fun {i c} e => by
    by_cases z : k = i
    · subst z
      rw [List.getElem?_set_self hkl] at e
      exact Or.inl ⟨rfl, (Option.some.inj e).symm⟩
    · rw [List.getElem?_set_ne z] at e
      exact Or.inr ⟨fun q => z q.symm, e⟩
  refine ⟨ws.filter good ++ [(ad k, .inr (1, [.ref (ad' vh), .int 0, .int ml', .int (nI tx'.length)])), (ad' vh, .inl (dt 5, cap', .inl a'))], ⟨fun i t a e => ?_, fun i c fs e => ?_, ?_, ?_, fun i => if i = k then ad' vh else sv i, fun i tx e => ?_, fun i j x y ei ej e => ?_, fun i j x e hj => ?_⟩, fun i q hi => ?_, fun i j p q hi hj e => ?_, fun i q hi => ?_⟩
  · rcases hcase e with ⟨-, e⟩ | ⟨hik, e⟩
    · cases e
    · exact hin _ (h1 i t a hik e) (hadk i (lt_of_get e) hik) (hbad i (lt_of_get e))
  · rcases hcase e with ⟨-, e⟩ | ⟨hik, e⟩
    · cases e
    · exact hin _ (h2 i c fs hik e) (hadk i (lt_of_get e) hik) (hbad i (lt_of_get e))
  · rw [List.length_set]; exact h3
  · rw [List.length_set]; exact h4
  · rcases hcase e with ⟨rfl, e2⟩ | ⟨hik, e⟩
    · cases e2
      refine ⟨cap', a', ml', ?_⟩
      show (ad i, Sum.inr (1, [Value.ref (if i = i then ad' vh else sv i), _, _, _])) ∈ _ ∧ ((if i = i then ad' vh else sv i), _) ∈ _ ∧ _
      rw [if_pos rfl]
      exact ⟨List.mem_append_right _ List.mem_cons_self, List.mem_append_right _ (List.mem_cons_of_mem _ List.mem_cons_self), g2, g3, g4, g5⟩
    · obtain ⟨cap, a, ml, m1, m2, m3⟩ := h5 i tx hik e
      refine ⟨cap, a, ml, ?_⟩
      show (ad i, Sum.inr (1, [Value.ref (if i = k then ad' vh else sv i), _, _, _])) ∈ _ ∧ ((if i = k then ad' vh else sv i), _) ∈ _ ∧ _
      rw [if_neg hik]
      exact ⟨hin _ m1 (hadk i (lt_of_get e) hik) (hbad i (lt_of_get e)), hin _ m2 (h7 i k tx hik e hkl) (fun b hb z => (hbs b hb).2.2 i tx hik e z.symm), m3⟩
  · rcases hcase ei with ⟨rfl, -⟩ | ⟨hik, ei2⟩
    · rcases hcase ej with ⟨rfl, -⟩ | ⟨hjk, ej2⟩
      · rfl
      · have e : (if i = i then ad' vh else sv i) = (if j = i then ad' vh else sv j) := e
        rw [if_pos rfl, if_neg hjk] at e
        obtain ⟨cap, a, ml, m1, m2, m3⟩ := h5 j y hjk ej2
        exact absurd e.symm (hfar _ m2 (fun b hb z => (hbs b hb).2.2 j y hjk ej2 z.symm))
    · rcases hcase ej with ⟨rfl, -⟩ | ⟨hjk, ej2⟩
      · have e : (if i = j then ad' vh else sv i) = (if j = j then ad' vh else sv j) := e
        rw [if_neg hik, if_pos rfl] at e
        obtain ⟨cap, a, ml, m1, m2, m3⟩ := h5 i x hik ei2
        exact absurd e (hfar _ m2 (fun b hb z => (hbs b hb).2.2 i x hik ei2 z.symm))
      · have e : (if i = k then ad' vh else sv i) = (if j = k then ad' vh else sv j) := e
        rw [if_neg hik, if_neg hjk] at e
        exact h6 i j x y hik hjk ei2 ej2 e
  · rw [List.length_set] at hj
    rcases hcase e with ⟨rfl, -⟩ | ⟨hik, e⟩
    · show (if i = i then ad' vh else sv i) ≠ ad j
      rw [if_pos rfl]
      by_cases hjk : j = i
      · rw [hjk]; exact hne
      · obtain ⟨y, hy⟩ := hown j hj hjk
        exact fun z => hfar _ hy (hbad j hj) z.symm
    · show (if i = k then ad' vh else sv i) ≠ ad j
      rw [if_neg hik]
      exact h7 i j x hik e hj
  · rcases hmem q (List.mem_of_getElem? hi) with ⟨q1, q2, q3⟩ | ⟨q1, -⟩
    · exact hkeep q q1 q2 q3
    · exact hP1 q q1
  · have hnd9 : ((ws.filter good ++ [(ad k, .inr (1, [.ref (ad' vh), .int 0, .int ml', .int (nI tx'.length)])), (ad' vh, .inl (dt 5, cap', .inl a'))] : va_W).map (fun q => q.1)).Nodup := by
      rw [List.map_append, List.nodup_append]
      refine ⟨hnd.sublist (List.filter_sublist.map _), ?_, fun x hx y hy => ?_⟩
      · show [ad k, ad' vh].Nodup
        simp
        exact fun z => hne z.symm
      · obtain ⟨q, hq, rfl⟩ := List.mem_map.mp hx
        obtain ⟨q1, q2⟩ := List.mem_filter.mp hq
        have q3 := (hgood q).mp q2
        have hy : y = ad k ∨ y = ad' vh := by simpa using hy
        rcases hy with rfl | rfl
        · exact q3.1
        · exact hfar q q1 q3.2
    refine nodup_get.mp hnd9 i j p.1 ?_ ?_
    · rw [List.getElem?_map, hi]
      rfl
    · rw [List.getElem?_map, hj, e]
      rfl
  · rcases hmem q (List.mem_of_getElem? hi) with ⟨q1, -⟩ | ⟨q1, q2⟩
    · obtain ⟨i9, hi9⟩ := List.getElem?_of_mem q1
      exact Or.inl ⟨i9, q.2, hi9⟩
    · rcases q2 with q2 | q2
      · obtain ⟨i9, hi9⟩ := List.getElem?_of_mem hk1
        exact Or.inl ⟨i9, o1, by rw [q2]; exact hi9⟩
      · rcases hA with ⟨b, hb1, hb2⟩ | hA
        · obtain ⟨i9, hi9⟩ := List.getElem?_of_mem (hbs b hb1).1
          exact Or.inl ⟨i9, b.2, by rw [q2, ← hb2]; exact hi9⟩
        · exact Or.inr (by rw [q2]; exact hA)
theorem va_key {D : va_G} {ws : va_W} {H : Heap} (hP : va_P D vwCl ws H) {q : Nat × va_E} (hq : q ∈ ws) : va_at D vwCl q H := by
  obtain ⟨i, hi⟩ := List.getElem?_of_mem hq
  exact hP i q hi
theorem Sp.text {d : Nat} {y : MethodName} {cc : ByteArray} {nL : Nat} {ret : Option FieldType} {w : mW} {k : Nat} {tx : List Nat} {vs : List Value} {mc ms : Nat} {P : Option Value → List Nat → Prop} (hk : w[k]? = some (mT tx)) (hvs : mLows 0 vs)
    (h : ∀ (cap : Nat) (a : Nat → Int32) (ml : Int32), tx.length ≤ cap → cap ≤ 65536 → sb_Lat (fun i => tx.getD i 0) tx.length a → sb_Fit a → SpN d y cc nL ret (.ref 0 :: vs) [mO 1 [.ref 1, .int 0, .int ml, .int (nI tx.length)], mI 5 cap a] mc ms (fun v w' => ∃ tx', mTx w' tx' ∧ (v = some (.ref 0) ∨ ∀ z, v ≠ some (.ref z)) ∧ P v tx')) :
    Sp d y cc nL ret (.ref k :: vs) w mc ms (fun v w' => ∃ v0 tx', P v0 tx' ∧ v = v0.map (mBack k) ∧ w' = w.set k (mT tx')) noX := by
  intro l hl9 D dt ad ws sz hp
  have hkl := lt_of_get hk
  obtain ⟨h1, h2, h3, h4, sv, h5, h6, h7⟩ := hp
  obtain ⟨cap, a, ml, m1, m2, c1, c2, c3, c4⟩ := h5 k tx hk
  have hne : sv k ≠ ad k := h7 k k tx hk hkl
  obtain ⟨ad2, a0, a1, hok⟩ : ∃ ad2 : Nat → Nat, ad2 0 = ad k ∧ ad2 1 = sv k ∧ mAdOk 0 ad ad2 := ⟨fun i => if i = 0 then ad k else if i = 1 then sv k else ad i, rfl, rfl, fun i hi => absurd hi (Nat.not_lt_zero i), fun i hi => by show (if i = 0 then ad k else if i = 1 then sv k else ad i) = ad i; rw [if_neg (by omega), if_neg (by omega)]⟩
  have hpic : mPic dt ad2 [mO 1 [.ref 1, .int 0, .int ml, .int (nI tx.length)], mI 5 cap a] [(ad k, .inr (1, [.ref (sv k), .int 0, .int ml, .int (nI tx.length)])), (sv k, .inl (dt 5, cap, .inl a))] := by
    refine ⟨fun i t b e => ?_, fun i c fs e => ?_, fun i j hi hj e => ?_, (show 2 ≤ 999999 by decide), fun _ => 0, fun i x e => ?_, fun i j x y e => ?_, fun i j x e => ?_⟩
    · match i, e with
      | 1, e => simp at e; obtain ⟨rfl, rfl⟩ := e; rw [a1]; exact List.mem_cons_of_mem _ List.mem_cons_self
      | i + 2, e => simp at e
    · match i, e with
      | 0, e =>
        simp at e
        obtain ⟨rfl, rfl⟩ := e
        rw [a0]
        show (ad k, Sum.inr (1, [Value.ref (ad2 1), _, _, _])) ∈ _
        rw [a1]
        exact List.mem_cons_self
      | i + 2, e => simp at e
    · match i, j, hi, hj, e with
      | 0, 0, _, _, _ => rfl
      | 0, 1, _, _, e => rw [a0, a1] at e; exact absurd e.symm hne
      | 1, 0, _, _, e => rw [a0, a1] at e; exact absurd e hne
      | 1, 1, _, _, _ => rfl
      | i + 2, _, hi, _, _ => exact absurd hi (by simp)
      | _, j + 2, _, hj, _ => exact absurd hj (by simp)
    · match i, e with
      | i + 2, e => simp at e
    · match i, e with
      | i + 2, e => simp at e
    · match i, e with
      | i + 2, e => simp at e
  have hM := h cap a ml c1 c2 c3 c4 l hl9 D dt ad2 _ sz hpic
  have hsub : ∀ q, va_A [(ad k, .inr (1, [.ref (sv k), .int 0, .int ml, .int (nI tx.length)])), (sv k, .inl (dt 5, cap, .inl a))] sz q → va_A ws sz q := fun q hq => by
    rcases hq with ⟨i, e, hi⟩ | hq
    · have hm : (q, e) ∈ ws := by
        have := List.mem_of_getElem? hi
        simp only [List.mem_cons, List.not_mem_nil, or_false] at this
        rcases this with r | r
        · rw [r]; exact m1
        · rw [r]; exact m2
      obtain ⟨i9, hi9⟩ := List.getElem?_of_mem hm
      exact Or.inl ⟨i9, e, hi9⟩
    · exact Or.inr hq
  refine Jvm.Free.MetFree.mono hM (fun args st hv => ?_) (fun _ _ _ _ _ _ => trivial) (fun args st o t hv hQ => ?_)
  · obtain ⟨e9, hsz, hP, hK, hD, hG⟩ := hv
    refine ⟨?_, hsz, fun i q hi => ?_, hK, ⟨fun i j p q hi hj e => ?_, fun _ _ _ => trivial⟩, (hG.ad hok).narrow hsub⟩
    · rw [e9, List.map_cons, List.map_cons, trVs_ok hok hvs]
      show _ = (Value.ref (ad2 0) :: _).toArray
      rw [a0]
      rfl
    · have := List.mem_of_getElem? hi
      simp only [List.mem_cons, List.not_mem_nil, or_false] at this
      rcases this with rfl | rfl
      · exact va_key hP m1
      · exact va_key hP m2
    · match i, j, hi, hj with
      | 0, 0, _, _ => rfl
      | 0, 1, hi, hj => simp at hi hj; subst hi hj; exact absurd e.symm hne
      | 1, 0, hi, hj => simp at hi hj; subst hi hj; exact absurd e hne
      | 1, 1, _, _ => rfl
      | i + 2, _, hi, _ => simp at hi
      | _, j + 2, _, hj => simp at hj
  · obtain ⟨e9, hsz, hP, hK, hD, hG⟩ := hv
    rcases hQ with ⟨⟨⟨ad', v, w', ws', hok', hge, ho, ⟨tx', htx, hv9, hPv⟩, hpic', hPt, hDt⟩, hF⟩, L, hFE, hL⟩ | ⟨q, hq, E, ce, L, hX, -⟩
    · obtain ⟨ws9, p1, p2, p3⟩ := text_back (o1 := .inr (1, [.ref (sv k), .int 0, .int ml, .int (nI tx.length)])) (bs := [(sv k, .inl (dt 5, cap, .inl a))]) hkl hsz hP hD (fun i t b _ e => h1 i t b e) (fun i c fs _ e => h2 i c fs e) h3 h4 (fun i x _ e => h5 i x e) (fun i j x y _ _ e e' => h6 i j x y e e') (fun i j x _ e hj => h7 i j x e hj) m1 (fun b hb => by
          rw [List.mem_singleton] at hb
          subst hb
          exact ⟨m2, fun j hj => h7 k j tx hk hj, fun i x hik e z => hik (h6 k i tx x hk e z).symm⟩) (Nat.le_refl 1) ((hok'.1 0 (Nat.zero_lt_succ _)).trans a0) htx hpic' hPt hDt hF
      refine Or.inl ⟨⟨⟨v.map (mBack k), w.set k (mT tx'), ws9, ?_, ⟨v, tx', hPv, rfl, rfl⟩, by rw [List.length_set], p1, p2, p3⟩, hF.1, fun q hq1 hq2 => hF.2 q hq1 (fun z => hq2 (hsub q z))⟩, L, hFE, fun q hq => hsub q.base (hL q hq)⟩
      rw [ho]
      rcases hv9 with rfl | hv9
      · show Outcome.returned (some (Value.ref (ad' 0))) = Outcome.returned (some (Value.ref (ad k)))
        rw [hok'.1 0 (Nat.zero_lt_succ _), a0]
      · congr 1
        cases v with
        | none => rfl
        | some v =>
          cases v with
          | ref z => exact absurd rfl (hv9 z)
          | _ => rfl
    · exact hX.elim
end TC
