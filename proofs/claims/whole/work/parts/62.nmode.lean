section NM
/-- the addresses of the first n things and of the constants are kept -/
def mAdOk (n : Nat) (ad ad' : Nat → Nat) : Prop := (∀ i, i < n → ad' i = ad i) ∧ ∀ i, 1000000 ≤ i → ad' i = ad i
theorem mAdOk.rfl {n : Nat} {ad : Nat → Nat} : mAdOk n ad ad := ⟨fun _ _ => Eq.refl _, fun _ _ => Eq.refl _⟩
theorem mAdOk.trans {n n' : Nat} {a b c : Nat → Nat} (h1 : mAdOk n a b) (h2 : mAdOk n' b c) (h : n ≤ n') : mAdOk n a c := ⟨fun i hi => (h2.1 i (by omega)).trans (h1.1 i hi), fun i hi => (h2.2 i hi).trans (h1.2 i hi)⟩
/-- a value that names one of the first n things, or a constant -/
def mLow (n : Nat) (v : Value) : Prop := match v with
  | .ref k => k < n ∨ 1000000 ≤ k
  | _ => True
def mLows (n : Nat) : List Value → Prop
  | [] => True
  | v :: l => mLow n v ∧ mLows n l
theorem mLows.mem {n : Nat} : ∀ {l : List Value}, mLows n l → ∀ v ∈ l, mLow n v
  | [], _, v, h => by cases h
  | a :: l, h, v, hv => by
    rcases List.mem_cons.mp hv with rfl | hv
    · exact h.1
    · exact mLows.mem h.2 v hv
theorem mLow.mono {n n' : Nat} (h : n ≤ n') {v : Value} (hv : mLow n v) : mLow n' v := by
  cases v with
  | ref k =>
    have hv : k < n ∨ 1000000 ≤ k := hv
    show k < n' ∨ 1000000 ≤ k
    exact hv.imp (fun z => Nat.lt_of_lt_of_le z h) (fun z => z)
  | _ => trivial
theorem trV_ok {n : Nat} {ad ad' : Nat → Nat} (h : mAdOk n ad ad') {v : Value} (hv : mLow n v) : trV ad' v = trV ad v := by
  cases v with
  | ref k =>
    unfold mLow at hv
    simp only at hv
    unfold trV
    rcases hv with hv | hv
    · simp only [h.1 k hv]
    · simp only [h.2 k hv]
  | _ => rfl
theorem trVs_ok {n : Nat} {ad ad' : Nat → Nat} (h : mAdOk n ad ad') : ∀ {l : List Value}, mLows n l → l.map (trV ad') = l.map (trV ad)
  | [], _ => rfl
  | v :: l, hl => by rw [List.map_cons, List.map_cons, trV_ok h hl.1, trVs_ok h hl.2]
theorem trL_ok {n : Nat} {ad ad' : Nat → Nat} (h : mAdOk n ad ad') : ∀ {L : List (Nat × Value)}, mLows n (L.map (fun q => q.2)) → trL ad' L = trL ad L
  | [], _ => rfl
  | q :: L, hl => by
    have e := trL_ok h (L := L) hl.2
    unfold trL at *
    rw [List.map_cons, List.map_cons, trV_ok h hl.1, e]
def mConst (v : Value) : Bool := match v with
  | .ref k => decide (1000000 ≤ k)
  | _ => true
theorem trV_const {n : Nat} {ad ad' : Nat → Nat} (h : mAdOk n ad ad') {v : Value} (hv : mConst v = true) : trV ad' v = trV ad v := by
  refine trV_ok h ?_
  cases v with
  | ref k => exact Or.inr (of_decide_eq_true hv)
  | _ => trivial
theorem gTs_const : ∀ x ∈ gTs, 1000000 ≤ x.2.1 ∧ ∀ j, mConst (x.2.2.2 j) = true := by
  have hj : ∀ j : Nat, mConst (.ref (1000020 + j)) = true := fun j => decide_eq_true (show 1000000 ≤ 1000020 + j by omega)
  intro x hx
  simp only [gTs, List.mem_cons, List.not_mem_nil, or_false] at hx
  rcases hx with rfl | rfl | rfl | rfl | rfl | rfl | rfl | rfl | rfl | rfl | rfl | rfl | rfl | rfl | rfl | rfl | rfl | rfl | rfl <;> first | exact ⟨by decide, fun j => rfl⟩ | exact ⟨by decide, hj⟩
theorem gIs_const : ∀ i ∈ gIs, 1000000 ≤ i := by decide
theorem Gl.ad {n : Nat} {ad ad' : Nat → Nat} (h : mAdOk n ad ad') {A : Nat → Prop} {U : State} {H : Heap} (g : Gl ad A U H) : Gl ad' A U H := by
  have z1 : ∀ x ∈ gZs, mConst x.2.2.2 = true := by decide
  have z3 : ∀ x ∈ gOs, 1000000 ≤ x.2 := by decide
  have z4 : ∀ x ∈ gFs, mConst x.2.2.2.1 = true ∧ 1000000 ≤ x.2.2.2.2 := by decide
  have z5 : ∀ x ∈ gRs, 1000000 ≤ x.2.2.2 := by decide
  obtain ⟨g1, g2, g3, g4, g5, g6, g7, g8, g9, g10, g11⟩ := g
  refine ⟨fun x hx => ?_, fun x hx => ?_, fun x hx => ?_, fun x hx => ?_, fun x hx => ?_, fun i j hi hj e => ?_, g7, g8, g9, g10, by unfold Gsf; rw [h.2 1000070 (by decide)]; exact g11⟩
  · rw [trV_const h (z1 x hx)]; exact g1 x hx
  · have := gTs_const x hx
    rw [h.2 _ this.1, show (fun j => trV ad' (x.2.2.2 j)) = fun j => trV ad (x.2.2.2 j) from funext (fun j => trV_const h (this.2 j))]
    exact g2 x hx
  · rw [h.2 _ (z3 x hx)]; exact g3 x hx
  · rw [trV_const h (z4 x hx).1, h.2 _ (z4 x hx).2]; exact g4 x hx
  · rw [h.2 _ (z5 x hx)]; exact g5 x hx
  · rw [h.2 _ (gIs_const i hi), h.2 _ (gIs_const j hj)] at e
    exact g6 i j hi hj e
/-- the fields and places of the world's things name the first n things, or constants -/
def mLowE (n : Nat) (c : mE) : Prop := match c with
  | .inl (_, (_, .inr (.inr (.inr (.inr f))))) => ∀ i b, f i = some b → b < n ∨ 1000000 ≤ b
  | .inl _ => True
  | .inr (.inl (_, fs)) => mLows n fs
  | .inr (.inr _) => True
def mLowW (n : Nat) (w : mW) : Prop := ∀ (k : Nat) (c : mE), w[k]? = some c → mLowE n c
theorem mLows.mono {n n' : Nat} (h : n ≤ n') : ∀ {l : List Value}, mLows n l → mLows n' l
  | [], _ => trivial
  | _ :: _, hl => ⟨mLow.mono h hl.1, mLows.mono h hl.2⟩
theorem mLowE.mono {n n' : Nat} (h : n ≤ n') {c : mE} (hc : mLowE n c) : mLowE n' c := by
  match c, hc with
  | .inl (_, (_, .inl _)), _ => trivial
  | .inl (_, (_, .inr (.inl _))), _ => trivial
  | .inl (_, (_, .inr (.inr (.inl _)))), _ => trivial
  | .inl (_, (_, .inr (.inr (.inr (.inl _))))), _ => trivial
  | .inl (_, (_, .inr (.inr (.inr (.inr f))))), hc => exact fun i b e => by have := hc i b e; omega
  | .inr (.inl (_, fs)), hc => exact mLows.mono (l := fs) h hc
  | .inr (.inr _), _ => trivial
theorem mLowW.mono {n n' : Nat} (h : n ≤ n') {w : mW} (hw : mLowW n w) : mLowW n' w := fun k c e => (hw k c e).mono h
theorem mLowW.set {n k : Nat} {w : mW} {c : mE} (hw : mLowW n w) (hc : mLowE n c) : mLowW n (w.set k c) := fun j c' e => by
  by_cases h : k = j
  · subst h
    rw [List.getElem?_set] at e
    simp only [if_true] at e
    split at e
    · cases e; exact hc
    · cases e
  · rw [List.getElem?_set_ne h] at e
    exact hw j c' e
theorem mLowW.app {n : Nat} {w w2 : mW} (hw : mLowW n w) (h2 : mLowW n w2) : mLowW n (w ++ w2) := fun j c e => by
  rcases Nat.lt_or_ge j w.length with h | h
  · rw [List.getElem?_append_left h] at e
    exact hw j c e
  · rw [List.getElem?_append_right h] at e
    exact h2 _ c e
theorem mLowW.nil {n : Nat} : mLowW n [] := fun j c e => by simp at e
theorem mLowW.cons {n : Nat} {c : mE} {w : mW} (hc : mLowE n c) (hw : mLowW n w) : mLowW n (c :: w) := fun j c' e => by
  cases j with
  | zero => simp at e; subst e; exact hc
  | succ j => exact hw j c' (by simpa using e)
theorem trA_ok {n t : Nat} {ad ad' : Nat → Nat} (h : mAdOk n ad ad') {a : vp_A} (hc : mLowE n (.inl (t, a))) : trA ad' a = trA ad a := by
  match a, hc with
  | (_, .inl _), _ => rfl
  | (_, .inr (.inl _)), _ => rfl
  | (_, .inr (.inr (.inl _))), _ => rfl
  | (_, .inr (.inr (.inr (.inl _)))), _ => rfl
  | (N, .inr (.inr (.inr (.inr f)))), hc =>
    have e9 : (fun i => (f i).map ad') = fun i => (f i).map ad := by
      funext i
      cases e : f i with
      | none => rfl
      | some b =>
        have hb : b < n ∨ 1000000 ≤ b := hc i b e
        show some (ad' b) = some (ad b)
        rcases hb with hb | hb
        · rw [h.1 b hb]
        · rw [h.2 b hb]
    show (N, Sum.inr (Sum.inr (Sum.inr (Sum.inr (fun i => (f i).map ad'))))) = (N, Sum.inr (Sum.inr (Sum.inr (Sum.inr (fun i => (f i).map ad)))))
    rw [e9]
theorem mPic.tie {dt : Nat → ClassId} {ad ad' : Nat → Nat} {w : mW} {ws : va_W} (h : mPic dt ad w ws) {n : Nat} (hok : mAdOk n ad ad') (hn : w.length ≤ n) (hw : mLowW n w) : mPic dt ad' w ws := by
  obtain ⟨h1, h2, h3, h4, sv, h5, h6, h7⟩ := h
  have hk : ∀ {α : Type} {k : Nat} {c : α} {l : List α}, l.length = w.length → l[k]? = some c → ad' k = ad k := fun {α k c l} hl e => hok.1 k (by have := lt_of_get e; omega)
  refine ⟨fun k t a e => ?_, fun k c fs e => ?_, fun i j hi hj e => ?_, h4, sv, fun k tx e => ?_, h6, fun i j x e hj => ?_⟩
  · rw [hok.1 k (by have := lt_of_get e; omega), trA_ok hok (hw k _ e)]
    exact h1 k t a e
  · rw [hok.1 k (by have := lt_of_get e; omega), trVs_ok hok (hw k _ e)]
    exact h2 k c fs e
  · rw [hok.1 i (by omega), hok.1 j (by omega)] at e
    exact h3 i j hi hj e
  · rw [hok.1 k (by have := lt_of_get e; omega)]
    exact h5 k tx e
  · rw [hok.1 j (by omega)]
    exact h7 i j x e hj
/-- what a new thing is in the list of cells -/
def mEnt (dt : Nat → ClassId) (ad : Nat → Nat) (c : mE) (x : va_E) : Prop := match c with
  | .inl (t, a) => x = .inl (dt t, trA ad a)
  | .inr (.inl (ci, fs)) => x = .inr (ci, fs.map (trV ad))
  | .inr (.inr _) => False
theorem mPic.push {dt : Nat → ClassId} {ad : Nat → Nat} {w : mW} {ws : va_W} (h : mPic dt ad w ws) {A : Nat → Prop} {q : Nat} {c : mE} {x : va_E} (hlen : w.length < 999999) (hx : mEnt dt ad c x) (hq : ad w.length = q) (hD : va_D A (ws ++ [(q, x)])) : mPic dt ad (w ++ [c]) (ws ++ [(q, x)]) := by
  obtain ⟨h1, h2, h3, h4, sv, h5, h6, h7⟩ := h
  have hfar : ∀ {b : Nat} {y : va_E}, (b, y) ∈ ws → b ≠ q := fun {b y} hb e => by
    obtain ⟨i, hi⟩ := List.getElem?_of_mem hb
    have hil := lt_of_get hi
    have := hD.1 i ws.length (b, y) (q, x) (by rw [List.getElem?_append_left hil]; exact hi) (by rw [List.getElem?_append_right (Nat.le_refl _)]; simp) e
    omega
  have hin : ∀ {y : Nat × va_E}, y ∈ ws → y ∈ ws ++ [(q, x)] := fun hy => List.mem_append_left _ hy
  have hnew : (q, x) ∈ ws ++ [(q, x)] := List.mem_append_right _ (List.mem_singleton.mpr rfl)
  have hcase : ∀ {k : Nat} {c' : mE}, (w ++ [c])[k]? = some c' → w[k]? = some c' ∨ (k = w.length ∧ c' = c) := fun {k c'} e => by
    rcases Nat.lt_or_ge k w.length with z | z
    · rw [List.getElem?_append_left z] at e; exact Or.inl e
    · rw [List.getElem?_append_right z] at e
      obtain ⟨z2, z3⟩ := List.getElem?_eq_some_iff.mp e
      have z4 : k - w.length = 0 := by simp at z2; omega
      simp [z4] at z3
      exact Or.inr ⟨by omega, z3.symm⟩
  have hcT : ∀ tx, c ≠ mT tx := fun tx e => by rw [e] at hx; exact hx
  have hown : ∀ i, i < w.length → ∃ y, (ad i, y) ∈ ws := fun i hi => by
    obtain ⟨c', e⟩ : ∃ c', w[i]? = some c' := ⟨w[i], List.getElem?_eq_getElem hi⟩
    match c', e with
    | .inl (t, a), e => exact ⟨_, h1 i t a e⟩
    | .inr (.inl (ci, fs)), e => exact ⟨_, h2 i ci fs e⟩
    | .inr (.inr tx), e => obtain ⟨cap, a, ml, m1, -⟩ := h5 i tx e; exact ⟨_, m1⟩
  refine ⟨fun k t a e => ?_, fun k ci fs e => ?_, fun i j hi hj e => ?_, by rw [List.length_append]; simp; omega, sv, fun k tx e => ?_, fun i j xx y hi hj e => ?_, fun i j xx e hj => ?_⟩
  · rcases hcase e with e | ⟨rfl, rfl⟩
    · exact hin (h1 k t a e)
    · rw [hq, ← show x = _ from hx]; exact hnew
  · rcases hcase e with e | ⟨rfl, rfl⟩
    · exact hin (h2 k ci fs e)
    · rw [hq, ← show x = _ from hx]; exact hnew
  · rw [List.length_append] at hi hj
    simp at hi hj
    rcases Nat.lt_or_ge i w.length with zi | zi
    · rcases Nat.lt_or_ge j w.length with zj | zj
      · exact h3 i j zi zj e
      · obtain rfl : j = w.length := by omega
        obtain ⟨y, hy⟩ := hown i zi
        rw [e, hq] at hy
        exact absurd rfl (hfar hy)
    · obtain rfl : i = w.length := by omega
      rcases Nat.lt_or_ge j w.length with zj | zj
      · obtain ⟨y, hy⟩ := hown j zj
        rw [← e, hq] at hy
        exact absurd rfl (hfar hy)
      · omega
  · rcases hcase e with e | ⟨-, e⟩
    · obtain ⟨cap, a, ml, m1, m2, m3⟩ := h5 k tx e
      exact ⟨cap, a, ml, hin m1, hin m2, m3⟩
    · exact absurd e.symm (hcT tx)
  · rcases hcase hi with hi | ⟨-, z⟩
    · rcases hcase hj with hj | ⟨-, z⟩
      · exact h6 i j xx y hi hj e
      · exact absurd z.symm (hcT y)
    · exact absurd z.symm (hcT xx)
  · rcases hcase e with e | ⟨-, z⟩
    · rw [List.length_append] at hj
      simp at hj
      rcases Nat.lt_or_ge j w.length with zj | zj
      · exact h7 i j xx e zj
      · obtain rfl : j = w.length := by omega
        rw [hq]
        obtain ⟨cap, a, ml, m1, m2, m3⟩ := h5 i xx e
        exact hfar m2
    · exact absurd z.symm (hcT xx)
-- walks in which things are made
def mSet (X : mC) (ad' : Nat → Nat) : mC := match X with
  | (p, l, e, R, s, m, args, below, meth, c, Q, D, dt, _, A, nL) => (p, l, e, R, s, m, args, below, meth, c, Q, D, dt, ad', A, nL)
/-- the same walk, the addresses of new things added -/
def mTie (n : Nat) (X X1 : mC) : Prop := ∃ ad', mAdOk n (mAd X) ad' ∧ X1 = mSet X ad'
theorem Cx.tie {n : Nat} {X X1 : mC} {own : String} {cc : ByteArray} {d mc ms : Nat} (h : mTie n X X1) (hC : Cx X own cc d mc ms) : Cx X1 own cc d mc ms := by
  obtain ⟨p, l, e, R, s, m, args, below, meth, c, Q, D, dt, ad, A, nL⟩ := X
  obtain ⟨ad', hok, rfl⟩ := h
  obtain ⟨hx, hb, hml, hown, hts, hlk, htr, hK, hA, hG, hfr⟩ := hC
  exact ⟨hx, hb, hml, hown, hts, hlk, htr, hK, hA, hG.ad hok, hfr⟩
theorem mNL.tie {n : Nat} {X X1 : mC} (h : mTie n X X1) : mNL X1 = mNL X := by
  obtain ⟨ad', hok, rfl⟩ := h
  rfl
theorem mRet.tie {n : Nat} {X X1 : mC} {ret : Option FieldType} (h : mTie n X X1) (hR : mRet X ret) : mRet X1 ret := by
  obtain ⟨ad', hok, rfl⟩ := h
  exact hR
theorem mNoTab.tie {n : Nat} {X X1 : mC} (h : mTie n X X1) (hR : mNoTab X) : mNoTab X1 := by
  obtain ⟨ad', hok, rfl⟩ := h
  exact hR
/-- what a method that makes things gives at its end -/
def mQcN (D : va_G) (dt : Nat → ClassId) (ad : Nat → Nat) (A : Nat → Prop) (n0 : Nat) (P : Option Value → mW → Prop) : Array Value → State → Outcome → State → Prop := fun _ st o t =>
  (∃ (ad' : Nat → Nat) (v : Option Value) (w' : mW) (ws' : va_W), mAdOk n0 ad ad' ∧ n0 ≤ w'.length ∧ o = .returned (v.map (trV ad')) ∧ P v w' ∧ mPic dt ad' w' ws' ∧ va_P D vwCl ws' t.heap ∧ va_D A ws') ∧ va_F A st t
def mXc0 : String → State → State → Prop := fun _ _ _ => False
/-- THE CONTRACT of a method that makes things -/
def SpN (d : Nat) (y : MethodName) (cc : ByteArray) (nL : Nat) (ret : Option FieldType) (vs : List Value) (w : mW) (mc ms : Nat) (P : Option Value → mW → Prop) : Prop :=
  ∀ (l : Launch) (_ : l.stackTraces = false) (D : va_G) (dt : Nat → ClassId) (ad : Nat → Nat) (ws : va_W) (sz : Nat), mPic dt ad w ws →
    vx_Met l y (Cond.code y cc nL ret :: mGood) ({ frames := 20 + d, cells := mc, slots := ms, locals := 400 + 60 * d }) (va_Pc (vs.map (trV ad)) (mB D dt ad ws sz)) (mQcN D dt ad (va_A ws sz) w.length P) mXc0 mc ms (va_A ws sz)
def mEndN (X : mC) (n0 mc ms : Nat) (P : Option Value → mW → Prop) : Prop := match X with
  | (_, _, _, _, s, _, args, below, _, _, Q, D, dt, ad, A, _) => ∃ ad0, mAdOk n0 ad0 ad ∧ Q = vx_MQ below (mQcN D dt ad0 A n0 P) mXc0 args s mc ms A
def mNam (X : mC) (nm : String) : Prop := match X with
  | (_, _, _, _, _, _, _, _, meth, _, _, _, _, _, _, _) => meth.name = nm
theorem mNam.tie {n : Nat} {X X1 : mC} {nm : String} (h : mTie n X X1) (hR : mNam X nm) : mNam X1 nm := by
  obtain ⟨ad', hok, rfl⟩ := h
  exact hR
theorem mEndN.tie {n n0 mc ms : Nat} {X X1 : mC} {P : Option Value → mW → Prop} (h : mTie n X X1) (hn : n0 ≤ n) (hE : mEndN X n0 mc ms P) : mEndN X1 n0 mc ms P := by
  obtain ⟨p, l, e, R, s, m, args, below, meth, c, Q, D, dt, ad, A, nL⟩ := X
  obtain ⟨ad', hok, rfl⟩ := h
  obtain ⟨ad0, h1, h2⟩ := hE
  exact ⟨ad0, h1.trans hok hn, h2⟩
theorem SpN.of {d : Nat} {y : MethodName} {cc : ByteArray} {nL : Nat} {ret : Option FieldType} {vs : List Value} {w : mW} {mc ms : Nat} {P : Option Value → mW → Prop} (hy : plainName y.cls = true) (hlen : (vs.map fun v => v.category).sum ≤ nL)
    (body : ∀ X : mC, Cx X y.cls cc d mc ms → mNL X = nL → mEndN X w.length mc ms P → mRet X ret → mNoTab X → mNam X y.name → Wp X 0 0 w (lv_args 0 vs) [] 0) : SpN d y cc nL ret vs w mc ms P := by
  intro l hl9 D dt ad ws sz hp
  refine vx_ofW (cc := cc) (maxL := nL) (ret := ret) hy rfl ?_
  intro p e s m args below meth c s₁ B hml ht hv
  obtain ⟨rfl, hsz, hP, hK, hD0, hG⟩ := hv
  have hts := atoms_spec (ws := Cond.code y cc nL ret :: mGood) B.pre
  subst hsz
  have hlen' : (lg_sl (vs.map (trV ad))).length ≤ nL := by
    rw [lg_len]
    exact hlen
  have hl := lv_entry (vs.map (trV ad)) (n := nL) hlen'
  rw [lg_entry_eq]
  rw [trL_args] at hl
  have key := body (p, l, e, { frames := 20 + d, cells := mc, slots := ms, locals := 400 + 60 * d }, s, m, (vs.map (trV ad)).toArray, below, meth, c, _, D, dt, ad, va_A ws s.heap.size, nL)
    ⟨B.exec, B.bytes, hml, findClass_of_methodNamed B.named, fun w h => hts w (List.mem_cons_of_mem _ h), B.notSynchronized, hl9, hK, fun q h => Or.inr h, hG, Nat.le_refl _, Nat.le_refl _, Nat.le_refl _, Nat.le_refl _⟩ rfl ⟨ad, mAdOk.rfl, rfl⟩ B.returns ht (name_of_methodNamed B.named B.method).1
  exact key ws s.heap [] _ hp hP hD0.self va_S.rf hl
theorem SpN.met {d : Nat} {y : MethodName} {cc : ByteArray} {nL : Nat} {ret : Option FieldType} {vs : List Value} {w : mW} {mc ms : Nat} {P : Option Value → mW → Prop} (h : SpN d y cc nL ret vs w mc ms P) {l : Launch} (hl : l.stackTraces = false) (D : va_G) (dt : Nat → ClassId) (ad : Nat → Nat) (ws : va_W) (sz : Nat) (hp : mPic dt ad w ws) :
    Met l y (Cond.code y cc nL ret :: mGood) ({ frames := 20 + d, cells := mc, slots := ms, locals := 400 + 60 * d }) (va_Pc (vs.map (trV ad)) (mB D dt ad ws sz)) (mQcN D dt ad (va_A ws sz) w.length P) mc ms (va_A ws sz) := mMet_of (h l hl D dt ad ws sz hp) (fun _ _ _ q => q)
variable {X : mC} {own : String} {cc : ByteArray} {d mc ms k n pc : Nat} {w : mW} {L L' : List (Nat × Value)} {st : List Value} {n0 : Nat} {P : Option Value → mW → Prop}
theorem n_vret (hC : Cx X own cc d mc ms) (hE : mEndN X n0 mc ms P) (hR : mRet X none) (hd : decode cc pc = .ok (.return_, 1)) (hk : k ≤ mc) (hn : n ≤ ms) (hlen : n0 ≤ w.length) (hP9 : P none w) : Wp X k n w L [] pc := by
  obtain ⟨p, l, e, R, s, m, args, below, meth, c, Q, D, dt, ad, A, nL⟩ := X
  obtain ⟨hx, hb, hml, hown, hts, hlk, htr, hK, hA, hG, -⟩ := hC
  intro ws H locs ls hp hP hD hS hl
  obtain ⟨ad0, hok, hE⟩ := hE
  subst hE
  refine vx_ret (W.widen hk hn ?_)
  exact W.vret hx hb hR (fun t ht hW => ⟨⟨ad, none, w, ws, hok, hlen, rfl, hP9, hp, by rw [ht]; exact hP, hD⟩, hS.F ht⟩) hS.2.2 hd hlk
theorem n_iret (hC : Cx X own cc d mc ms) (hE : mEndN X n0 mc ms P) (hR : mRet X (some .int)) (hd : decode cc pc = .ok (.ireturn, 1)) {v : Int32} (hk : k ≤ mc) (hn : n ≤ ms) (hlen : n0 ≤ w.length) (hP9 : P (some (.int v)) w) : Wp X k n w L [.int v] pc := by
  obtain ⟨p, l, e, R, s, m, args, below, meth, c, Q, D, dt, ad, A, nL⟩ := X
  obtain ⟨hx, hb, hml, hown, hts, hlk, htr, hK, hA, hG, -⟩ := hC
  intro ws H locs ls hp hP hD hS hl
  obtain ⟨ad0, hok, hE⟩ := hE
  subst hE
  refine vx_ret (W.widen hk hn ?_)
  exact W.iret (v := v) hx hb hR (fun t ht hW => ⟨⟨ad, some (.int v), w, ws, hok, hlen, rfl, hP9, hp, by rw [ht]; exact hP, hD⟩, hS.F ht⟩) hS.2.2 hd hlk
end NM
