section MR
/-- where a walk goes on: program, launch, world, room, start, method, arguments, frames below, method and code, what is owed, class ids, kinds of arrays, addresses, the cells that may change, locals -/
abbrev mC : Type := Program × Launch × Env × Room × State × MethodId × Array Value × List Frame × Method × Code × (State → Prop) × va_G × (Nat → ClassId) × (Nat → Nat) × (Nat → Prop) × Nat
/-- the frame at pc, over the world w -/
def Wp (X : mC) (k n : Nat) (w : mW) (L : List (Nat × Value)) (st : List Value) (pc : Nat) : Prop := match X with
  | (p, l, e, R, s, m, args, below, meth, c, Q, D, dt, ad, A, nL) => ∀ (ws : va_W) (H : Heap) (locs : List Loc) (ls : Array Slot), mPic dt ad w ws → va_P D vwCl ws H → va_D A ws → va_S A s.heap H locs → lv_has ls nL (trL ad L) → W p l e R s m args below meth c H locs k n Q (F0 m pc ls (st.map (trV ad)))
/-- the frame at pc, something of class E thrown over it -/
def Tp (X : mC) (k n : Nat) (w : mW) (L : List (Nat × Value)) (st : List Value) (pc : Nat) (E : String) : Prop := match X with
  | (p, l, e, R, s, m, args, below, meth, c, Q, D, dt, ad, A, nL) => ∀ (ws : va_W) (H : Heap) (locs : List Loc) (ls : Array Slot) (q : Addr) (ce : Cell), mPic dt ad w ws → va_P D vwCl ws H → va_D A ws → va_S A s.heap H locs → lv_has ls nL (trL ad L) → H[q]? = some ce → ce.vm = .none → s.vm.findClass E = some ce.cls → vx_W p l e R s m args below meth c H locs k n Q (F0 m pc ls (st.map (trV ad))) q
/-- what a walk stands on -/
def Cx (X : mC) (own : String) (cc : ByteArray) (d mc ms : Nat) : Prop := match X with
  | (p, l, _, R, s, m, args, _, meth, c, _, D, dt, ad, A, nL) => p.tables.exec = Jvm.exec ∧ c.code = cc ∧ c.maxLocals = nL ∧ s.vm.findClass own = some m.cls ∧ (∀ w ∈ mGood, w.before args s = true) ∧ meth.locks = false ∧ l.stackTraces = false ∧ va_K D vwCl (mTy dt) s ∧ (∀ q, s.heap.size ≤ q → A q) ∧ Gl ad A s s.heap ∧ 20 + d ≤ R.frames ∧ 400 + 60 * d ≤ R.locals ∧ mc ≤ R.cells ∧ ms ≤ R.slots
def mNL (X : mC) : Nat := X.2.2.2.2.2.2.2.2.2.2.2.2.2.2.2
def mAd (X : mC) : Nat → Nat := X.2.2.2.2.2.2.2.2.2.2.2.2.2.1
variable {X : mC} {own : String} {cc : ByteArray} {d mc ms k n pc : Nat} {w : mW} {L : List (Nat × Value)} {st : List Value}

theorem r_iconst (hC : Cx X own cc d mc ms) {z : Int} {v : Int32} (hd : decode cc pc = .ok (.iconst z, 1)) (hv : Int32.ofInt z = v) (kk : Wp X k n w L (.int v :: st) (pc + 1)) : Wp X k n w L (st) pc := by
  obtain ⟨p, l, e, R, s, m, args, below, meth, c, Q, D, dt, ad, A, nL⟩ := X
  obtain ⟨hx, hb, hml, hown, hts, hlk, htr, hK, hA, hG, hfr, hlo, hcc, hss⟩ := hC
  intro ws H locs ls hp hP hD hS hl
  refine lv_iconst hx hb hd hv ?_
  exact kk ws H locs ls hp hP hD hS hl
theorem r_bipush (hC : Cx X own cc d mc ms) {z : Int} {v : Int32} (hd : decode cc pc = .ok (.bipush z, 2)) (hv : (Int8.ofInt z).toInt32 = v) (kk : Wp X k n w L (.int v :: st) (pc + 2)) : Wp X k n w L (st) pc := by
  obtain ⟨p, l, e, R, s, m, args, below, meth, c, Q, D, dt, ad, A, nL⟩ := X
  obtain ⟨hx, hb, hml, hown, hts, hlk, htr, hK, hA, hG, hfr, hlo, hcc, hss⟩ := hC
  intro ws H locs ls hp hP hD hS hl
  refine lv_bipush hx hb hd hv ?_
  exact kk ws H locs ls hp hP hD hS hl
theorem r_sipush (hC : Cx X own cc d mc ms) {z : Int} {v : Int32} (hd : decode cc pc = .ok (.sipush z, 3)) (hv : (Int16.ofInt z).toInt32 = v) (kk : Wp X k n w L (.int v :: st) (pc + 3)) : Wp X k n w L (st) pc := by
  obtain ⟨p, l, e, R, s, m, args, below, meth, c, Q, D, dt, ad, A, nL⟩ := X
  obtain ⟨hx, hb, hml, hown, hts, hlk, htr, hK, hA, hG, hfr, hlo, hcc, hss⟩ := hC
  intro ws H locs ls hp hP hD hS hl
  refine lv_sipush hx hb hd hv ?_
  exact kk ws H locs ls hp hP hD hS hl
theorem r_lconst (hC : Cx X own cc d mc ms) {z : Fin 2} {v : Int64} (hd : decode cc pc = .ok (.lconst z, 1)) (hv : Int64.ofNat (z : Nat) = v) (kk : Wp X k n w L (.long v :: st) (pc + 1)) : Wp X k n w L (st) pc := by
  obtain ⟨p, l, e, R, s, m, args, below, meth, c, Q, D, dt, ad, A, nL⟩ := X
  obtain ⟨hx, hb, hml, hown, hts, hlk, htr, hK, hA, hG, hfr, hlo, hcc, hss⟩ := hC
  intro ws H locs ls hp hP hD hS hl
  refine lv_lconst hx hb hd hv ?_
  exact kk ws H locs ls hp hP hD hS hl
theorem r_iload_n (hC : Cx X own cc d mc ms) {z : Fin 4} {i j : Nat} {x : Int32} (hd : decode cc pc = .ok (.iload_n z, 1)) (hi : (z : Nat) = i) (hj : L[j]? = some (i, .int x)) (kk : Wp X k n w L (.int x :: st) (pc + 1)) : Wp X k n w L (st) pc := by
  obtain ⟨p, l, e, R, s, m, args, below, meth, c, Q, D, dt, ad, A, nL⟩ := X
  obtain ⟨hx, hb, hml, hown, hts, hlk, htr, hK, hA, hG, hfr, hlo, hcc, hss⟩ := hC
  intro ws H locs ls hp hP hD hS hl
  refine lv_iload_n hx hb hd hi (lv_at hl j (trL_at hj)) ?_
  exact kk ws H locs ls hp hP hD hS hl
theorem r_iload (hC : Cx X own cc d mc ms) {i j : Nat} {x : Int32} (hd : decode cc pc = .ok (.iload i, 2)) (hj : L[j]? = some (i, .int x)) (kk : Wp X k n w L (.int x :: st) (pc + 2)) : Wp X k n w L (st) pc := by
  obtain ⟨p, l, e, R, s, m, args, below, meth, c, Q, D, dt, ad, A, nL⟩ := X
  obtain ⟨hx, hb, hml, hown, hts, hlk, htr, hK, hA, hG, hfr, hlo, hcc, hss⟩ := hC
  intro ws H locs ls hp hP hD hS hl
  refine lv_iload hx hb hd (lv_at hl j (trL_at hj)) ?_
  exact kk ws H locs ls hp hP hD hS hl
theorem r_fload_n (hC : Cx X own cc d mc ms) {z : Fin 4} {i j : Nat} {x : UInt32} (hd : decode cc pc = .ok (.fload_n z, 1)) (hi : (z : Nat) = i) (hj : L[j]? = some (i, .float x)) (kk : Wp X k n w L (.float x :: st) (pc + 1)) : Wp X k n w L (st) pc := by
  obtain ⟨p, l, e, R, s, m, args, below, meth, c, Q, D, dt, ad, A, nL⟩ := X
  obtain ⟨hx, hb, hml, hown, hts, hlk, htr, hK, hA, hG, hfr, hlo, hcc, hss⟩ := hC
  intro ws H locs ls hp hP hD hS hl
  refine lv_fload_n hx hb hd hi (lv_at hl j (trL_at hj)) ?_
  exact kk ws H locs ls hp hP hD hS hl
theorem r_fload (hC : Cx X own cc d mc ms) {i j : Nat} {x : UInt32} (hd : decode cc pc = .ok (.fload i, 2)) (hj : L[j]? = some (i, .float x)) (kk : Wp X k n w L (.float x :: st) (pc + 2)) : Wp X k n w L (st) pc := by
  obtain ⟨p, l, e, R, s, m, args, below, meth, c, Q, D, dt, ad, A, nL⟩ := X
  obtain ⟨hx, hb, hml, hown, hts, hlk, htr, hK, hA, hG, hfr, hlo, hcc, hss⟩ := hC
  intro ws H locs ls hp hP hD hS hl
  refine lv_fload hx hb hd (lv_at hl j (trL_at hj)) ?_
  exact kk ws H locs ls hp hP hD hS hl
theorem r_dload_n (hC : Cx X own cc d mc ms) {z : Fin 4} {i j : Nat} {x : UInt64} (hd : decode cc pc = .ok (.dload_n z, 1)) (hi : (z : Nat) = i) (hj : L[j]? = some (i, .double x)) (kk : Wp X k n w L (.double x :: st) (pc + 1)) : Wp X k n w L (st) pc := by
  obtain ⟨p, l, e, R, s, m, args, below, meth, c, Q, D, dt, ad, A, nL⟩ := X
  obtain ⟨hx, hb, hml, hown, hts, hlk, htr, hK, hA, hG, hfr, hlo, hcc, hss⟩ := hC
  intro ws H locs ls hp hP hD hS hl
  refine lv_dload_n hx hb hd hi (lv_at hl j (trL_at hj)) ?_
  exact kk ws H locs ls hp hP hD hS hl
theorem r_dload (hC : Cx X own cc d mc ms) {i j : Nat} {x : UInt64} (hd : decode cc pc = .ok (.dload i, 2)) (hj : L[j]? = some (i, .double x)) (kk : Wp X k n w L (.double x :: st) (pc + 2)) : Wp X k n w L (st) pc := by
  obtain ⟨p, l, e, R, s, m, args, below, meth, c, Q, D, dt, ad, A, nL⟩ := X
  obtain ⟨hx, hb, hml, hown, hts, hlk, htr, hK, hA, hG, hfr, hlo, hcc, hss⟩ := hC
  intro ws H locs ls hp hP hD hS hl
  refine lv_dload hx hb hd (lv_at hl j (trL_at hj)) ?_
  exact kk ws H locs ls hp hP hD hS hl
theorem r_lload_n (hC : Cx X own cc d mc ms) {z : Fin 4} {i j : Nat} {x : Int64} (hd : decode cc pc = .ok (.lload_n z, 1)) (hi : (z : Nat) = i) (hj : L[j]? = some (i, .long x)) (kk : Wp X k n w L (.long x :: st) (pc + 1)) : Wp X k n w L (st) pc := by
  obtain ⟨p, l, e, R, s, m, args, below, meth, c, Q, D, dt, ad, A, nL⟩ := X
  obtain ⟨hx, hb, hml, hown, hts, hlk, htr, hK, hA, hG, hfr, hlo, hcc, hss⟩ := hC
  intro ws H locs ls hp hP hD hS hl
  refine lv_lload_n hx hb hd hi (lv_at hl j (trL_at hj)) ?_
  exact kk ws H locs ls hp hP hD hS hl
theorem r_lload (hC : Cx X own cc d mc ms) {i j : Nat} {x : Int64} (hd : decode cc pc = .ok (.lload i, 2)) (hj : L[j]? = some (i, .long x)) (kk : Wp X k n w L (.long x :: st) (pc + 2)) : Wp X k n w L (st) pc := by
  obtain ⟨p, l, e, R, s, m, args, below, meth, c, Q, D, dt, ad, A, nL⟩ := X
  obtain ⟨hx, hb, hml, hown, hts, hlk, htr, hK, hA, hG, hfr, hlo, hcc, hss⟩ := hC
  intro ws H locs ls hp hP hD hS hl
  refine lv_lload hx hb hd (lv_at hl j (trL_at hj)) ?_
  exact kk ws H locs ls hp hP hD hS hl
theorem r_aload_n (hC : Cx X own cc d mc ms) {z : Fin 4} {i j x : Nat} (hd : decode cc pc = .ok (.aload_n z, 1)) (hi : (z : Nat) = i) (hj : L[j]? = some (i, .ref x)) (kk : Wp X k n w L (.ref x :: st) (pc + 1)) : Wp X k n w L (st) pc := by
  obtain ⟨p, l, e, R, s, m, args, below, meth, c, Q, D, dt, ad, A, nL⟩ := X
  obtain ⟨hx, hb, hml, hown, hts, hlk, htr, hK, hA, hG, hfr, hlo, hcc, hss⟩ := hC
  intro ws H locs ls hp hP hD hS hl
  refine lv_aload_n hx hb hd hi (lv_at hl j (trL_at hj)) ?_
  exact kk ws H locs ls hp hP hD hS hl
theorem r_aload (hC : Cx X own cc d mc ms) {i j x : Nat} (hd : decode cc pc = .ok (.aload i, 2)) (hj : L[j]? = some (i, .ref x)) (kk : Wp X k n w L (.ref x :: st) (pc + 2)) : Wp X k n w L (st) pc := by
  obtain ⟨p, l, e, R, s, m, args, below, meth, c, Q, D, dt, ad, A, nL⟩ := X
  obtain ⟨hx, hb, hml, hown, hts, hlk, htr, hK, hA, hG, hfr, hlo, hcc, hss⟩ := hC
  intro ws H locs ls hp hP hD hS hl
  refine lv_aload hx hb hd (lv_at hl j (trL_at hj)) ?_
  exact kk ws H locs ls hp hP hD hS hl
theorem r_iadd (hC : Cx X own cc d mc ms) {x y : Int32} (hd : decode cc pc = .ok (.iadd, 1)) (kk : Wp X k n w L (.int (x + y) :: st) (pc + 1)) : Wp X k n w L (.int y :: .int x :: st) pc := by
  obtain ⟨p, l, e, R, s, m, args, below, meth, c, Q, D, dt, ad, A, nL⟩ := X
  obtain ⟨hx, hb, hml, hown, hts, hlk, htr, hK, hA, hG, hfr, hlo, hcc, hss⟩ := hC
  intro ws H locs ls hp hP hD hS hl
  refine lv_iadd hx hb hd ?_
  exact kk ws H locs ls hp hP hD hS hl
theorem r_isub (hC : Cx X own cc d mc ms) {x y : Int32} (hd : decode cc pc = .ok (.isub, 1)) (kk : Wp X k n w L (.int (x - y) :: st) (pc + 1)) : Wp X k n w L (.int y :: .int x :: st) pc := by
  obtain ⟨p, l, e, R, s, m, args, below, meth, c, Q, D, dt, ad, A, nL⟩ := X
  obtain ⟨hx, hb, hml, hown, hts, hlk, htr, hK, hA, hG, hfr, hlo, hcc, hss⟩ := hC
  intro ws H locs ls hp hP hD hS hl
  refine lv_isub hx hb hd ?_
  exact kk ws H locs ls hp hP hD hS hl
theorem r_imul (hC : Cx X own cc d mc ms) {x y : Int32} (hd : decode cc pc = .ok (.imul, 1)) (kk : Wp X k n w L (.int (x * y) :: st) (pc + 1)) : Wp X k n w L (.int y :: .int x :: st) pc := by
  obtain ⟨p, l, e, R, s, m, args, below, meth, c, Q, D, dt, ad, A, nL⟩ := X
  obtain ⟨hx, hb, hml, hown, hts, hlk, htr, hK, hA, hG, hfr, hlo, hcc, hss⟩ := hC
  intro ws H locs ls hp hP hD hS hl
  refine lv_imul hx hb hd ?_
  exact kk ws H locs ls hp hP hD hS hl
theorem r_iand (hC : Cx X own cc d mc ms) {x y : Int32} (hd : decode cc pc = .ok (.iand, 1)) (kk : Wp X k n w L (.int (x &&& y) :: st) (pc + 1)) : Wp X k n w L (.int y :: .int x :: st) pc := by
  obtain ⟨p, l, e, R, s, m, args, below, meth, c, Q, D, dt, ad, A, nL⟩ := X
  obtain ⟨hx, hb, hml, hown, hts, hlk, htr, hK, hA, hG, hfr, hlo, hcc, hss⟩ := hC
  intro ws H locs ls hp hP hD hS hl
  refine lv_iand hx hb hd ?_
  exact kk ws H locs ls hp hP hD hS hl
theorem r_ior (hC : Cx X own cc d mc ms) {x y : Int32} (hd : decode cc pc = .ok (.ior, 1)) (kk : Wp X k n w L (.int (x ||| y) :: st) (pc + 1)) : Wp X k n w L (.int y :: .int x :: st) pc := by
  obtain ⟨p, l, e, R, s, m, args, below, meth, c, Q, D, dt, ad, A, nL⟩ := X
  obtain ⟨hx, hb, hml, hown, hts, hlk, htr, hK, hA, hG, hfr, hlo, hcc, hss⟩ := hC
  intro ws H locs ls hp hP hD hS hl
  refine lv_ior hx hb hd ?_
  exact kk ws H locs ls hp hP hD hS hl
theorem r_ixor (hC : Cx X own cc d mc ms) {x y : Int32} (hd : decode cc pc = .ok (.ixor, 1)) (kk : Wp X k n w L (.int (x ^^^ y) :: st) (pc + 1)) : Wp X k n w L (.int y :: .int x :: st) pc := by
  obtain ⟨p, l, e, R, s, m, args, below, meth, c, Q, D, dt, ad, A, nL⟩ := X
  obtain ⟨hx, hb, hml, hown, hts, hlk, htr, hK, hA, hG, hfr, hlo, hcc, hss⟩ := hC
  intro ws H locs ls hp hP hD hS hl
  refine lv_ixor hx hb hd ?_
  exact kk ws H locs ls hp hP hD hS hl
theorem r_idiv (hC : Cx X own cc d mc ms) {x y : Int32} (hd : decode cc pc = .ok (.idiv, 1)) (hne : ¬ y = 0) (kk : Wp X k n w L (.int (x / y) :: st) (pc + 1)) : Wp X k n w L (.int y :: .int x :: st) pc := by
  obtain ⟨p, l, e, R, s, m, args, below, meth, c, Q, D, dt, ad, A, nL⟩ := X
  obtain ⟨hx, hb, hml, hown, hts, hlk, htr, hK, hA, hG, hfr, hlo, hcc, hss⟩ := hC
  intro ws H locs ls hp hP hD hS hl
  refine lv_idiv hx hb hd hne ?_
  exact kk ws H locs ls hp hP hD hS hl
theorem r_irem (hC : Cx X own cc d mc ms) {x y : Int32} (hd : decode cc pc = .ok (.irem, 1)) (hne : ¬ y = 0) (kk : Wp X k n w L (.int (x - x / y * y) :: st) (pc + 1)) : Wp X k n w L (.int y :: .int x :: st) pc := by
  obtain ⟨p, l, e, R, s, m, args, below, meth, c, Q, D, dt, ad, A, nL⟩ := X
  obtain ⟨hx, hb, hml, hown, hts, hlk, htr, hK, hA, hG, hfr, hlo, hcc, hss⟩ := hC
  intro ws H locs ls hp hP hD hS hl
  refine lv_irem hx hb hd hne ?_
  exact kk ws H locs ls hp hP hD hS hl
theorem r_ineg (hC : Cx X own cc d mc ms) {x : Int32} (hd : decode cc pc = .ok (.ineg, 1)) (kk : Wp X k n w L (.int (-x) :: st) (pc + 1)) : Wp X k n w L (.int x :: st) pc := by
  obtain ⟨p, l, e, R, s, m, args, below, meth, c, Q, D, dt, ad, A, nL⟩ := X
  obtain ⟨hx, hb, hml, hown, hts, hlk, htr, hK, hA, hG, hfr, hlo, hcc, hss⟩ := hC
  intro ws H locs ls hp hP hD hS hl
  refine lv_ineg hx hb hd ?_
  exact kk ws H locs ls hp hP hD hS hl
theorem r_i2l (hC : Cx X own cc d mc ms) {x : Int32} {v : Int64} (hd : decode cc pc = .ok (.i2l, 1)) (hv : x.toInt64 = v) (kk : Wp X k n w L (.long v :: st) (pc + 1)) : Wp X k n w L (.int x :: st) pc := by
  obtain ⟨p, l, e, R, s, m, args, below, meth, c, Q, D, dt, ad, A, nL⟩ := X
  obtain ⟨hx, hb, hml, hown, hts, hlk, htr, hK, hA, hG, hfr, hlo, hcc, hss⟩ := hC
  intro ws H locs ls hp hP hD hS hl
  refine lv_i2l hx hb hd hv ?_
  exact kk ws H locs ls hp hP hD hS hl
theorem r_i2c (hC : Cx X own cc d mc ms) {x v : Int32} (hd : decode cc pc = .ok (.i2c, 1)) (hv : (x.toUInt32 % 65536).toInt32 = v) (kk : Wp X k n w L (.int v :: st) (pc + 1)) : Wp X k n w L (.int x :: st) pc := by
  obtain ⟨p, l, e, R, s, m, args, below, meth, c, Q, D, dt, ad, A, nL⟩ := X
  obtain ⟨hx, hb, hml, hown, hts, hlk, htr, hK, hA, hG, hfr, hlo, hcc, hss⟩ := hC
  intro ws H locs ls hp hP hD hS hl
  refine lv_i2c hx hb hd hv ?_
  exact kk ws H locs ls hp hP hD hS hl
theorem r_i2f (hC : Cx X own cc d mc ms) {x : Int32} (hd : decode cc pc = .ok (.i2f, 1)) (kk : Wp X k n w L (.float (FP.i2f x) :: st) (pc + 1)) : Wp X k n w L (.int x :: st) pc := by
  obtain ⟨p, l, e, R, s, m, args, below, meth, c, Q, D, dt, ad, A, nL⟩ := X
  obtain ⟨hx, hb, hml, hown, hts, hlk, htr, hK, hA, hG, hfr, hlo, hcc, hss⟩ := hC
  intro ws H locs ls hp hP hD hS hl
  refine lv_i2f hx hb hd ?_
  exact kk ws H locs ls hp hP hD hS hl
theorem r_i2d (hC : Cx X own cc d mc ms) {x : Int32} (hd : decode cc pc = .ok (.i2d, 1)) (kk : Wp X k n w L (.double (FP.i2d x) :: st) (pc + 1)) : Wp X k n w L (.int x :: st) pc := by
  obtain ⟨p, l, e, R, s, m, args, below, meth, c, Q, D, dt, ad, A, nL⟩ := X
  obtain ⟨hx, hb, hml, hown, hts, hlk, htr, hK, hA, hG, hfr, hlo, hcc, hss⟩ := hC
  intro ws H locs ls hp hP hD hS hl
  refine lv_i2d hx hb hd ?_
  exact kk ws H locs ls hp hP hD hS hl
theorem r_f2d (hC : Cx X own cc d mc ms) {x : UInt32} (hd : decode cc pc = .ok (.f2d, 1)) (hne : vf_n64 (FP.f2d x)) (kk : Wp X k n w L (.double (FP.f2d x) :: st) (pc + 1)) : Wp X k n w L (.float x :: st) pc := by
  obtain ⟨p, l, e, R, s, m, args, below, meth, c, Q, D, dt, ad, A, nL⟩ := X
  obtain ⟨hx, hb, hml, hown, hts, hlk, htr, hK, hA, hG, hfr, hlo, hcc, hss⟩ := hC
  intro ws H locs ls hp hP hD hS hl
  refine lv_f2d hx hb hd hne ?_
  exact kk ws H locs ls hp hP hD hS hl
theorem r_fdiv (hC : Cx X own cc d mc ms) {x y : UInt32} (hd : decode cc pc = .ok (.fdiv, 1)) (hne : vf_n32 (FP.fdiv x y)) (kk : Wp X k n w L (.float (FP.fdiv x y) :: st) (pc + 1)) : Wp X k n w L (.float y :: .float x :: st) pc := by
  obtain ⟨p, l, e, R, s, m, args, below, meth, c, Q, D, dt, ad, A, nL⟩ := X
  obtain ⟨hx, hb, hml, hown, hts, hlk, htr, hK, hA, hG, hfr, hlo, hcc, hss⟩ := hC
  intro ws H locs ls hp hP hD hS hl
  refine lv_fdiv hx hb hd hne ?_
  exact kk ws H locs ls hp hP hD hS hl
theorem r_ddiv (hC : Cx X own cc d mc ms) {x y : UInt64} (hd : decode cc pc = .ok (.ddiv, 1)) (hne : vf_n64 (FP.ddiv x y)) (kk : Wp X k n w L (.double (FP.ddiv x y) :: st) (pc + 1)) : Wp X k n w L (.double y :: .double x :: st) pc := by
  obtain ⟨p, l, e, R, s, m, args, below, meth, c, Q, D, dt, ad, A, nL⟩ := X
  obtain ⟨hx, hb, hml, hown, hts, hlk, htr, hK, hA, hG, hfr, hlo, hcc, hss⟩ := hC
  intro ws H locs ls hp hP hD hS hl
  refine lv_ddiv hx hb hd hne ?_
  exact kk ws H locs ls hp hP hD hS hl
theorem r_fconst0 (hC : Cx X own cc d mc ms)  (hd : decode cc pc = .ok (.fconst 0, 1)) (kk : Wp X k n w L (.float 0 :: st) (pc + 1)) : Wp X k n w L (st) pc := by
  obtain ⟨p, l, e, R, s, m, args, below, meth, c, Q, D, dt, ad, A, nL⟩ := X
  obtain ⟨hx, hb, hml, hown, hts, hlk, htr, hK, hA, hG, hfr, hlo, hcc, hss⟩ := hC
  intro ws H locs ls hp hP hD hS hl
  refine lv_fconst0 hx hb hd ?_
  exact kk ws H locs ls hp hP hD hS hl
theorem r_dconst0 (hC : Cx X own cc d mc ms)  (hd : decode cc pc = .ok (.dconst 0, 1)) (kk : Wp X k n w L (.double 0 :: st) (pc + 1)) : Wp X k n w L (st) pc := by
  obtain ⟨p, l, e, R, s, m, args, below, meth, c, Q, D, dt, ad, A, nL⟩ := X
  obtain ⟨hx, hb, hml, hown, hts, hlk, htr, hK, hA, hG, hfr, hlo, hcc, hss⟩ := hC
  intro ws H locs ls hp hP hD hS hl
  refine lv_dconst0 hx hb hd ?_
  exact kk ws H locs ls hp hP hD hS hl
theorem r_dcmp (hC : Cx X own cc d mc ms) {x y : UInt64} {op : CmpOp} (hd : decode cc pc = .ok (.dcmp op, 1)) (kk : Wp X k n w L (.int (Op.cmpValue (FP.dcmp x y) op) :: st) (pc + 1)) : Wp X k n w L (.double y :: .double x :: st) pc := by
  obtain ⟨p, l, e, R, s, m, args, below, meth, c, Q, D, dt, ad, A, nL⟩ := X
  obtain ⟨hx, hb, hml, hown, hts, hlk, htr, hK, hA, hG, hfr, hlo, hcc, hss⟩ := hC
  intro ws H locs ls hp hP hD hS hl
  refine lv_dcmp hx hb hd ?_
  exact kk ws H locs ls hp hP hD hS hl
theorem r_lcmp (hC : Cx X own cc d mc ms) {x y : Int64} (hd : decode cc pc = .ok (.lcmp, 1)) (kk : Wp X k n w L (.int (lg_cmp x y) :: st) (pc + 1)) : Wp X k n w L (.long y :: .long x :: st) pc := by
  obtain ⟨p, l, e, R, s, m, args, below, meth, c, Q, D, dt, ad, A, nL⟩ := X
  obtain ⟨hx, hb, hml, hown, hts, hlk, htr, hK, hA, hG, hfr, hlo, hcc, hss⟩ := hC
  intro ws H locs ls hp hP hD hS hl
  refine W.lcmp hx hb hd ?_
  exact kk ws H locs ls hp hP hD hS hl
theorem r_dup (hC : Cx X own cc d mc ms) {va : Value} (hd : decode cc pc = .ok (.dup, 1)) (hva : va.category = 1) (kk : Wp X k n w L (va :: va :: st) (pc + 1)) : Wp X k n w L (va :: st) pc := by
  obtain ⟨p, l, e, R, s, m, args, below, meth, c, Q, D, dt, ad, A, nL⟩ := X
  obtain ⟨hx, hb, hml, hown, hts, hlk, htr, hK, hA, hG, hfr, hlo, hcc, hss⟩ := hC
  intro ws H locs ls hp hP hD hS hl
  refine lv_dup hx hb hd ((trV_cat ad va).trans hva) ?_
  exact kk ws H locs ls hp hP hD hS hl
theorem r_pop (hC : Cx X own cc d mc ms) {va : Value} (hd : decode cc pc = .ok (.pop, 1)) (hva : va.category = 1) (kk : Wp X k n w L (st) (pc + 1)) : Wp X k n w L (va :: st) pc := by
  obtain ⟨p, l, e, R, s, m, args, below, meth, c, Q, D, dt, ad, A, nL⟩ := X
  obtain ⟨hx, hb, hml, hown, hts, hlk, htr, hK, hA, hG, hfr, hlo, hcc, hss⟩ := hC
  intro ws H locs ls hp hP hD hS hl
  refine lv_pop hx hb hd ((trV_cat ad va).trans hva) ?_
  exact kk ws H locs ls hp hP hD hS hl
theorem r_dup_x1 (hC : Cx X own cc d mc ms) {va vb : Value} (hd : decode cc pc = .ok (.dup_x1, 1)) (hva : va.category = 1) (hvb : vb.category = 1) (kk : Wp X k n w L (va :: vb :: va :: st) (pc + 1)) : Wp X k n w L (va :: vb :: st) pc := by
  obtain ⟨p, l, e, R, s, m, args, below, meth, c, Q, D, dt, ad, A, nL⟩ := X
  obtain ⟨hx, hb, hml, hown, hts, hlk, htr, hK, hA, hG, hfr, hlo, hcc, hss⟩ := hC
  intro ws H locs ls hp hP hD hS hl
  refine lv_dup_x1 hx hb hd ((trV_cat ad va).trans hva) ((trV_cat ad vb).trans hvb) ?_
  exact kk ws H locs ls hp hP hD hS hl
theorem r_dup_x2 (hC : Cx X own cc d mc ms) {va vb vd : Value} (hd : decode cc pc = .ok (.dup_x2, 1)) (hva : va.category = 1) (hvb : vb.category = 1) (hvd : vd.category = 1) (kk : Wp X k n w L (va :: vb :: vd :: va :: st) (pc + 1)) : Wp X k n w L (va :: vb :: vd :: st) pc := by
  obtain ⟨p, l, e, R, s, m, args, below, meth, c, Q, D, dt, ad, A, nL⟩ := X
  obtain ⟨hx, hb, hml, hown, hts, hlk, htr, hK, hA, hG, hfr, hlo, hcc, hss⟩ := hC
  intro ws H locs ls hp hP hD hS hl
  refine lv_dup_x2 hx hb hd ((trV_cat ad va).trans hva) ((trV_cat ad vb).trans hvb) ((trV_cat ad vd).trans hvd) ?_
  exact kk ws H locs ls hp hP hD hS hl
theorem r_dup2 (hC : Cx X own cc d mc ms) {va vb : Value} (hd : decode cc pc = .ok (.dup2, 1)) (hva : va.category = 1) (hvb : vb.category = 1) (kk : Wp X k n w L (va :: vb :: va :: vb :: st) (pc + 1)) : Wp X k n w L (va :: vb :: st) pc := by
  obtain ⟨p, l, e, R, s, m, args, below, meth, c, Q, D, dt, ad, A, nL⟩ := X
  obtain ⟨hx, hb, hml, hown, hts, hlk, htr, hK, hA, hG, hfr, hlo, hcc, hss⟩ := hC
  intro ws H locs ls hp hP hD hS hl
  refine lv_dup2_11 hx hb hd ((trV_cat ad va).trans hva) ((trV_cat ad vb).trans hvb) ?_
  exact kk ws H locs ls hp hP hD hS hl
theorem r_goto (hC : Cx X own cc d mc ms) {off : Int} {tgt : Nat} (hd : decode cc pc = .ok (.goto off, 3)) (ht : (pc : Int) + off = (tgt : Int)) (kk : Wp X k n w L st tgt) : Wp X k n w L st pc := by
  obtain ⟨p, l, e, R, s, m, args, below, meth, c, Q, D, dt, ad, A, nL⟩ := X
  obtain ⟨hx, hb, hml, hown, hts, hlk, htr, hK, hA, hG, hfr, hlo, hcc, hss⟩ := hC
  intro ws H locs ls hp hP hD hS hl
  refine lv_goto hx hb hd ht ?_
  exact kk ws H locs ls hp hP hD hS hl
theorem r_if_eq (hC : Cx X own cc d mc ms) {x : Int32} {off : Int} {tgt : Nat} (hd : decode cc pc = .ok (.ifCond .eq off, 3)) (ht : (pc : Int) + off = (tgt : Int)) (k1 : x = 0 → Wp X k n w L st tgt) (k2 : ¬ x = 0 → Wp X k n w L st (pc + 3)) : Wp X k n w L (.int x :: st) pc := by
  obtain ⟨p, l, e, R, s, m, args, below, meth, c, Q, D, dt, ad, A, nL⟩ := X
  obtain ⟨hx, hb, hml, hown, hts, hlk, htr, hK, hA, hG, hfr, hlo, hcc, hss⟩ := hC
  intro ws H locs ls hp hP hD hS hl
  exact lv_if_eq hx hb hd ht (fun h => k1 h ws H locs ls hp hP hD hS hl) (fun h => k2 h ws H locs ls hp hP hD hS hl)
theorem r_icmp_eq (hC : Cx X own cc d mc ms) {x y : Int32} {off : Int} {tgt : Nat} (hd : decode cc pc = .ok (.if_icmp .eq off, 3)) (ht : (pc : Int) + off = (tgt : Int)) (k1 : x = y → Wp X k n w L st tgt) (k2 : ¬ x = y → Wp X k n w L st (pc + 3)) : Wp X k n w L (.int y :: .int x :: st) pc := by
  obtain ⟨p, l, e, R, s, m, args, below, meth, c, Q, D, dt, ad, A, nL⟩ := X
  obtain ⟨hx, hb, hml, hown, hts, hlk, htr, hK, hA, hG, hfr, hlo, hcc, hss⟩ := hC
  intro ws H locs ls hp hP hD hS hl
  exact lv_icmp_eq hx hb hd ht (fun h => k1 h ws H locs ls hp hP hD hS hl) (fun h => k2 h ws H locs ls hp hP hD hS hl)
theorem r_if_ne (hC : Cx X own cc d mc ms) {x : Int32} {off : Int} {tgt : Nat} (hd : decode cc pc = .ok (.ifCond .ne off, 3)) (ht : (pc : Int) + off = (tgt : Int)) (k1 : ¬ x = 0 → Wp X k n w L st tgt) (k2 : x = 0 → Wp X k n w L st (pc + 3)) : Wp X k n w L (.int x :: st) pc := by
  obtain ⟨p, l, e, R, s, m, args, below, meth, c, Q, D, dt, ad, A, nL⟩ := X
  obtain ⟨hx, hb, hml, hown, hts, hlk, htr, hK, hA, hG, hfr, hlo, hcc, hss⟩ := hC
  intro ws H locs ls hp hP hD hS hl
  exact lv_if_ne hx hb hd ht (fun h => k1 h ws H locs ls hp hP hD hS hl) (fun h => k2 h ws H locs ls hp hP hD hS hl)
theorem r_icmp_ne (hC : Cx X own cc d mc ms) {x y : Int32} {off : Int} {tgt : Nat} (hd : decode cc pc = .ok (.if_icmp .ne off, 3)) (ht : (pc : Int) + off = (tgt : Int)) (k1 : ¬ x = y → Wp X k n w L st tgt) (k2 : x = y → Wp X k n w L st (pc + 3)) : Wp X k n w L (.int y :: .int x :: st) pc := by
  obtain ⟨p, l, e, R, s, m, args, below, meth, c, Q, D, dt, ad, A, nL⟩ := X
  obtain ⟨hx, hb, hml, hown, hts, hlk, htr, hK, hA, hG, hfr, hlo, hcc, hss⟩ := hC
  intro ws H locs ls hp hP hD hS hl
  exact lv_icmp_ne hx hb hd ht (fun h => k1 h ws H locs ls hp hP hD hS hl) (fun h => k2 h ws H locs ls hp hP hD hS hl)
theorem r_if_lt (hC : Cx X own cc d mc ms) {x : Int32} {off : Int} {tgt : Nat} (hd : decode cc pc = .ok (.ifCond .lt off, 3)) (ht : (pc : Int) + off = (tgt : Int)) (k1 : x < 0 → Wp X k n w L st tgt) (k2 : ¬ x < 0 → Wp X k n w L st (pc + 3)) : Wp X k n w L (.int x :: st) pc := by
  obtain ⟨p, l, e, R, s, m, args, below, meth, c, Q, D, dt, ad, A, nL⟩ := X
  obtain ⟨hx, hb, hml, hown, hts, hlk, htr, hK, hA, hG, hfr, hlo, hcc, hss⟩ := hC
  intro ws H locs ls hp hP hD hS hl
  exact lv_if_lt hx hb hd ht (fun h => k1 h ws H locs ls hp hP hD hS hl) (fun h => k2 h ws H locs ls hp hP hD hS hl)
theorem r_icmp_lt (hC : Cx X own cc d mc ms) {x y : Int32} {off : Int} {tgt : Nat} (hd : decode cc pc = .ok (.if_icmp .lt off, 3)) (ht : (pc : Int) + off = (tgt : Int)) (k1 : x < y → Wp X k n w L st tgt) (k2 : ¬ x < y → Wp X k n w L st (pc + 3)) : Wp X k n w L (.int y :: .int x :: st) pc := by
  obtain ⟨p, l, e, R, s, m, args, below, meth, c, Q, D, dt, ad, A, nL⟩ := X
  obtain ⟨hx, hb, hml, hown, hts, hlk, htr, hK, hA, hG, hfr, hlo, hcc, hss⟩ := hC
  intro ws H locs ls hp hP hD hS hl
  exact lv_icmp_lt hx hb hd ht (fun h => k1 h ws H locs ls hp hP hD hS hl) (fun h => k2 h ws H locs ls hp hP hD hS hl)
theorem r_if_ge (hC : Cx X own cc d mc ms) {x : Int32} {off : Int} {tgt : Nat} (hd : decode cc pc = .ok (.ifCond .ge off, 3)) (ht : (pc : Int) + off = (tgt : Int)) (k1 : 0 ≤ x → Wp X k n w L st tgt) (k2 : ¬ 0 ≤ x → Wp X k n w L st (pc + 3)) : Wp X k n w L (.int x :: st) pc := by
  obtain ⟨p, l, e, R, s, m, args, below, meth, c, Q, D, dt, ad, A, nL⟩ := X
  obtain ⟨hx, hb, hml, hown, hts, hlk, htr, hK, hA, hG, hfr, hlo, hcc, hss⟩ := hC
  intro ws H locs ls hp hP hD hS hl
  exact lv_if_ge hx hb hd ht (fun h => k1 h ws H locs ls hp hP hD hS hl) (fun h => k2 h ws H locs ls hp hP hD hS hl)
theorem r_icmp_ge (hC : Cx X own cc d mc ms) {x y : Int32} {off : Int} {tgt : Nat} (hd : decode cc pc = .ok (.if_icmp .ge off, 3)) (ht : (pc : Int) + off = (tgt : Int)) (k1 : y ≤ x → Wp X k n w L st tgt) (k2 : ¬ y ≤ x → Wp X k n w L st (pc + 3)) : Wp X k n w L (.int y :: .int x :: st) pc := by
  obtain ⟨p, l, e, R, s, m, args, below, meth, c, Q, D, dt, ad, A, nL⟩ := X
  obtain ⟨hx, hb, hml, hown, hts, hlk, htr, hK, hA, hG, hfr, hlo, hcc, hss⟩ := hC
  intro ws H locs ls hp hP hD hS hl
  exact lv_icmp_ge hx hb hd ht (fun h => k1 h ws H locs ls hp hP hD hS hl) (fun h => k2 h ws H locs ls hp hP hD hS hl)
theorem r_if_gt (hC : Cx X own cc d mc ms) {x : Int32} {off : Int} {tgt : Nat} (hd : decode cc pc = .ok (.ifCond .gt off, 3)) (ht : (pc : Int) + off = (tgt : Int)) (k1 : 0 < x → Wp X k n w L st tgt) (k2 : ¬ 0 < x → Wp X k n w L st (pc + 3)) : Wp X k n w L (.int x :: st) pc := by
  obtain ⟨p, l, e, R, s, m, args, below, meth, c, Q, D, dt, ad, A, nL⟩ := X
  obtain ⟨hx, hb, hml, hown, hts, hlk, htr, hK, hA, hG, hfr, hlo, hcc, hss⟩ := hC
  intro ws H locs ls hp hP hD hS hl
  exact lv_if_gt hx hb hd ht (fun h => k1 h ws H locs ls hp hP hD hS hl) (fun h => k2 h ws H locs ls hp hP hD hS hl)
theorem r_icmp_gt (hC : Cx X own cc d mc ms) {x y : Int32} {off : Int} {tgt : Nat} (hd : decode cc pc = .ok (.if_icmp .gt off, 3)) (ht : (pc : Int) + off = (tgt : Int)) (k1 : y < x → Wp X k n w L st tgt) (k2 : ¬ y < x → Wp X k n w L st (pc + 3)) : Wp X k n w L (.int y :: .int x :: st) pc := by
  obtain ⟨p, l, e, R, s, m, args, below, meth, c, Q, D, dt, ad, A, nL⟩ := X
  obtain ⟨hx, hb, hml, hown, hts, hlk, htr, hK, hA, hG, hfr, hlo, hcc, hss⟩ := hC
  intro ws H locs ls hp hP hD hS hl
  exact lv_icmp_gt hx hb hd ht (fun h => k1 h ws H locs ls hp hP hD hS hl) (fun h => k2 h ws H locs ls hp hP hD hS hl)
theorem r_if_le (hC : Cx X own cc d mc ms) {x : Int32} {off : Int} {tgt : Nat} (hd : decode cc pc = .ok (.ifCond .le off, 3)) (ht : (pc : Int) + off = (tgt : Int)) (k1 : x ≤ 0 → Wp X k n w L st tgt) (k2 : ¬ x ≤ 0 → Wp X k n w L st (pc + 3)) : Wp X k n w L (.int x :: st) pc := by
  obtain ⟨p, l, e, R, s, m, args, below, meth, c, Q, D, dt, ad, A, nL⟩ := X
  obtain ⟨hx, hb, hml, hown, hts, hlk, htr, hK, hA, hG, hfr, hlo, hcc, hss⟩ := hC
  intro ws H locs ls hp hP hD hS hl
  exact lv_if_le hx hb hd ht (fun h => k1 h ws H locs ls hp hP hD hS hl) (fun h => k2 h ws H locs ls hp hP hD hS hl)
theorem r_icmp_le (hC : Cx X own cc d mc ms) {x y : Int32} {off : Int} {tgt : Nat} (hd : decode cc pc = .ok (.if_icmp .le off, 3)) (ht : (pc : Int) + off = (tgt : Int)) (k1 : x ≤ y → Wp X k n w L st tgt) (k2 : ¬ x ≤ y → Wp X k n w L st (pc + 3)) : Wp X k n w L (.int y :: .int x :: st) pc := by
  obtain ⟨p, l, e, R, s, m, args, below, meth, c, Q, D, dt, ad, A, nL⟩ := X
  obtain ⟨hx, hb, hml, hown, hts, hlk, htr, hK, hA, hG, hfr, hlo, hcc, hss⟩ := hC
  intro ws H locs ls hp hP hD hS hl
  exact lv_icmp_le hx hb hd ht (fun h => k1 h ws H locs ls hp hP hD hS hl) (fun h => k2 h ws H locs ls hp hP hD hS hl)
end MR
