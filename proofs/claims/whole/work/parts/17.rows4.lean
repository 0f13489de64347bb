section MU
variable {X : mC} {own : String} {cc : ByteArray} {d mc ms k n pc : Nat} {w : mW} {L L' : List (Nat × Value)} {st : List Value} {n0 : Nat} {P : Option Value → mW → Prop} {PX : String → mW → Prop}
theorem r_put' (hC : Cx X own cc d mc ms) {ci j a : Nat} {fs : List Value} {v : Value} {ty : FieldType} (hf : mPutF own cc pc ci j ty) (hw : w[a]? = some (mO ci fs)) (hl9 : j < fs.length) (hn : ∀ ad, narrow ty (trV ad v) = trV ad v) (hfit : ∀ ad, fits ty (trV ad v) = true) (kk : ∀ w1, w1 = w.set a (mO ci (fs.set j v)) → Wp X k n w1 L st (pc + 3)) : Wp X k n w L (v :: .ref a :: st) pc := r_put hC hf hw hl9 hn hfit (kk _ rfl)
theorem r_iast' (hC : Cx X own cc d mc ms) {a j N : Nat} {i x : Int32} {f : Nat → Int32} (hd : decode cc pc = .ok (.iastore, 1)) (hw : w[a]? = some (mI 0 N f)) (hi : mIx i j N) (kk : ∀ w1, w1 = w.set a (mI 0 N (upd f j x)) → Wp X k n w1 L st (pc + 1)) : Wp X k n w L (.int x :: .int i :: .ref a :: st) pc := r_iast hC hd hw hi (kk _ rfl)
theorem r_last' (hC : Cx X own cc d mc ms) {a j N : Nat} {i : Int32} {x : Int64} {f : Nat → Int64} (hd : decode cc pc = .ok (.lastore, 1)) (hw : w[a]? = some (.inl (1, N, .inr (.inl f)))) (hi : mIx i j N) (kk : ∀ w1, w1 = w.set a (.inl (1, N, .inr (.inl (vp_updL f j x)))) → Wp X k n w1 L st (pc + 1)) : Wp X k n w L (.long x :: .int i :: .ref a :: st) pc := r_last hC hd hw hi (kk _ rfl)
theorem r_dast' (hC : Cx X own cc d mc ms) {a j N : Nat} {i : Int32} {x : UInt64} {f : Nat → UInt64} (hd : decode cc pc = .ok (.dastore, 1)) (hw : w[a]? = some (.inl (2, N, .inr (.inr (.inr (.inl f)))))) (hi : mIx i j N) (kk : ∀ w1, w1 = w.set a (.inl (2, N, .inr (.inr (.inr (.inl (vf_upd f j x)))))) → Wp X k n w1 L st (pc + 1)) : Wp X k n w L (.double x :: .int i :: .ref a :: st) pc := r_dast hC hd hw hi (kk _ rfl)
theorem r_copy' (hC : Cx X own cc d mc ms) {a b n1 n2 : Nat} {f g : Nat → Int32} {sp dp z : Int32} (hf : mCopyI own cc pc) (ha : w[a]? = some (mI 0 n1 f)) (hb9 : w[b]? = some (mI 0 n2 g)) (h1 : ¬ sp < 0) (h2 : ¬ dp < 0) (h3 : ¬ z < 0) (h4 : sp.toNatClampNeg + z.toNatClampNeg ≤ n1) (h5 : dp.toNatClampNeg + z.toNatClampNeg ≤ n2) (hcat : (st.map fun v => v.category).sum ≤ 8)
    (kk : ∀ w1, w1 = w.set b (mI 0 n2 (va_cpy f g sp.toNatClampNeg dp.toNatClampNeg z.toNatClampNeg)) → Wp X k n w1 L st (pc + 3)) : Wp X k n w L (.int z :: .int dp :: .ref b :: .int sp :: .ref a :: st) pc := r_copy hC hf ha hb9 h1 h2 h3 h4 h5 hcat (kk _ rfl)
/-- no throw -/
abbrev noX : String → mW → Prop := fun _ _ => False
theorem gT_nb : ((.int : FieldType), 1000000, 100, tArr mNB) ∈ gTs := List.mem_of_getElem? (i := 0) rfl
theorem gT_kw : ((.object "HillContest$Keyword" : FieldType), 1000001, 8, fun j => Value.ref (1000020 + j)) ∈ gTs := List.mem_of_getElem? (i := 1) rfl
theorem gT_sm : ((.int : FieldType), 1000002, 8, tArr mSM) ∈ gTs := List.mem_of_getElem? (i := 2) rfl
theorem gZ_nb : ("HillContest", "NEIGHBOURS", "[I", Value.ref 1000000) ∈ gZs := List.mem_of_getElem? (i := 0) rfl
theorem gZ_kw : ("HillContest", "KEYWORDS", "[LHillContest$Keyword;", Value.ref 1000001) ∈ gZs := List.mem_of_getElem? (i := 1) rfl
theorem gZ_sm : ("HillContest$1", "$SwitchMap$HillContest$Keyword", "[I", Value.ref 1000002) ∈ gZs := List.mem_of_getElem? (i := 2) rfl
end MU
