section FPX
theorem vf64_iff {r : UInt64} : vf_n64 r ↔ r.toNat % 9223372036854775808 ≤ 9218868437227405312 := by
  unfold vf_n64
  rw [UInt64.le_iff_toNat_le, UInt64.toNat_and]
  have e : (0x7fffffffffffffff : UInt64).toNat = 2 ^ 63 - 1 := by decide
  have e2 : (0x7ff0000000000000 : UInt64).toNat = 9218868437227405312 := by decide
  rw [e, e2, Nat.and_two_pow_sub_one_eq_mod]
theorem fp_tails : FP.Core.b64.tails = 4503599627370496 := by decide +kernel
theorem fp_exps : FP.Core.b64.exps = 2048 := by decide +kernel
theorem fp_qmin : FP.Core.b64.qmin = -1074 := by decide +kernel
theorem fp_qmax : FP.Core.b64.qmax = 971 := by decide +kernel
theorem fp_asm {s : Bool} {e t : Nat} (he : e ≤ 2047) (ht : t < 4503599627370496) : FP.Core.assemble FP.Core.b64 s e t < 18446744073709551616 ∧ FP.Core.assemble FP.Core.b64 s e t % 9223372036854775808 = e * 4503599627370496 + t ∧ FP.Core.assemble FP.Core.b64 s e t / 4503599627370496 % 2048 = e ∧ FP.Core.assemble FP.Core.b64 s e t % 4503599627370496 = t := by
  unfold FP.Core.assemble
  rw [fp_tails, fp_exps]
  cases s
  · rw [show Bool.toNat false = 0 from rfl]
    refine ⟨by omega, by omega, by omega, by omega⟩
  · rw [show Bool.toNat true = 1 from rfl]
    refine ⟨by omega, by omega, by omega, by omega⟩
/-- the number n is the encoding of no NaN; nz: of no zero; fi: of no infinity -/
def FpOK (n : Nat) (nz fi : Prop) : Prop := ∃ (s : Bool) (e t : Nat), n = FP.Core.assemble FP.Core.b64 s e t ∧ e ≤ 2047 ∧ t < 4503599627370496 ∧ (e = 2047 → t = 0) ∧ (nz → e ≠ 0 ∨ t ≠ 0) ∧ (fi → e ≤ 2046)
theorem fp_bound {s : Bool} {c : Nat} {q : Int} (hc : c < 9007199254740992) : FpOK (FP.Core.encode FP.Core.b64 (FP.Core.bound FP.Core.b64 s c q)) (c ≠ 0) (q ≤ 971) := by
  unfold FP.Core.bound
  rw [fp_qmax]
  by_cases hq : q ≤ 971
  · rw [if_pos hq]
    show FpOK (if c < FP.Core.b64.tails then FP.Core.assemble FP.Core.b64 s 0 c else FP.Core.assemble FP.Core.b64 s ((q - FP.Core.b64.qmin).toNat + 1) (c - FP.Core.b64.tails)) _ _
    rw [fp_tails, fp_qmin]
    by_cases h : c < 4503599627370496
    · rw [if_pos h]
      exact ⟨s, 0, c, rfl, by omega, h, by omega, fun z => Or.inr z, fun _ => by omega⟩
    · rw [if_neg h]
      exact ⟨s, (q - -1074).toNat + 1, c - 4503599627370496, rfl, by omega, by omega, by omega, fun _ => Or.inl (by omega), fun _ => by omega⟩
  · rw [if_neg hq]
    show FpOK (FP.Core.assemble FP.Core.b64 s (FP.Core.b64.exps - 1) 0) _ _
    rw [fp_exps]
    exact ⟨s, 2047, 0, rfl, by omega, by omega, fun _ => rfl, fun _ => Or.inl (by omega), fun z => absurd z hq⟩
theorem FpOK.mono {n : Nat} {a b a2 b2 : Prop} (h : FpOK n a b) (ha : a2 → a) (hb : b2 → b) : FpOK n a2 b2 := by
  obtain ⟨s, e, t, h1, h2, h3, h4, h5, h6⟩ := h
  exact ⟨s, e, t, h1, h2, h3, h4, fun z => h5 (ha z), fun z => h6 (hb z)⟩
theorem fp_settle {s : Bool} {c : Nat} {q : Int} : FpOK (FP.Core.encode FP.Core.b64 (FP.Core.settle FP.Core.b64 s c q)) (c ≠ 0) (q ≤ 970) := by
  unfold FP.Core.settle
  have h53 : (2 : Nat) ^ FP.Core.b64.p = 9007199254740992 := by decide +kernel
  rw [h53]
  by_cases h : c < 9007199254740992
  · rw [if_pos h]
    exact (fp_bound h).mono (fun z => z) (fun z => by omega)
  · rw [if_neg h, fp_tails]
    exact (fp_bound (by omega)).mono (fun _ => by omega) (fun z => by omega)
theorem fp_ratio {s : Bool} {a b : Nat} {e : Int} : FpOK (FP.Core.encode FP.Core.b64 (FP.Core.roundRatio FP.Core.b64 s a b e)) False False := by
  unfold FP.Core.roundRatio
  by_cases h : a = 0
  · rw [if_pos h]
    show FpOK (if 0 < FP.Core.b64.tails then FP.Core.assemble FP.Core.b64 s 0 0 else FP.Core.assemble FP.Core.b64 s ((FP.Core.b64.qmin - FP.Core.b64.qmin).toNat + 1) (0 - FP.Core.b64.tails)) _ _
    rw [if_pos (by rw [fp_tails]; omega)]
    exact ⟨s, 0, 0, rfl, by omega, by omega, by omega, fun z => z.elim, fun z => z.elim⟩
  · rw [if_neg h]
    exact fp_settle.mono (fun z => z.elim) (fun z => z.elim)
theorem fp_near1 {n : Nat} : FP.Core.nearest n 1 = n := by
  unfold FP.Core.nearest
  rw [Nat.mod_one, Nat.div_one, if_pos (by omega)]
theorem fp_lead {n : Nat} (h0 : n ≠ 0) (h : n ≤ 2147483648) : FP.Core.leading n 1 ≤ 31 := by
  unfold FP.Core.leading
  have h1 : n.log2 < 32 := (Nat.log2_lt h0).mpr (by omega)
  have h2 : Nat.log2 1 = 0 := by decide +kernel
  rw [h2]
  have h3 : ((n.log2 : Nat) : Int) - ((0 : Nat) : Int) ≤ 31 := by omega
  simp only
  split
  · exact h3
  · omega
theorem fp_int {s : Bool} {n : Nat} (h : n ≤ 2147483648) : FpOK (FP.Core.encode FP.Core.b64 (FP.Core.roundRatio FP.Core.b64 s n 1 0)) (n ≠ 0) True := by
  unfold FP.Core.roundRatio
  by_cases h0 : n = 0
  · rw [if_pos h0]
    show FpOK (if 0 < FP.Core.b64.tails then FP.Core.assemble FP.Core.b64 s 0 0 else FP.Core.assemble FP.Core.b64 s ((FP.Core.b64.qmin - FP.Core.b64.qmin).toNat + 1) (0 - FP.Core.b64.tails)) _ _
    rw [if_pos (by rw [fp_tails]; omega)]
    exact ⟨s, 0, 0, rfl, by omega, by omega, by omega, fun z => absurd h0 z, fun _ => by omega⟩
  · rw [if_neg h0]
    unfold FP.Core.roundAt
    have hq : FP.Core.quantum FP.Core.b64 n 1 0 ≤ -21 := by
      unfold FP.Core.quantum
      rw [fp_qmin]
      have h1 := fp_lead h0 h
      have h2 : ((FP.Core.b64.p : Nat) : Int) = 53 := by decide +kernel
      rw [h2]
      omega
    have hz : ¬ FP.Core.nearest (FP.Core.unitsNum n 0 (FP.Core.quantum FP.Core.b64 n 1 0)) (FP.Core.unitsDen 1 0 (FP.Core.quantum FP.Core.b64 n 1 0)) = 0 := by
      unfold FP.Core.unitsNum FP.Core.unitsDen
      rw [show (FP.Core.quantum FP.Core.b64 n 1 0 - 0).toNat = 0 by omega]
      rw [show 1 * 2 ^ 0 = 1 from rfl, fp_near1]
      exact Nat.mul_ne_zero h0 (Nat.ne_of_gt (Nat.two_pow_pos _))
    exact fp_settle.mono (fun _ => hz) (fun _ => by omega)
theorem fp_dec {n : Nat} {a b : Prop} (h : FpOK n a b) (hb : b) : ∃ (s : Bool) (c : Nat) (q : Int), FP.Core.decode FP.Core.b64 n = .fin s c q ∧ (a → c ≠ 0) := by
  obtain ⟨s, e, t, rfl, h2, h3, h4, h5, h6⟩ := h
  obtain ⟨-, -, g1, g2⟩ := fp_asm (s := s) h2 h3
  have h7 := h6 hb
  unfold FP.Core.decode FP.Core.fieldE FP.Core.fieldT
  rw [fp_tails, fp_exps, g1, g2]
  rw [if_neg (by omega)]
  by_cases h0 : e = 0
  · rw [if_pos h0]
    exact ⟨_, _, _, rfl, fun z => (h5 z).resolve_left (fun q => q h0)⟩
  · rw [if_neg h0]
    exact ⟨_, _, _, rfl, fun _ => by omega⟩
theorem FpOK.lt {n : Nat} {a b : Prop} (h : FpOK n a b) : n < 18446744073709551616 ∧ n % 9223372036854775808 ≤ 9218868437227405312 := by
  obtain ⟨s, e, t, rfl, h2, h3, h4, h5, h6⟩ := h
  obtain ⟨g1, g2, -, -⟩ := fp_asm (s := s) h2 h3
  refine ⟨g1, ?_⟩
  rw [g2]
  by_cases h7 : e = 2047
  · rw [h4 h7, h7]
    omega
  · omega
theorem FpOK.nat {n : Nat} {a b : Prop} (h : FpOK n a b) : (UInt64.ofNat n).toNat = n := by
  rw [UInt64.toNat_ofNat']
  exact Nat.mod_eq_of_lt h.lt.1
theorem fp_i2d (v : Int32) : FpOK (FP.i2d v).toNat (v ≠ 0) True := by
  have h1 := v.toInt_lt
  have h2 := v.le_toInt
  have h : FpOK (FP.Core.fromInt FP.Core.b64 v.toInt) (v.toInt.natAbs ≠ 0) True := fp_int (by omega)
  have e : (FP.i2d v).toNat = FP.Core.fromInt FP.Core.b64 v.toInt := h.nat
  rw [e]
  refine h.mono (fun z q => z ?_) (fun z => z)
  have h3 : v.toInt = 0 := by omega
  exact Int32.toInt.inj (by rw [h3]; rfl)
theorem vf_ddiv {x y : Int32} (hy : ¬ y = 0) : vf_n64 (FP.ddiv (FP.i2d x) (FP.i2d y)) := by
  obtain ⟨s, c, q, e1, -⟩ := fp_dec (fp_i2d x) trivial
  obtain ⟨t, d, r, e2, hd⟩ := fp_dec (fp_i2d y) trivial
  have hd := hd hy
  have e : FP.Core.div FP.Core.b64 (FP.i2d x).toNat (FP.i2d y).toNat = FP.Core.encode FP.Core.b64 (FP.Core.roundRatio FP.Core.b64 (s != t) c d (q - r)) := by
    unfold FP.Core.div
    rw [e1, e2]
    show FP.Core.encode FP.Core.b64 (if d = 0 then (if c = 0 then .nan else .inf (s != t)) else FP.Core.roundRatio FP.Core.b64 (s != t) c d (q - r)) = _
    rw [if_neg hd]
  have h : FpOK (FP.Core.div FP.Core.b64 (FP.i2d x).toNat (FP.i2d y).toNat) False False := by
    rw [e]
    exact fp_ratio
  refine vf64_iff.mpr ?_
  rw [show (FP.ddiv (FP.i2d x) (FP.i2d y)).toNat = FP.Core.div FP.Core.b64 (FP.i2d x).toNat (FP.i2d y).toNat from h.nat]
  exact h.lt.2
theorem fp_order {d : FP.Core.Datum} (h : d ≠ .nan) : FP.Core.order d d = some .eq := by
  cases d with
  | nan => exact absurd rfl h
  | inf s =>
    show some (compare (FP.Core.signed s 1) (FP.Core.signed s 1)) = _
    rw [Std.ReflOrd.compare_self]
  | fin s c q =>
    show some (compare (FP.Core.signed s (FP.Core.inUnits c q (min q q))) (FP.Core.signed s (FP.Core.inUnits c q (min q q)))) = _
    rw [Std.ReflOrd.compare_self]
theorem dcmp_eq {r : UInt64} (h : vf_n64 r) {op : CmpOp} : Op.cmpValue (FP.dcmp r r) op = 0 := by
  have h1 := vf64_iff.mp h
  have hn : FP.Core.decode FP.Core.b64 r.toNat ≠ .nan := by
    unfold FP.Core.decode FP.Core.fieldE FP.Core.fieldT
    rw [fp_tails, fp_exps]
    by_cases h2 : r.toNat / 4503599627370496 % 2048 = 2048 - 1
    · rw [if_pos h2, if_pos (by omega)]
      exact fun z => by cases z
    · rw [if_neg h2]
      split
      · exact fun z => by cases z
      · exact fun z => by cases z
  have e : FP.dcmp r r = some .eq := fp_order hn
  rw [e]
  cases op <;> rfl
/-- a share of the peaks is a number -/
def shOK (a b : Nat) : Bool := b == 0 || (decide (FP.fdiv (FP.i2f (nI a)) (FP.i2f (nI b)) &&& 0x7fffffff ≤ 0x7f800000) && decide (FP.f2d (FP.fdiv (FP.i2f (nI a)) (FP.i2f (nI b))) &&& 0x7fffffffffffffff ≤ 0x7ff0000000000000))
theorem shOK_all : ∀ a, a < 26 → ∀ b, b < 26 → shOK a b = true := by decide +kernel
theorem hCnt_nat {q : Nat → Bool} : ∀ {n : Nat}, ∃ k, k ≤ n ∧ hCnt q n = nI k
  | 0 => ⟨0, Nat.le_refl 0, rfl⟩
  | n + 1 => by
    obtain ⟨k, hk, e⟩ := hCnt_nat (q := q) (n := n)
    unfold hCnt
    split
    · exact ⟨k + 1, by omega, by rw [e]; exact nI_add k 1⟩
    · exact ⟨k, by omega, e⟩
theorem share_ok {p q : Nat → Bool} (h : ¬ hCnt q 25 = 0) : vf_n32 (FP.fdiv (FP.i2f (hCnt p 25)) (FP.i2f (hCnt q 25))) ∧ vf_n64 (FP.f2d (FP.fdiv (FP.i2f (hCnt p 25)) (FP.i2f (hCnt q 25)))) := by
  obtain ⟨a, ha, ea⟩ := hCnt_nat (q := p) (n := 25)
  obtain ⟨b, hb, eb⟩ := hCnt_nat (q := q) (n := 25)
  rw [eb] at h
  have hb0 : (b == 0) = false := by
    cases b with
    | zero => exact absurd rfl h
    | succ b => rfl
  have h1 := shOK_all a (by omega) b (by omega)
  unfold shOK at h1
  rw [hb0, Bool.false_or, Bool.and_eq_true] at h1
  rw [ea, eb]
  unfold vf_n32 vf_n64
  exact ⟨of_decide_eq_true h1.1, of_decide_eq_true h1.2⟩
/-- an int made a char -/
def c16 (x : Int32) : Nat := (x.toUInt32 % 65536).toNat
theorem c16_lt (x : Int32) : c16 x < 65536 := by
  unfold c16
  rw [UInt32.toNat_mod]
  exact Nat.mod_lt _ (by decide)
theorem u2n (y : UInt32) : y.toInt32 = nI y.toNat := by
  have h : UInt32.ofNat y.toNat = y := UInt32.ofNat_toNat
  rw [show y.toInt32 = (UInt32.ofNat y.toNat).toInt32 by rw [h]]
  rfl
theorem i2c_c16 (x : Int32) : (x.toUInt32 % 65536).toInt32 = nI (c16 x) := u2n _
theorem exL_inv : ∀ {l : List cmdT} {y y2 : sv} {o : Option Nat}, SInv y → exL l y = (o, y2) → SInv y2
  | [], y, y2, o, hI, h => by cases h; exact hI
  | c :: l, y, y2, o, hI, h => by
    unfold exL at h
    by_cases hf : cmdFlt y c = 1000010
    · rw [if_pos hf] at h
      rcases hq : exL l (cmdDo y c) with ⟨_ | j, y3⟩
      · rw [hq] at h
        cases h
        exact exL_inv (cmd_inv hI hf) hq
      · rw [hq] at h
        cases h
        exact exL_inv (cmd_inv hI hf) hq
    · rw [if_neg hf] at h
      cases h
      exact hI
theorem exL_lt : ∀ {l : List cmdT} {y y2 : sv} {j : Nat}, exL l y = (some j, y2) → j < l.length
  | [], y, y2, j, h => by cases h
  | c :: l, y, y2, j, h => by
    unfold exL at h
    by_cases hf : cmdFlt y c = 1000010
    · rw [if_pos hf] at h
      rcases hq : exL l (cmdDo y c) with ⟨_ | j', y3⟩
      · rw [hq] at h
        cases h
      · rw [hq] at h
        cases h
        have := exL_lt hq
        rw [List.length_cons]
        omega
    · rw [if_neg hf] at h
      cases h
      rw [List.length_cons]
      omega
theorem cAllR_len {t : Nat → Int32} {e : Nat} {cs : Nat → cmdT} : ∀ {f n h k : Nat} {l : List cmdT}, cAllR t e cs f n h = (some l, k) → l.length ≤ f
  | 0, n, h, k, l, q => by cases q
  | f + 1, n, h, k, l, q => by
    rcases hq : cCmd t e h (cs n) with ⟨_ | c, k1⟩
    · rw [cAllR_n hq] at q
      cases q
    · rw [cAllR_s hq] at q
      by_cases h1 : k1 = e
      · rw [if_pos h1] at q
        cases q
        rw [List.length_singleton]
        omega
      · rw [if_neg h1] at q
        by_cases h2 : sgn t e k1 = 59
        · rw [if_pos h2] at q
          rcases hr : cAllR t e cs f (n + 1) (k1 + 1) with ⟨_ | l2, k2⟩
          · rw [hr] at q
            cases q
          · rw [hr] at q
            cases q
            have := cAllR_len hr
            rw [List.length_cons]
            omega
        · rw [if_neg h2] at q
          cases q
theorem pDig_n {t : Nat → Int32} {e h m k : Nat} (hh : h ≤ e) (q : pDig t e h m = (none, k)) : k ≤ e := by
  unfold pDig at q
  split at q
  · split at q
    · cases q
    · cases q
  · cases q
    exact hh
theorem pBeh_n {t : Nat → Int32} {e h m k : Nat} (hh : h ≤ e) (q : pBeh t e h m = (none, k)) : k ≤ e := by
  unfold pBeh at q
  split at q
  · rename_i z
    exact pDig_n (sgn_in2 (by decide) z) q
  · cases q
    exact hh
theorem cArgs_n {t : Nat → Int32} {e : Nat} : ∀ {ms : List Nat} {g h k : Nat} {c : cmdT}, h ≤ e → cArgs t e ms g c h = (none, k) → k ≤ e
  | [], g, h, k, c, hh, q => by cases q
  | m :: ms, g, h, k, c, hh, q => by
    rcases hq : pBeh t e h m with ⟨_ | v, k2⟩
    · rw [cArgs_2 hq] at q
      cases q
      exact pBeh_n hh hq
    · rw [cArgs_1 hq] at q
      exact cArgs_n (pBeh_le hq) q
theorem cCmd_n {t : Nat → Int32} {e h k : Nat} {c0 : cmdT} (hh : h ≤ e) (q : cCmd t e h c0 = (none, k)) : k ≤ e := by
  have hki := cKey_in (t := t) (e := e) (h := h) hh (ws := kwL) (c := 0) (lg := 0) kwL_ok hh
  unfold cCmd at q
  split at q
  · rename_i hk
    rw [hk] at hki
    exact cArgs_n hki.2 q
  · rename_i hk
    rw [hk] at hki
    cases q
    exact hki.2
theorem cAllR_no {t : Nat → Int32} {e : Nat} {cs : Nat → cmdT} : ∀ {f n h k : Nat}, h ≤ e → cAllR t e cs f n h = (none, k) → k ≤ e
  | 0, n, h, k, hh, q => by cases q; exact hh
  | f + 1, n, h, k, hh, q => by
    rcases hq : cCmd t e h (cs n) with ⟨_ | c, k1⟩
    · rw [cAllR_n hq] at q
      cases q
      exact cCmd_n hh hq
    · have hk := cCmd_le hh hq
      rw [cAllR_s hq] at q
      by_cases h1 : k1 = e
      · rw [if_pos h1] at q
        cases q
      · rw [if_neg h1] at q
        by_cases h2 : sgn t e k1 = 59
        · rw [if_pos h2] at q
          rcases hr : cAllR t e cs f (n + 1) (k1 + 1) with ⟨_ | l2, k2⟩
          · rw [hr] at q
            cases q
            exact cAllR_no (by omega) hr
          · rw [hr] at q
            cases q
        · rw [if_neg h2] at q
          cases q
          exact hk
theorem TxE.nil {tx : Nat → Int32} : TxE [] tx 0 := ⟨rfl, fun _ h => absurd h (Nat.not_lt_zero _)⟩
theorem TxE.push {txl : List Nat} {tx : Nat → Int32} {c : Nat} (H : TxE txl tx txl.length) : TxE (txl ++ [c]) (upd tx txl.length (nI c)) (txl.length + 1) := by
  refine ⟨by rw [List.length_append, List.length_singleton], fun j hj => ?_⟩
  by_cases h : j = txl.length
  · subst h
    rw [show upd tx txl.length (nI c) txl.length = nI c from if_pos rfl]
    simp
  · rw [show upd tx txl.length (nI c) j = tx j from if_neg h, H.2 j (by omega), List.getD_eq_getElem?_getD, List.getD_eq_getElem?_getD, List.getElem?_append_left (by omega)]
theorem RelL.ss {a b : Option (List cmdT) × Nat} {l l' : List cmdT} {k k' : Nat} (R : RelL a b) (ha : a = (some l, k)) (hb : b = (some l', k')) : LEq l l' := by
  rcases R with ⟨k9, h1, h2⟩ | ⟨l1, l2, k9, h1, h2, h3⟩
  · rw [h1] at ha; cases ha
  · rw [h1] at ha; rw [h2] at hb; cases ha; cases hb; exact h3
theorem RelL.nn {a b : Option (List cmdT) × Nat} {k k' : Nat} (R : RelL a b) (ha : a = (none, k)) (hb : b = (none, k')) : k = k' := by
  rcases R with ⟨k9, h1, h2⟩ | ⟨l1, l2, k9, h1, h2, h3⟩
  · rw [h1] at ha; rw [h2] at hb; cases ha; cases hb; rfl
  · rw [h1] at ha; cases ha
theorem RelL.ns {a b : Option (List cmdT) × Nat} {l : List cmdT} {k k' : Nat} (R : RelL a b) (ha : a = (none, k)) (hb : b = (some l, k')) : False := by
  rcases R with ⟨k9, h1, h2⟩ | ⟨l1, l2, k9, h1, h2, h3⟩
  · rw [h2] at hb; cases hb
  · rw [h1] at ha; cases ha
theorem RelL.sn {a b : Option (List cmdT) × Nat} {l : List cmdT} {k k' : Nat} (R : RelL a b) (ha : a = (some l, k)) (hb : b = (none, k')) : False := by
  rcases R with ⟨k9, h1, h2⟩ | ⟨l1, l2, k9, h1, h2, h3⟩
  · rw [h1] at ha; cases ha
  · rw [h2] at hb; cases hb
theorem bI_01 (b : Bool) : bI b = 0 ∨ bI b = 1 := by cases b <;> decide
theorem isI_f (x : Bool) : x = true ∨ x = false := by cases x <;> decide
end FPX
