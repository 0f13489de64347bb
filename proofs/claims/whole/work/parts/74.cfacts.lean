section CF
variable {X : mC} {own : String} {cc : ByteArray} {d mc ms k n pc : Nat} {w : mW} {L L' : List (Nat × Value)} {st : List Value}
/-- a thing laid into an array of things -/
theorem r_aast (hC : Cx X own cc d mc ms) {a j N t b ci : Nat} {i : Int32} {f : Nat → Option Nat} {fs : List Value} {E : String} (hd : decode cc pc = .ok (.aastore, 1)) (hw : w[a]? = some (.inl (t, N, .inr (.inr (.inr (.inr f)))))) (ht : ∀ dt : Nat → ClassId, (mTy dt)[t]? = some (dt t, .object E)) (hb9 : w[b]? = some (mO ci fs)) (hci : (vwCl[ci]?).map (fun q => q.1) = some E) (hi : mIx i j N)
    (kk : ∀ w1, w1 = w.set a (.inl (t, N, .inr (.inr (.inr (.inr (va_up f j (some b))))))) → Wp X k n w1 L st (pc + 1)) : Wp X k n w L (.ref b :: .int i :: .ref a :: st) pc := by
  obtain ⟨p, l, e, R, s, m, args, below, meth, c, Q, D, dt, ad, A, nL⟩ := X
  obtain ⟨hx, hb, hml, hown, hts, hlk, htr, hK, -⟩ := hC
  intro ws H locs ls hp hP hD hS hl
  obtain ⟨⟨C9, T9, N9⟩, hc9, hy9⟩ := Option.map_eq_some_iff.mp hci
  have hy9 : C9 = E := hy9
  subst hy9
  obtain ⟨q0, hq⟩ := List.getElem?_of_mem (hp.1 a t _ hw)
  obtain ⟨q1, hq1⟩ := List.getElem?_of_mem (hp.2.1 b ci fs hb9)
  refine va_astq hx hb hK hP hD hS q0 t q1 ci hq (ht dt) hq1 hc9 hi.vp hd (fun H1 locs1 hP1 hD1 hS1 => ?_)
  rw [hi.2.1] at hP1 hD1
  have e9 : (fun q => (va_up f j (some b) q).map ad) = va_up (fun q => (f q).map ad) j (some (ad b)) := by
    funext q
    unfold va_up
    by_cases z : q = j
    · simp [z]
    · simp [z]
  have hpic := hp.arr (b := (N, .inr (.inr (.inr (.inr (va_up f j (some b))))))) hw hq
  have e8 : trA ad (N, .inr (.inr (.inr (.inr (va_up f j (some b)))))) = (N, .inr (.inr (.inr (.inr (va_up (fun q => (f q).map ad) j (some (ad b))))))) := by
    show (N, Sum.inr (Sum.inr (Sum.inr (Sum.inr (fun q => (va_up f j (some b) q).map ad))))) = _
    rw [e9]
  rw [e8] at hpic
  exact kk _ rfl _ H1 locs1 ls hpic hP1 hD1 hS1 hl
theorem oi_im : Cond.instanceMethod objectInit ∈ mGood := mGood_in (List.mem_of_getElem? (i := 99) (by decide +kernel)) rfl
theorem oi_cd : Cond.code objectInit ⟨#[0xb1]⟩ 1 none ∈ mGood := mGood_in (List.mem_of_getElem? (i := 100) (by decide +kernel)) rfl
theorem moX1_1 : Cond.methodLink RX1 1 objectInit ∈ mGood := mGood_in (List.mem_of_getElem? (i := 242) (by decide +kernel)) rfl
theorem oX1_init_1 : mObjI RX1 cX1_init 1 := ⟨1, moX1_1, oi_im, oi_cd, dX1_init_1⟩
theorem moX2_3 : Cond.methodLink RX2 3 objectInit ∈ mGood := mGood_in (List.mem_of_getElem? (i := 202) (by decide +kernel)) rfl
theorem oX2_init_1 : mObjI RX2 cX2_init 1 := ⟨3, moX2_3, oi_im, oi_cd, dX2_init_1⟩
theorem dv_J4 : ∀ j, j < 4 → defaultValue (tyJ4 j) = vp_V [.null, .int 0, .int 0, .int 0] j := by
  intro j hj
  match j, hj with
  | 0, _ => rfl
  | 1, _ => rfl
  | 2, _ => rfl
  | 3, _ => rfl
  | j + 4, hj => exact absurd hj (by omega)
theorem clX2_9 : Cond.classLink RX2 9 RJ4 ∈ mGood := mGood_in (List.mem_of_getElem? (i := 203) (by decide +kernel)) rfl
theorem in_J4 : Cond.instantiable RJ4 4 ∈ mGood := mGood_in (List.mem_of_getElem? (i := 204) (by decide +kernel)) rfl
theorem nX2_init_5 : mNewO RX2 cX2_init 5 1 4 [.null, .int 0, .int 0, .int 0] := ⟨9, RJ4, TJ4, tyJ4, rfl, clX2_9, in_J4, ic_J4, uJ4, tyJ4_ok, dv_J4, dX2_init_5⟩
theorem cd_J4_init_da8c8 : Cond.code yJ4_init_da8c8 cJ4_init_da8c8 1 none ∈ mGood := mGood_in (List.mem_of_getElem? (i := 207) (by decide +kernel)) rfl
theorem im_J4_init_da8c8 : Cond.instanceMethod yJ4_init_da8c8 ∈ mGood := mGood_in (List.mem_of_getElem? (i := 206) (by decide +kernel)) rfl
theorem mlX2_11 : Cond.methodLink RX2 11 yJ4_init_da8c8 ∈ mGood := mGood_in (List.mem_of_getElem? (i := 205) (by decide +kernel)) rfl
theorem vX2_init_9 : mCallI RX2 cX2_init 9 yJ4_init_da8c8 cJ4_init_da8c8 1 0 := ⟨11, mlX2_11, im_J4_init_da8c8, ic_J4, cd_J4_init_da8c8, rfl, by decide +kernel, by decide +kernel, by decide, dX2_init_9⟩
theorem lqX2_12 : Cond.fieldLink RX2 12 "HillContest$CommandText" "signs" "Ljava/lang/StringBuilder;" ∈ mGood := mGood_in (List.mem_of_getElem? (i := 263) (by decide +kernel)) rfl
theorem pX2_init_12 : mPutI RX2 cX2_init 12 5 0 (.object "java/lang/StringBuilder") := ⟨RX2, TX2, 4, 12, tyX2, rfl, uX2, by decide, lqX2_12, dX2_init_12, tyX2_ok, nmX2, rfl, rfl, by decide +kernel⟩
theorem clX2_18 : Cond.classLink RX2 18 RX1 ∈ mGood := mGood_in (List.mem_of_getElem? (i := 236) (by decide +kernel)) rfl
theorem ao_X1 : Cond.arrayOver (.object RX1) ∈ mNests := mNests_in (List.mem_of_getElem? (i := 237) (by decide +kernel)) rfl
theorem lqX2_20 : Cond.fieldLink RX2 20 "HillContest$CommandText" "commands" "[LHillContest$Command;" ∈ mGood := mGood_in (List.mem_of_getElem? (i := 265) (by decide +kernel)) rfl
theorem pX2_init_21 : mPutI RX2 cX2_init 21 5 1 (.array (.object "HillContest$Command")) := ⟨RX2, TX2, 4, 20, tyX2, rfl, uX2, by decide, lqX2_20, dX2_init_21, tyX2_ok, nmX2, rfl, rfl, by decide +kernel⟩
theorem dv_X1 : ∀ j, j < 4 → defaultValue (tyX1 j) = vp_V [.null, .int 0, .int 0, .int 0] j := by
  intro j hj
  match j, hj with
  | 0, _ => rfl
  | 1, _ => rfl
  | 2, _ => rfl
  | 3, _ => rfl
  | j + 4, hj => exact absurd hj (by omega)
theorem in_X1 : Cond.instantiable RX1 4 ∈ mGood := mGood_in (List.mem_of_getElem? (i := 238) (by decide +kernel)) rfl
theorem nX2_init_37 : mNewO RX2 cX2_init 37 4 4 [.null, .int 0, .int 0, .int 0] := ⟨18, RX1, TX1, tyX1, rfl, clX2_18, in_X1, ic_X1, uX1, tyX1_ok, dv_X1, dX2_init_37⟩
theorem cd_X1_init : Cond.code yX1_init cX1_init 1 none ∈ mGood := mGood_in (List.mem_of_getElem? (i := 241) (by decide +kernel)) rfl
theorem im_X1_init : Cond.instanceMethod yX1_init ∈ mGood := mGood_in (List.mem_of_getElem? (i := 240) (by decide +kernel)) rfl
theorem mnX2_24 : Cond.methodLinkNest RX2 24 yX1_init "HillContest" ∈ mNests := mNests_in (List.mem_of_getElem? (i := 239) (by decide +kernel)) rfl
theorem vX2_init_41 : mCallIN RX2 cX2_init 41 yX1_init cX1_init 1 0 := ⟨24, "HillContest", mnX2_24, im_X1_init, ic_X1, cd_X1_init, rfl, by decide +kernel, by decide +kernel, by decide, dX2_init_41⟩
theorem moX4_3 : Cond.methodLink RX4 3 objectInit ∈ mGood := mGood_in (List.mem_of_getElem? (i := 112) (by decide +kernel)) rfl
theorem oX4_init_1 : mObjI RX4 cX4_init 1 := ⟨3, moX4_3, oi_im, oi_cd, dX4_init_1⟩
theorem lqX4_9 : Cond.fieldLink RX4 9 "HillContest$Hill" "heights" "[I" ∈ mGood := mGood_in (List.mem_of_getElem? (i := 113) (by decide +kernel)) rfl
theorem pX4_init_9 : mPutI RX4 cX4_init 9 6 0 (.array .int) := ⟨RX4, TX4, 5, 9, tyX4, rfl, uX4, by decide, lqX4_9, dX4_init_9, tyX4_ok, nmX4, rfl, rfl, by decide +kernel⟩
theorem lqX4_15 : Cond.fieldLink RX4 15 "HillContest$Hill" "owners" "[I" ∈ mGood := mGood_in (List.mem_of_getElem? (i := 117) (by decide +kernel)) rfl
theorem pX4_init_17 : mPutI RX4 cX4_init 17 6 1 (.array .int) := ⟨RX4, TX4, 5, 15, tyX4, rfl, uX4, by decide, lqX4_15, dX4_init_17, tyX4_ok, nmX4, rfl, rfl, by decide +kernel⟩
theorem moX6_3 : Cond.methodLink RX6 3 objectInit ∈ mGood := mGood_in (List.mem_of_getElem? (i := 106) (by decide +kernel)) rfl
theorem oX6_init_1 : mObjI RX6 cX6_init 1 := ⟨3, moX6_3, oi_im, oi_cd, dX6_init_1⟩
theorem dv_X4 : ∀ j, j < 5 → defaultValue (tyX4 j) = vp_V [.null, .null, .int 0, .int 0, .int 0] j := by
  intro j hj
  match j, hj with
  | 0, _ => rfl
  | 1, _ => rfl
  | 2, _ => rfl
  | 3, _ => rfl
  | 4, _ => rfl
  | j + 5, hj => exact absurd hj (by omega)
theorem clX6_9 : Cond.classLink RX6 9 RX4 ∈ mGood := mGood_in (List.mem_of_getElem? (i := 107) (by decide +kernel)) rfl
theorem in_X4 : Cond.instantiable RX4 5 ∈ mGood := mGood_in (List.mem_of_getElem? (i := 108) (by decide +kernel)) rfl
theorem nX6_init_5 : mNewO RX6 cX6_init 5 6 5 [.null, .null, .int 0, .int 0, .int 0] := ⟨9, RX4, TX4, tyX4, rfl, clX6_9, in_X4, ic_X4, uX4, tyX4_ok, dv_X4, dX6_init_5⟩
theorem cd_X4_init : Cond.code yX4_init cX4_init 2 none ∈ mGood := mGood_in (List.mem_of_getElem? (i := 111) (by decide +kernel)) rfl
theorem im_X4_init : Cond.instanceMethod yX4_init ∈ mGood := mGood_in (List.mem_of_getElem? (i := 110) (by decide +kernel)) rfl
theorem mlX6_11 : Cond.methodLink RX6 11 yX4_init ∈ mGood := mGood_in (List.mem_of_getElem? (i := 109) (by decide +kernel)) rfl
theorem vX6_init_9 : mCallI RX6 cX6_init 9 yX4_init cX4_init 2 0 := ⟨11, mlX6_11, im_X4_init, ic_X4, cd_X4_init, rfl, by decide +kernel, by decide +kernel, by decide, dX6_init_9⟩
theorem lqX6_12 : Cond.fieldLink RX6 12 "HillContest$State" "hill" "LHillContest$Hill;" ∈ mGood := mGood_in (List.mem_of_getElem? (i := 141) (by decide +kernel)) rfl
theorem pX6_init_12 : mPutI RX6 cX6_init 12 7 0 (.object "HillContest$Hill") := ⟨RX6, TX6, 9, 12, tyX6, rfl, uX6, by decide, lqX6_12, dX6_init_12, tyX6_ok, nmX6, rfl, rfl, by decide +kernel⟩
theorem lqX6_18 : Cond.fieldLink RX6 18 "HillContest$State" "hands" "[I" ∈ mGood := mGood_in (List.mem_of_getElem? (i := 143) (by decide +kernel)) rfl
theorem pX6_init_19 : mPutI RX6 cX6_init 19 7 1 (.array .int) := ⟨RX6, TX6, 9, 18, tyX6, rfl, uX6, by decide, lqX6_18, dX6_init_19, tyX6_ok, nmX6, rfl, rfl, by decide +kernel⟩
theorem lqX6_22 : Cond.fieldLink RX6 22 "HillContest$State" "rests" "[I" ∈ mGood := mGood_in (List.mem_of_getElem? (i := 145) (by decide +kernel)) rfl
theorem pX6_init_26 : mPutI RX6 cX6_init 26 7 2 (.array .int) := ⟨RX6, TX6, 9, 22, tyX6, rfl, uX6, by decide, lqX6_22, dX6_init_26, tyX6_ok, nmX6, rfl, rfl, by decide +kernel⟩
theorem moX7_3 : Cond.methodLink RX7 3 objectInit ∈ mGood := mGood_in (List.mem_of_getElem? (i := 184) (by decide +kernel)) rfl
theorem oX7_init_1 : mObjI RX7 cX7_init 1 := ⟨3, moX7_3, oi_im, oi_cd, dX7_init_1⟩
theorem clX7_9 : Cond.classLink RX7 9 RX4 ∈ mGood := mGood_in (List.mem_of_getElem? (i := 185) (by decide +kernel)) rfl
theorem nX7_init_5 : mNewO RX7 cX7_init 5 6 5 [.null, .null, .int 0, .int 0, .int 0] := ⟨9, RX4, TX4, tyX4, rfl, clX7_9, in_X4, ic_X4, uX4, tyX4_ok, dv_X4, dX7_init_5⟩
theorem mlX7_11 : Cond.methodLink RX7 11 yX4_init ∈ mGood := mGood_in (List.mem_of_getElem? (i := 186) (by decide +kernel)) rfl
theorem vX7_init_9 : mCallI RX7 cX7_init 9 yX4_init cX4_init 2 0 := ⟨11, mlX7_11, im_X4_init, ic_X4, cd_X4_init, rfl, by decide +kernel, by decide +kernel, by decide, dX7_init_9⟩
theorem lqX7_12 : Cond.fieldLink RX7 12 "HillContest$Trial" "hill" "LHillContest$Hill;" ∈ mGood := mGood_in (List.mem_of_getElem? (i := 187) (by decide +kernel)) rfl
theorem pX7_init_12 : mPutI RX7 cX7_init 12 8 0 (.object "HillContest$Hill") := ⟨RX7, TX7, 3, 12, tyX7, rfl, uX7, by decide, lqX7_12, dX7_init_12, tyX7_ok, nmX7, rfl, rfl, by decide +kernel⟩
theorem lqX7_18 : Cond.fieldLink RX7 18 "HillContest$Trial" "queue" "[I" ∈ mGood := mGood_in (List.mem_of_getElem? (i := 188) (by decide +kernel)) rfl
theorem pX7_init_20 : mPutI RX7 cX7_init 20 8 1 (.array .int) := ⟨RX7, TX7, 3, 18, tyX7, rfl, uX7, by decide, lqX7_18, dX7_init_20, tyX7_ok, nmX7, rfl, rfl, by decide +kernel⟩
theorem moX8_1 : Cond.methodLink RX8 1 objectInit ∈ mGood := mGood_in (List.mem_of_getElem? (i := 98) (by decide +kernel)) rfl
theorem oX8_init_1 : mObjI RX8 cX8_init 1 := ⟨1, moX8_1, oi_im, oi_cd, dX8_init_1⟩
theorem dv_X6 : ∀ j, j < 9 → defaultValue (tyX6 j) = vp_V [.null, .null, .null, .int 0, .int 0, .int 0, .int 0, .int 0, .int 0] j := by
  intro j hj
  match j, hj with
  | 0, _ => rfl
  | 1, _ => rfl
  | 2, _ => rfl
  | 3, _ => rfl
  | 4, _ => rfl
  | 5, _ => rfl
  | 6, _ => rfl
  | 7, _ => rfl
  | 8, _ => rfl
  | j + 9, hj => exact absurd hj (by omega)
theorem clX8_7 : Cond.classLink RX8 7 RX6 ∈ mGood := mGood_in (List.mem_of_getElem? (i := 101) (by decide +kernel)) rfl
theorem in_X6 : Cond.instantiable RX6 9 ∈ mGood := mGood_in (List.mem_of_getElem? (i := 102) (by decide +kernel)) rfl
theorem nX8_init_5 : mNewO RX8 cX8_init 5 7 9 [.null, .null, .null, .int 0, .int 0, .int 0, .int 0, .int 0, .int 0] := ⟨7, RX6, TX6, tyX6, rfl, clX8_7, in_X6, ic_X6, uX6, tyX6_ok, dv_X6, dX8_init_5⟩
theorem cd_X6_init : Cond.code yX6_init cX6_init 1 none ∈ mGood := mGood_in (List.mem_of_getElem? (i := 105) (by decide +kernel)) rfl
theorem im_X6_init : Cond.instanceMethod yX6_init ∈ mGood := mGood_in (List.mem_of_getElem? (i := 104) (by decide +kernel)) rfl
theorem mnX8_9 : Cond.methodLinkNest RX8 9 yX6_init "HillContest" ∈ mNests := mNests_in (List.mem_of_getElem? (i := 103) (by decide +kernel)) rfl
theorem vX8_init_9 : mCallIN RX8 cX8_init 9 yX6_init cX6_init 1 0 := ⟨9, "HillContest", mnX8_9, im_X6_init, ic_X6, cd_X6_init, rfl, by decide +kernel, by decide +kernel, by decide, dX8_init_9⟩
theorem lqX8_10 : Cond.fieldLink RX8 10 "HillContest" "now" "LHillContest$State;" ∈ mGood := mGood_in (List.mem_of_getElem? (i := 282) (by decide +kernel)) rfl
theorem pX8_init_12 : mPutI RX8 cX8_init 12 9 0 (.object "HillContest$State") := ⟨RX8, TX8, 12, 10, tyX8, rfl, uX8, by decide, lqX8_10, dX8_init_12, tyX8_ok, nmX8, rfl, rfl, by decide +kernel⟩
theorem nX8_init_16 : mNewO RX8 cX8_init 16 7 9 [.null, .null, .null, .int 0, .int 0, .int 0, .int 0, .int 0, .int 0] := ⟨7, RX6, TX6, tyX6, rfl, clX8_7, in_X6, ic_X6, uX6, tyX6_ok, dv_X6, dX8_init_16⟩
theorem vX8_init_20 : mCallIN RX8 cX8_init 20 yX6_init cX6_init 1 0 := ⟨9, "HillContest", mnX8_9, im_X6_init, ic_X6, cd_X6_init, rfl, by decide +kernel, by decide +kernel, by decide, dX8_init_20⟩
theorem lqX8_16 : Cond.fieldLink RX8 16 "HillContest" "beforeRun" "LHillContest$State;" ∈ mGood := mGood_in (List.mem_of_getElem? (i := 283) (by decide +kernel)) rfl
theorem pX8_init_23 : mPutI RX8 cX8_init 23 9 1 (.object "HillContest$State") := ⟨RX8, TX8, 12, 16, tyX8, rfl, uX8, by decide, lqX8_16, dX8_init_23, tyX8_ok, nmX8, rfl, rfl, by decide +kernel⟩
theorem nX8_init_27 : mNewO RX8 cX8_init 27 7 9 [.null, .null, .null, .int 0, .int 0, .int 0, .int 0, .int 0, .int 0] := ⟨7, RX6, TX6, tyX6, rfl, clX8_7, in_X6, ic_X6, uX6, tyX6_ok, dv_X6, dX8_init_27⟩
theorem vX8_init_31 : mCallIN RX8 cX8_init 31 yX6_init cX6_init 1 0 := ⟨9, "HillContest", mnX8_9, im_X6_init, ic_X6, cd_X6_init, rfl, by decide +kernel, by decide +kernel, by decide, dX8_init_31⟩
theorem lqX8_19 : Cond.fieldLink RX8 19 "HillContest" "snapshot" "LHillContest$State;" ∈ mGood := mGood_in (List.mem_of_getElem? (i := 284) (by decide +kernel)) rfl
theorem pX8_init_34 : mPutI RX8 cX8_init 34 9 2 (.object "HillContest$State") := ⟨RX8, TX8, 12, 19, tyX8, rfl, uX8, by decide, lqX8_19, dX8_init_34, tyX8_ok, nmX8, rfl, rfl, by decide +kernel⟩
theorem ao_X6 : Cond.arrayOver (.object RX6) ∈ mNests := mNests_in (List.mem_of_getElem? (i := 178) (by decide +kernel)) rfl
theorem lqX8_22 : Cond.fieldLink RX8 22 "HillContest" "history" "[LHillContest$State;" ∈ mGood := mGood_in (List.mem_of_getElem? (i := 286) (by decide +kernel)) rfl
theorem pX8_init_43 : mPutI RX8 cX8_init 43 9 4 (.array (.object "HillContest$State")) := ⟨RX8, TX8, 12, 22, tyX8, rfl, uX8, by decide, lqX8_22, dX8_init_43, tyX8_ok, nmX8, rfl, rfl, by decide +kernel⟩
theorem dv_X7 : ∀ j, j < 3 → defaultValue (tyX7 j) = vp_V [.null, .null, .int 0] j := by
  intro j hj
  match j, hj with
  | 0, _ => rfl
  | 1, _ => rfl
  | 2, _ => rfl
  | j + 3, hj => exact absurd hj (by omega)
theorem clX8_26 : Cond.classLink RX8 26 RX7 ∈ mGood := mGood_in (List.mem_of_getElem? (i := 179) (by decide +kernel)) rfl
theorem in_X7 : Cond.instantiable RX7 3 ∈ mGood := mGood_in (List.mem_of_getElem? (i := 180) (by decide +kernel)) rfl
theorem nX8_init_47 : mNewO RX8 cX8_init 47 8 3 [.null, .null, .int 0] := ⟨26, RX7, TX7, tyX7, rfl, clX8_26, in_X7, ic_X7, uX7, tyX7_ok, dv_X7, dX8_init_47⟩
theorem cd_X7_init : Cond.code yX7_init cX7_init 1 none ∈ mGood := mGood_in (List.mem_of_getElem? (i := 183) (by decide +kernel)) rfl
theorem im_X7_init : Cond.instanceMethod yX7_init ∈ mGood := mGood_in (List.mem_of_getElem? (i := 182) (by decide +kernel)) rfl
theorem mnX8_28 : Cond.methodLinkNest RX8 28 yX7_init "HillContest" ∈ mNests := mNests_in (List.mem_of_getElem? (i := 181) (by decide +kernel)) rfl
theorem vX8_init_51 : mCallIN RX8 cX8_init 51 yX7_init cX7_init 1 0 := ⟨28, "HillContest", mnX8_28, im_X7_init, ic_X7, cd_X7_init, rfl, by decide +kernel, by decide +kernel, by decide, dX8_init_51⟩
theorem lqX8_29 : Cond.fieldLink RX8 29 "HillContest" "trial" "LHillContest$Trial;" ∈ mGood := mGood_in (List.mem_of_getElem? (i := 289) (by decide +kernel)) rfl
theorem pX8_init_54 : mPutI RX8 cX8_init 54 9 7 (.object "HillContest$Trial") := ⟨RX8, TX8, 12, 29, tyX8, rfl, uX8, by decide, lqX8_29, dX8_init_54, tyX8_ok, nmX8, rfl, rfl, by decide +kernel⟩
theorem dv_X2 : ∀ j, j < 4 → defaultValue (tyX2 j) = vp_V [.null, .null, .int 0, .int 0] j := by
  intro j hj
  match j, hj with
  | 0, _ => rfl
  | 1, _ => rfl
  | 2, _ => rfl
  | 3, _ => rfl
  | j + 4, hj => exact absurd hj (by omega)
theorem clX8_33 : Cond.classLink RX8 33 RX2 ∈ mGood := mGood_in (List.mem_of_getElem? (i := 197) (by decide +kernel)) rfl
theorem in_X2 : Cond.instantiable RX2 4 ∈ mGood := mGood_in (List.mem_of_getElem? (i := 198) (by decide +kernel)) rfl
theorem nX8_init_58 : mNewO RX8 cX8_init 58 5 4 [.null, .null, .int 0, .int 0] := ⟨33, RX2, TX2, tyX2, rfl, clX8_33, in_X2, ic_X2, uX2, tyX2_ok, dv_X2, dX8_init_58⟩
theorem cd_X2_init : Cond.code yX2_init cX2_init 2 none ∈ mGood := mGood_in (List.mem_of_getElem? (i := 201) (by decide +kernel)) rfl
theorem im_X2_init : Cond.instanceMethod yX2_init ∈ mGood := mGood_in (List.mem_of_getElem? (i := 200) (by decide +kernel)) rfl
theorem mlX8_35 : Cond.methodLink RX8 35 yX2_init ∈ mGood := mGood_in (List.mem_of_getElem? (i := 199) (by decide +kernel)) rfl
theorem vX8_init_62 : mCallI RX8 cX8_init 62 yX2_init cX2_init 2 0 := ⟨35, mlX8_35, im_X2_init, ic_X2, cd_X2_init, rfl, by decide +kernel, by decide +kernel, by decide, dX8_init_62⟩
theorem lqX8_36 : Cond.fieldLink RX8 36 "HillContest" "commandText" "LHillContest$CommandText;" ∈ mGood := mGood_in (List.mem_of_getElem? (i := 290) (by decide +kernel)) rfl
theorem pX8_init_65 : mPutI RX8 cX8_init 65 9 8 (.object "HillContest$CommandText") := ⟨RX8, TX8, 12, 36, tyX8, rfl, uX8, by decide, lqX8_36, dX8_init_65, tyX8_ok, nmX8, rfl, rfl, by decide +kernel⟩
theorem clX8_47 : Cond.classLink RX8 47 RJ4 ∈ mGood := mGood_in (List.mem_of_getElem? (i := 280) (by decide +kernel)) rfl
theorem nX8_init_79 : mNewO RX8 cX8_init 79 1 4 [.null, .int 0, .int 0, .int 0] := ⟨47, RJ4, TJ4, tyJ4, rfl, clX8_47, in_J4, ic_J4, uJ4, tyJ4_ok, dv_J4, dX8_init_79⟩
theorem mlX8_49 : Cond.methodLink RX8 49 yJ4_init_da8c8 ∈ mGood := mGood_in (List.mem_of_getElem? (i := 281) (by decide +kernel)) rfl
theorem vX8_init_83 : mCallI RX8 cX8_init 83 yJ4_init_da8c8 cJ4_init_da8c8 1 0 := ⟨49, mlX8_49, im_J4_init_da8c8, ic_J4, cd_J4_init_da8c8, rfl, by decide +kernel, by decide +kernel, by decide, dX8_init_83⟩
theorem lqX8_50 : Cond.fieldLink RX8 50 "HillContest" "line" "Ljava/lang/StringBuilder;" ∈ mGood := mGood_in (List.mem_of_getElem? (i := 293) (by decide +kernel)) rfl
theorem pX8_init_86 : mPutI RX8 cX8_init 86 9 11 (.object "java/lang/StringBuilder") := ⟨RX8, TX8, 12, 50, tyX8, rfl, uX8, by decide, lqX8_50, dX8_init_86, tyX8_ok, nmX8, rfl, rfl, by decide +kernel⟩
theorem nX8_init_102 : mNewO RX8 cX8_init 102 7 9 [.null, .null, .null, .int 0, .int 0, .int 0, .int 0, .int 0, .int 0] := ⟨7, RX6, TX6, tyX6, rfl, clX8_7, in_X6, ic_X6, uX6, tyX6_ok, dv_X6, dX8_init_102⟩
theorem vX8_init_106 : mCallIN RX8 cX8_init 106 yX6_init cX6_init 1 0 := ⟨9, "HillContest", mnX8_9, im_X6_init, ic_X6, cd_X6_init, rfl, by decide +kernel, by decide +kernel, by decide, dX8_init_106⟩
theorem moX9_1 : Cond.methodLink RX9 1 objectInit ∈ mGood := mGood_in (List.mem_of_getElem? (i := 1400) (by decide +kernel)) rfl
theorem oX9_init_1 : mObjI RX9 cX9_init 1 := ⟨1, moX9_1, oi_im, oi_cd, dX9_init_1⟩
theorem lqX9_16 : Cond.fieldLink RX9 16 "HillContestModel" "v" "[I" ∈ mGood := mGood_in (List.mem_of_getElem? (i := 1406) (by decide +kernel)) rfl
theorem pX9_init_19 : mPutI RX9 cX9_init 19 10 5 (.array .int) := ⟨RX9, TX9, 21, 16, tyX9, rfl, uX9, by decide, lqX9_16, dX9_init_19, tyX9_ok, nmX9, rfl, rfl, by decide +kernel⟩
theorem lqX9_20 : Cond.fieldLink RX9 20 "HillContestModel" "before" "[I" ∈ mGood := mGood_in (List.mem_of_getElem? (i := 1407) (by decide +kernel)) rfl
theorem pX9_init_27 : mPutI RX9 cX9_init 27 10 6 (.array .int) := ⟨RX9, TX9, 21, 20, tyX9, rfl, uX9, by decide, lqX9_20, dX9_init_27, tyX9_ok, nmX9, rfl, rfl, by decide +kernel⟩
theorem lqX9_23 : Cond.fieldLink RX9 23 "HillContestModel" "saved" "[I" ∈ mGood := mGood_in (List.mem_of_getElem? (i := 1408) (by decide +kernel)) rfl
theorem pX9_init_35 : mPutI RX9 cX9_init 35 10 7 (.array .int) := ⟨RX9, TX9, 21, 23, tyX9, rfl, uX9, by decide, lqX9_23, dX9_init_35, tyX9_ok, nmX9, rfl, rfl, by decide +kernel⟩
theorem lqX9_26 : Cond.fieldLink RX9 26 "HillContestModel" "kept" "[I" ∈ mGood := mGood_in (List.mem_of_getElem? (i := 1409) (by decide +kernel)) rfl
theorem pX9_init_43 : mPutI RX9 cX9_init 43 10 8 (.array .int) := ⟨RX9, TX9, 21, 26, tyX9, rfl, uX9, by decide, lqX9_26, dX9_init_43, tyX9_ok, nmX9, rfl, rfl, by decide +kernel⟩
theorem lqX9_29 : Cond.fieldLink RX9 29 "HillContestModel" "past" "[I" ∈ mGood := mGood_in (List.mem_of_getElem? (i := 1410) (by decide +kernel)) rfl
theorem pX9_init_52 : mPutI RX9 cX9_init 52 10 9 (.array .int) := ⟨RX9, TX9, 21, 29, tyX9, rfl, uX9, by decide, lqX9_29, dX9_init_52, tyX9_ok, nmX9, rfl, rfl, by decide +kernel⟩
theorem lqX9_32 : Cond.fieldLink RX9 32 "HillContestModel" "text" "[I" ∈ mGood := mGood_in (List.mem_of_getElem? (i := 1411) (by decide +kernel)) rfl
theorem pX9_init_60 : mPutI RX9 cX9_init 60 10 10 (.array .int) := ⟨RX9, TX9, 21, 32, tyX9, rfl, uX9, by decide, lqX9_32, dX9_init_60, tyX9_ok, nmX9, rfl, rfl, by decide +kernel⟩
theorem lqX9_35 : Cond.fieldLink RX9 35 "HillContestModel" "line" "[I" ∈ mGood := mGood_in (List.mem_of_getElem? (i := 1412) (by decide +kernel)) rfl
theorem pX9_init_68 : mPutI RX9 cX9_init 68 10 11 (.array .int) := ⟨RX9, TX9, 21, 35, tyX9, rfl, uX9, by decide, lqX9_35, dX9_init_68, tyX9_ok, nmX9, rfl, rfl, by decide +kernel⟩
theorem lqX9_38 : Cond.fieldLink RX9 38 "HillContestModel" "isLeft" "[I" ∈ mGood := mGood_in (List.mem_of_getElem? (i := 1413) (by decide +kernel)) rfl
theorem pX9_init_76 : mPutI RX9 cX9_init 76 10 12 (.array .int) := ⟨RX9, TX9, 21, 38, tyX9, rfl, uX9, by decide, lqX9_38, dX9_init_76, tyX9_ok, nmX9, rfl, rfl, by decide +kernel⟩
theorem lqX9_41 : Cond.fieldLink RX9 41 "HillContestModel" "words" "[I" ∈ mGood := mGood_in (List.mem_of_getElem? (i := 1414) (by decide +kernel)) rfl
theorem pX9_init_324 : mPutI RX9 cX9_init 324 10 13 (.array .int) := ⟨RX9, TX9, 21, 41, tyX9, rfl, uX9, by decide, lqX9_41, dX9_init_324, tyX9_ok, nmX9, rfl, rfl, by decide +kernel⟩
theorem lqX9_44 : Cond.fieldLink RX9 44 "HillContestModel" "wordAt" "[I" ∈ mGood := mGood_in (List.mem_of_getElem? (i := 1415) (by decide +kernel)) rfl
theorem pX9_init_379 : mPutI RX9 cX9_init 379 10 14 (.array .int) := ⟨RX9, TX9, 21, 44, tyX9, rfl, uX9, by decide, lqX9_44, dX9_init_379, tyX9_ok, nmX9, rfl, rfl, by decide +kernel⟩
theorem ac_int : Cond.arrayClass (newarray.typeOf .int) ∈ mGood := mGood_in (List.mem_of_getElem? (i := 140) (by decide +kernel)) rfl
end CF
