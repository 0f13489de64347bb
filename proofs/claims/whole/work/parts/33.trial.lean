section TR
/-- the trial's things: its hill, its queue, how long that is -/
def TrAt (w : mW) (t : Nat) (x : hv) (q : Nat → Int32) (n : Nat) : Prop := w[t]? = some (mO 8 [.ref (t + 1), .ref (t + 4), .int (nI n)]) ∧ HillAt w (t + 1) (t + 2) (t + 3) x ∧ w[t + 4]? = some (mI 0 25 q)
/-- the queue holds the cells of the list -/
def QL (q : Nat → Int32) (l : List Nat) : Prop := ∀ j, j < l.length → q j = nI (l.getD j 0)
def QOK (l : List Nat) : Prop := l.Nodup ∧ ∀ k ∈ l, k < 25
def TrTo (w : mW) (t : Nat) (x : hv) (l : List Nat) (w' : mW) : Prop := ∃ q, TrAt w' t x q l.length ∧ QL q l ∧ ∀ k, (k < t ∨ t + 4 < k) → w'[k]? = w[k]?
theorem nodup_len : ∀ (n : Nat) (l : List Nat), l.Nodup → (∀ k ∈ l, k < n) → l.length ≤ n
  | 0, l, _, h => by
    cases l with
    | nil => exact Nat.le_refl 0
    | cons a l => exact absurd (h a List.mem_cons_self) (Nat.not_lt_zero a)
  | n + 1, l, hn, h => by
    by_cases hm : n ∈ l
    · have h1 := nodup_len n (l.erase n) (hn.erase n) (fun k hk => by
        have h2 := h k (List.mem_of_mem_erase hk)
        have h3 : k ≠ n := fun e => by subst e; exact hn.not_mem_erase hk
        omega)
      have h4 := List.length_erase_of_mem hm
      omega
    · have h1 := nodup_len n l hn (fun k hk => by
        have h2 := h k hk
        have h3 : k ≠ n := fun e => by subst e; exact hm hk
        omega)
      omega
theorem QOK.lt {l : List Nat} (h : QOK l) {c : Nat} (hc : c < 25) (hn : c ∉ l) : l.length < 25 := by
  have h1 := nodup_len 25 (c :: l) (List.nodup_cons.mpr ⟨hn, h.1⟩) (fun k hk => by
    rcases List.mem_cons.mp hk with rfl | hk
    · exact hc
    · exact h.2 k hk)
  rw [List.length_cons] at h1
  omega
theorem QOK.le {l : List Nat} (h : QOK l) : l.length ≤ 25 := nodup_len 25 l h.1 h.2
/-- without the cell c -/
def qRem (c : Nat) (l : List Nat) : List Nat := l.filter (fun o => decide (¬ o = c))
theorem qRem_not (c : Nat) (l : List Nat) : c ∉ qRem c l := fun h => by
  have := (List.mem_filter.mp h).2
  simp at this
theorem qRem_ok {c : Nat} {l : List Nat} (h : QOK l) : QOK (qRem c l) := ⟨h.1.filter _, fun k hk => h.2 k (List.mem_filter.mp hk).1⟩
theorem qRem_le (c : Nat) (l : List Nat) : (qRem c l).length ≤ l.length := List.length_filter_le _ _
def qBef (f : Nat → Int32) (c o : Nat) : Bool := !decide (f c - f o ≤ 0) || (decide (f c - f o = 0) && decide (c < o))
def insRev (f : Nat → Int32) (c : Nat) : List Nat → List Nat
  | [] => [c]
  | z :: r => if qBef f c z then z :: insRev f c r else c :: z :: r
def qIns (f : Nat → Int32) (c : Nat) (l : List Nat) : List Nat := (insRev f c l.reverse).reverse
theorem insRev_app {f : Nat → Int32} {c : Nat} : ∀ (a b : List Nat), (∀ z ∈ a, qBef f c z = true) → insRev f c (a ++ b) = a ++ insRev f c b
  | [], b, _ => rfl
  | z :: a, b, h => by
    show (if qBef f c z then z :: insRev f c (a ++ b) else c :: z :: (a ++ b)) = _
    rw [if_pos (h z List.mem_cons_self), insRev_app a b (fun y hy => h y (List.mem_cons_of_mem _ hy))]
    rfl
theorem qIns_app {f : Nat → Int32} {c : Nat} (a b : List Nat) (h : ∀ z ∈ b, qBef f c z = true) : qIns f c (a ++ b) = qIns f c a ++ b := by
  unfold qIns
  rw [List.reverse_append, insRev_app _ _ (fun z hz => h z (List.mem_reverse.mp hz)), List.reverse_append, List.reverse_reverse]
theorem qIns_nil (f : Nat → Int32) (c : Nat) : qIns f c [] = [c] := rfl
theorem qIns_last {f : Nat → Int32} {c z : Nat} (a : List Nat) (h : qBef f c z = false) : qIns f c (a ++ [z]) = a ++ [z] ++ [c] := by
  unfold qIns
  rw [List.reverse_append]
  show (if qBef f c z then z :: insRev f c a.reverse else c :: z :: a.reverse).reverse = _
  rw [if_neg (by rw [h]; decide)]
  simp
theorem insRev_len (f : Nat → Int32) (c : Nat) : ∀ l : List Nat, (insRev f c l).length = l.length + 1
  | [] => rfl
  | z :: r => by
    show (if qBef f c z then z :: insRev f c r else c :: z :: r).length = _
    split
    · rw [List.length_cons, insRev_len f c r, List.length_cons]
    · rfl
theorem qIns_len (f : Nat → Int32) (c : Nat) (l : List Nat) : (qIns f c l).length = l.length + 1 := by
  unfold qIns
  rw [List.length_reverse, insRev_len, List.length_reverse]
theorem insRev_perm (f : Nat → Int32) (c : Nat) : ∀ l : List Nat, (insRev f c l).Perm (c :: l)
  | [] => List.Perm.refl _
  | z :: r => by
    show (if qBef f c z then z :: insRev f c r else c :: z :: r).Perm _
    split
    · exact ((insRev_perm f c r).cons z).trans (List.Perm.swap c z r)
    · exact List.Perm.refl _
theorem qIns_perm (f : Nat → Int32) (c : Nat) (l : List Nat) : (qIns f c l).Perm (c :: l) := (List.reverse_perm _).trans ((insRev_perm f c l.reverse).trans ((List.reverse_perm l).cons c))
theorem qIns_ok {f : Nat → Int32} {c : Nat} {l : List Nat} (h : QOK l) (hc : c < 25) (hn : c ∉ l) : QOK (qIns f c l) := by
  refine ⟨(qIns_perm f c l).nodup_iff.mpr (List.nodup_cons.mpr ⟨hn, h.1⟩), fun k hk => ?_⟩
  rcases List.mem_cons.mp ((qIns_perm f c l).mem_iff.mp hk) with rfl | hk
  · exact hc
  · exact h.2 k hk
def qRef (f : Nat → Int32) (op sl : Int32) (c : Nat) (l : List Nat) : List Nat := if hSteep f op c < sl then qRem c l else qIns f c (qRem c l)
theorem qRef_ok {f : Nat → Int32} {op sl : Int32} {c : Nat} {l : List Nat} (h : QOK l) (hc : c < 25) : QOK (qRef f op sl c l) := by
  unfold qRef
  split
  · exact qRem_ok h
  · exact qIns_ok (qRem_ok h) hc (qRem_not c l)
def qNb (f : Nat → Int32) (op sl : Int32) (c s : Nat) (l : List Nat) : List Nat := if hNb c s = 25 then l else qRef f op sl (hNb c s) l
theorem qNb_ok {f : Nat → Int32} {op sl : Int32} {c s : Nat} {l : List Nat} (h : QOK l) (hc : c < 25) (hs : s < 4) : QOK (qNb f op sl c s l) := by
  unfold qNb
  split
  · exact h
  · rename_i q
    exact qRef_ok h (by have := hNb_lt c hc s hs; omega)
def qRA (f : Nat → Int32) (op sl : Int32) (c : Nat) (l : List Nat) : List Nat := qNb f op sl c 3 (qNb f op sl c 2 (qNb f op sl c 1 (qNb f op sl c 0 (qRef f op sl c l))))
theorem qRA_ok {f : Nat → Int32} {op sl : Int32} {c : Nat} {l : List Nat} (h : QOK l) (hc : c < 25) : QOK (qRA f op sl c l) := qNb_ok (qNb_ok (qNb_ok (qNb_ok (qRef_ok h hc) hc (by decide)) hc (by decide)) hc (by decide)) hc (by decide)
def qFill (f : Nat → Int32) (op sl : Int32) : Nat → List Nat
  | 0 => []
  | c + 1 => qRef f op sl c (qFill f op sl c)
theorem qFill_ok {f : Nat → Int32} {op sl : Int32} : ∀ {c : Nat}, c ≤ 25 → QOK (qFill f op sl c)
  | 0, _ => ⟨List.nodup_nil, fun _ h => absurd h List.not_mem_nil⟩
  | c + 1, h => qRef_ok (qFill_ok (by omega)) (by omega)
def qAfter (x : hv) (c : Nat) (l : List Nat) : List Nat :=
  qRA (hTopple x c).1 (hTopple x c).2.2.2.1 (hTopple x c).2.2.1 c (if hLow x.1 x.2.2.2.1 c = 25 then qRem c l else qRA (hTopple x c).1 (hTopple x c).2.2.2.1 (hTopple x c).2.2.1 (hLow x.1 x.2.2.2.1 c) (qRem c l))
theorem qAfter_ok {x : hv} {c : Nat} {l : List Nat} (h : QOK l) (hc : c < 25) : QOK (qAfter x c l) := by
  unfold qAfter
  refine qRA_ok ?_ hc
  split
  · exact qRem_ok h
  · rename_i q
    exact qRA_ok (qRem_ok h) (by have := hLow_lt (f := x.1) (op := x.2.2.2.1) hc; omega)
/-- how often a cell topples, by the queue -/
def qRun : Nat → hv → List Nat → Nat
  | 0, _, _ => 0
  | n + 1, x, l => match l with
    | [] => 0
    | c :: r => qRun n (hTopple x c) (qAfter x c (c :: r)) + 1
def qRunF (x : hv) (l : List Nat) : Nat := qRun 50000 x l
theorem qRun_nil {n : Nat} {x : hv} : qRun n x [] = 0 := by cases n <;> rfl
theorem QL_head {q : Nat → Int32} {c : Nat} {r : List Nat} (h : QL q (c :: r)) : q 0 = nI c := h 0 (by rw [List.length_cons]; omega)
set_option maxRecDepth 100000 in
set_option maxHeartbeats 4000000 in
theorem sp_bef {d c o : Nat} {w : mW} {t : Nat} {f g : Nat → Int32} {sl op lo : Int32} {q : Nat → Int32} {n : Nat} (H0 : TrAt w t (f, g, sl, op, lo) q n) (hc : c < 26) (ho : o < 26) : Sp d yX7_comesBefore cX7_comesBefore 4 (some .boolean) [.ref t, .int (nI c), .int (nI o)] w 0 0 (fun v w' => v = some (.int (bI (qBef f c o))) ∧ w' = w) noX := by
  refine Sp.of (by decide +kernel) (Nat.le_of_ble_eq_true rfl) (fun X hC hnl hE hR hN => ?_)
  have hC : Cx X RX7 cX7_comesBefore d 0 0 := hC
  show Wp X 0 0 w [(0, .ref t), (1, .int (nI c)), (2, .int (nI o))] [] 0
  have ht : w[t]? = some (mO 8 [.ref (t + 1), .ref (t + 4), .int (nI n)]) := H0.1
  have H : HillAt w (t + 1) (t + 2) (t + 3) (f, g, sl, op, lo) := H0.2.1
  have hh : w[t + 1]? = some (mO 6 [.ref (t + 2), .ref (t + 3), .int sl, .int op, .int lo]) := H.1
  have ha : w[t + 2]? = some (mI 0 26 f) := H.2.1
  have hb : w[t + 3]? = some (mI 0 25 g) := H.2.2
  have hq : w[t + 4]? = some (mI 0 25 q) := H0.2.2
  refine r_aload_n hC dX7_comesBefore_0 rfl (j := 0) rfl ?_
  refine r_get hC gX7_comesBefore_1 ht (v := .ref (t + 1)) rfl ?_
  refine r_get hC gX7_comesBefore_4 hh (v := .ref (t + 2)) rfl ?_
  refine r_iload_n hC dX7_comesBefore_7 rfl (j := 1) rfl ?_
  refine r_iald hC dX7_comesBefore_8 (j := c) ha (mIx_nI (by omega) (by decide)) ?_
  refine r_aload_n hC dX7_comesBefore_9 rfl (j := 0) rfl ?_
  refine r_get hC gX7_comesBefore_10 ht (v := .ref (t + 1)) rfl ?_
  refine r_get hC gX7_comesBefore_13 hh (v := .ref (t + 2)) rfl ?_
  refine r_iload_n hC dX7_comesBefore_16 rfl (j := 2) rfl ?_
  refine r_iald hC dX7_comesBefore_17 (j := o) ha (mIx_nI (by omega) (by decide)) ?_
  refine r_isub hC dX7_comesBefore_18 ?_
  refine r_istore_n hC dX7_comesBefore_19 rfl (by rw [hnl]; decide) (L' := [(3, .int ((f c) - (f o))), (0, .ref t), (1, .int (nI c)), (2, .int (nI o))]) rfl ?_
  refine r_iload_n hC dX7_comesBefore_20 rfl (j := 0) rfl ?_
  refine r_if_gt hC dX7_comesBefore_21 (tgt := 33) (by decide) (fun c21 => ?_) (fun c21 => ?_)
  · refine r_iconst hC dX7_comesBefore_33 (v := 1) (by decide) ?_
    refine r_goto hC dX7_comesBefore_34 (tgt := 38) (by decide) ?_
    refine r_nret hC hE hR dX7_comesBefore_38 (by decide) (by omega) (by omega) (rfl) ?_
    have g21 : ¬ f c - f o ≤ 0 := Int32.not_le.mpr c21
    exact ⟨by simp [qBef, bI, g21], rfl⟩
  · refine r_iload_n hC dX7_comesBefore_24 rfl (j := 0) rfl ?_
    refine r_if_ne hC dX7_comesBefore_25 (tgt := 37) (by decide) (fun c25 => ?_) (fun c25 => ?_)
    · refine r_iconst hC dX7_comesBefore_37 (v := 0) (by decide) ?_
      refine r_nret hC hE hR dX7_comesBefore_38 (by decide) (by omega) (by omega) (rfl) ?_
      have g21 : f c - f o ≤ 0 := Int32.not_lt.mp c21
      exact ⟨by simp [qBef, bI, c25, g21], rfl⟩
    · refine r_iload_n hC dX7_comesBefore_28 rfl (j := 2) rfl ?_
      refine r_iload_n hC dX7_comesBefore_29 rfl (j := 3) rfl ?_
      refine r_icmp_ge hC dX7_comesBefore_30 (tgt := 37) (by decide) (fun c30 => ?_) (fun c30 => ?_)
      · refine r_iconst hC dX7_comesBefore_37 (v := 0) (by decide) ?_
        refine r_nret hC hE hR dX7_comesBefore_38 (by decide) (by omega) (by omega) (rfl) ?_
        have g21 : f c - f o ≤ 0 := Int32.not_lt.mp c21
        have h30 : ¬ c < o := fun q => absurd c30 (nI_ge q (by omega))
        exact ⟨by simp [qBef, bI, c25, g21, h30], rfl⟩
      · refine r_iconst hC dX7_comesBefore_33 (v := 1) (by decide) ?_
        refine r_goto hC dX7_comesBefore_34 (tgt := 38) (by decide) ?_
        refine r_nret hC hE hR dX7_comesBefore_38 (by decide) (by omega) (by omega) (rfl) ?_
        have g21 : f c - f o ≤ 0 := Int32.not_lt.mp c21
        have h30 : c < o := Nat.lt_of_not_le (fun q => c30 (nI_le q (by omega)))
        exact ⟨by simp [qBef, bI, c25, g21, h30], rfl⟩
theorem take_filter {l : List Nat} {c i : Nat} (hi : i < l.length) : qRem c (l.take (i + 1)) = if ¬ l.getD i 0 = c then qRem c (l.take i) ++ [l.getD i 0] else qRem c (l.take i) := by
  have e : l.take (i + 1) = l.take i ++ [l.getD i 0] := by
    rw [List.take_succ, List.getElem?_eq_getElem hi, List.getD_eq_getElem?_getD, List.getElem?_eq_getElem hi]
    rfl
  generalize l.getD i 0 = z at e ⊢
  unfold qRem
  rw [e, List.filter_append]
  by_cases h : z = c
  · rw [if_neg (by simpa using h)]
    simp [h]
  · rw [if_pos h]
    simp [h]
theorem getD_app_l {a b : List Nat} {j : Nat} (h : j < a.length) : (a ++ b).getD j 0 = a.getD j 0 := by
  rw [List.getD_eq_getElem?_getD, List.getD_eq_getElem?_getD, List.getElem?_append_left h]
theorem getD_app_r {a b : List Nat} {j : Nat} (h : a.length ≤ j) : (a ++ b).getD j 0 = b.getD (j - a.length) 0 := by
  rw [List.getD_eq_getElem?_getD, List.getD_eq_getElem?_getD, List.getElem?_append_right h]
set_option maxRecDepth 100000 in
set_option maxHeartbeats 4000000 in
theorem rem_loop {X : mC} {d : Nat} {w0 : mW} {t c : Nat} {f g : Nat → Int32} {sl op lo : Int32} {l : List Nat} {q0 : Nat → Int32} (hl : QOK l) (hc : c < 25) (hq0 : QL q0 l) (hC : Cx X RX7 cX7_remove d 0 0) (hnl : mNL X = 4)
    (kk : ∀ (w : mW) (q : Nat → Int32), w.length = w0.length → TrAt w t (f, g, sl, op, lo) q l.length → QL q (qRem c l) → (∀ k, (k < t ∨ t + 4 < k) → w[k]? = w0[k]?) → Wp X 0 0 w [(0, .ref t), (1, .int (nI c)), (2, .int (nI (qRem c l).length)), (3, .int (nI l.length))] [] 4) :
    ∀ (m i : Nat) (w : mW) (q : Nat → Int32), i + m = l.length → w.length = w0.length → TrAt w t (f, g, sl, op, lo) q l.length → QL q (qRem c (l.take i)) → (∀ j, i ≤ j → q j = q0 j) → (∀ k, (k < t ∨ t + 4 < k) → w[k]? = w0[k]?) → Wp X 0 0 w [(0, .ref t), (1, .int (nI c)), (2, .int (nI (qRem c (l.take i)).length)), (3, .int (nI i))] [] 4 := by
  have hl25 := hl.le
  intro m
  induction m with
  | zero =>
    intro i w q h9 hlen H0 hQ hR hO
    obtain rfl : i = l.length := by omega
    rw [List.take_length] at hQ ⊢
    exact kk w q hlen H0 hQ hO
  | succ m ih =>
    intro i w q h9 hlen H0 hQ hR hO
    have hi : i < l.length := by omega
    have hkl : (qRem c (l.take i)).length ≤ i := Nat.le_trans (qRem_le _ _) (by rw [List.length_take]; omega)
    have hqi : q i = nI (l.getD i 0) := (hR i (Nat.le_refl i)).trans (hq0 i hi)
    have hli : l.getD i 0 < 25 := hl.2 _ (by rw [List.getD_eq_getElem?_getD, List.getElem?_eq_getElem hi]; exact List.getElem_mem hi)
    have htf := take_filter (c := c) hi
    have ht : w[t]? = some (mO 8 [.ref (t + 1), .ref (t + 4), .int (nI l.length)]) := H0.1
    have H : HillAt w (t + 1) (t + 2) (t + 3) (f, g, sl, op, lo) := H0.2.1
    have hh : w[t + 1]? = some (mO 6 [.ref (t + 2), .ref (t + 3), .int sl, .int op, .int lo]) := H.1
    have ha : w[t + 2]? = some (mI 0 26 f) := H.2.1
    have hb : w[t + 3]? = some (mI 0 25 g) := H.2.2
    have hq : w[t + 4]? = some (mI 0 25 q) := H0.2.2
    refine r_iload_n hC dX7_remove_4 rfl (j := 3) rfl ?_
    refine r_aload_n hC dX7_remove_5 rfl (j := 0) rfl ?_
    refine r_get hC gX7_remove_6 ht (v := .int (nI l.length)) rfl ?_
    refine r_icmp_ge hC dX7_remove_9 (tgt := 43) (by decide) (fun h => absurd h (lit_ge rfl hi (by omega))) (fun _ => ?_)
    refine r_aload_n hC dX7_remove_12 rfl (j := 0) rfl ?_
    refine r_get hC gX7_remove_13 ht (v := .ref (t + 4)) rfl ?_
    refine r_iload_n hC dX7_remove_16 rfl (j := 3) rfl ?_
    refine r_iald hC dX7_remove_17 (j := i) hq (mIx_nI (by omega) (by decide)) ?_
    refine r_iload_n hC dX7_remove_18 rfl (j := 1) rfl ?_
    refine r_icmp_eq hC dX7_remove_19 (tgt := 37) (by decide) (fun c19 => ?_) (fun c19 => ?_)
    · refine r_iinc hC dX7_remove_37 (j := 3) rfl (v := nI (i + 1)) (nI_succ i).symm (by rw [hnl]; decide) (L' := [(3, .int (nI (i + 1))), (0, .ref t), (1, .int (nI c)), (2, .int (nI (qRem c (l.take i)).length))]) rfl ?_
      refine r_goto hC dX7_remove_40 (tgt := 4) (by decide) ?_
      refine r_locals [1, 2, 3, 0] (L' := [(0, .ref t), (1, .int (nI c)), (2, .int (nI (qRem c (l.take i)).length)), (3, .int (nI (i + 1)))]) rfl ?_
      have e9 : l.getD i 0 = c := (nI_eq (by omega) (by omega)).mp (hqi.symm.trans c19)
      rw [if_neg (fun q => q e9)] at htf
      have hn := ih (i + 1) w q (by omega) hlen H0 (by rw [htf]; exact hQ) (fun j hj => hR j (by omega)) hO
      rw [htf] at hn
      exact hn
    · refine r_aload_n hC dX7_remove_22 rfl (j := 0) rfl ?_
      refine r_get hC gX7_remove_23 ht (v := .ref (t + 4)) rfl ?_
      refine r_iload_n hC dX7_remove_26 rfl (j := 2) rfl ?_
      refine r_aload_n hC dX7_remove_27 rfl (j := 0) rfl ?_
      refine r_get hC gX7_remove_28 ht (v := .ref (t + 4)) rfl ?_
      refine r_iload_n hC dX7_remove_31 rfl (j := 3) rfl ?_
      refine r_iald hC dX7_remove_32 (j := i) hq (mIx_nI (by omega) (by decide)) ?_
      refine r_iast' hC dX7_remove_33 (j := (qRem c (l.take i)).length) hq (mIx_nI (by omega) (by decide)) (fun w_1 ew_1 => ?_)
      have hf1_t : w_1[t]? = some (mO 8 [.ref (t + 1), .ref (t + 4), .int (nI l.length)]) := by rw [ew_1, List.getElem?_set_ne (by omega)]; exact ht
      have hf1__t___1_ : w_1[(t + 1)]? = some (mO 6 [.ref (t + 2), .ref (t + 3), .int sl, .int op, .int lo]) := by rw [ew_1, List.getElem?_set_ne (by omega)]; exact hh
      have hf1__t___2_ : w_1[(t + 2)]? = some (mI 0 26 f) := by rw [ew_1, List.getElem?_set_ne (by omega)]; exact ha
      have hf1__t___3_ : w_1[(t + 3)]? = some (mI 0 25 g) := by rw [ew_1, List.getElem?_set_ne (by omega)]; exact hb
      have hf1__t___4_ : w_1[(t + 4)]? = some (mI 0 25 (upd q (qRem c (l.take i)).length (q i))) := by rw [ew_1]; exact List.getElem?_set_self (lt_of_get hq)
      refine r_iinc hC dX7_remove_34 (j := 2) rfl (v := nI ((qRem c (l.take i)).length + 1)) (nI_succ _).symm (by rw [hnl]; decide) (L' := [(2, .int (nI ((qRem c (l.take i)).length + 1))), (0, .ref t), (1, .int (nI c)), (3, .int (nI i))]) rfl ?_
      refine r_iinc hC dX7_remove_37 (j := 3) rfl (v := nI (i + 1)) (nI_succ i).symm (by rw [hnl]; decide) (L' := [(3, .int (nI (i + 1))), (2, .int (nI ((qRem c (l.take i)).length + 1))), (0, .ref t), (1, .int (nI c))]) rfl ?_
      refine r_goto hC dX7_remove_40 (tgt := 4) (by decide) ?_
      refine r_locals [2, 3, 1, 0] (L' := [(0, .ref t), (1, .int (nI c)), (2, .int (nI ((qRem c (l.take i)).length + 1))), (3, .int (nI (i + 1)))]) rfl ?_
      have e9 : ¬ l.getD i 0 = c := fun q => c19 (by rw [hqi, q])
      rw [if_pos e9] at htf
      have hl9 : (qRem c (l.take i) ++ [l.getD i 0]).length = (qRem c (l.take i)).length + 1 := by rw [List.length_append]; rfl
      have hn := ih (i + 1) w_1 (upd q (qRem c (l.take i)).length (q i)) (by omega) (by rw [ew_1, List.length_set]; exact hlen) ⟨hf1_t, ⟨hf1__t___1_, hf1__t___2_, hf1__t___3_⟩, hf1__t___4_⟩ (by
          rw [htf]
          intro j hj
          rw [hl9] at hj
          rcases Nat.lt_or_ge j (qRem c (l.take i)).length with h | h
          · rw [pk_un (by omega), getD_app_l h]
            exact hQ j h
          · obtain rfl : j = (qRem c (l.take i)).length := by omega
            rw [pk_us, getD_app_r (Nat.le_refl _), Nat.sub_self, hqi]
            rfl) (fun j hj => by rw [pk_un (by omega)]; exact hR j (by omega)) (fun k hk => by rw [ew_1, List.getElem?_set_ne (by omega)]; exact hO k hk)
      rw [htf, hl9] at hn
      exact hn
set_option maxRecDepth 100000 in
set_option maxHeartbeats 4000000 in
theorem sp_qrem {d c : Nat} {l : List Nat} {w : mW} {t : Nat} {f g : Nat → Int32} {sl op lo : Int32} {q : Nat → Int32} (H0 : TrAt w t (f, g, sl, op, lo) q l.length) (hl : QOK l) (hQ : QL q l) (hc : c < 25) : Sp d yX7_remove cX7_remove 4 none [.ref t, .int (nI c)] w 0 0 (fun v w' => v = none ∧ TrTo w t (f, g, sl, op, lo) (qRem c l) w') noX := by
  refine Sp.of (by decide +kernel) (Nat.le_of_ble_eq_true rfl) (fun X hC hnl hE hR hN => ?_)
  have hC : Cx X RX7 cX7_remove d 0 0 := hC
  show Wp X 0 0 w [(0, .ref t), (1, .int (nI c))] [] 0
  refine r_iconst hC dX7_remove_0 (v := 0) (by decide) ?_
  refine r_istore_n hC dX7_remove_1 rfl (by rw [hnl]; decide) (L' := [(2, .int 0), (0, .ref t), (1, .int (nI c))]) rfl ?_
  refine r_iconst hC dX7_remove_2 (v := 0) (by decide) ?_
  refine r_istore_n hC dX7_remove_3 rfl (by rw [hnl]; decide) (L' := [(3, .int 0), (2, .int 0), (0, .ref t), (1, .int (nI c))]) rfl ?_
  refine r_locals [2, 3, 1, 0] (L' := [(0, .ref t), (1, .int (nI c)), (2, .int 0), (3, .int 0)]) rfl ?_
  refine rem_loop hl hc hQ hC hnl (fun w2 q2 hlen2 hT2 hQ2 hO2 => ?_) l.length 0 w q (Nat.zero_add _) rfl H0 (fun j hj => absurd hj (Nat.not_lt_zero j)) (fun _ _ => rfl) (fun _ _ => rfl)
  have hl25 := hl.le
  have ht2 : w2[t]? = some (mO 8 [.ref (t + 1), .ref (t + 4), .int (nI l.length)]) := hT2.1
  have H2 := hT2.2.1
  have hq2 : w2[t + 4]? = some (mI 0 25 q2) := hT2.2.2
  refine r_iload_n hC dX7_remove_4 rfl (j := 3) rfl ?_
  refine r_aload_n hC dX7_remove_5 rfl (j := 0) rfl ?_
  refine r_get hC gX7_remove_6 ht2 (v := .int (nI l.length)) rfl ?_
  refine r_icmp_ge hC dX7_remove_9 (tgt := 43) (by decide) (fun _ => ?_) (fun h => absurd (lit_le rfl (Nat.le_refl _) (by omega)) h)
  refine r_aload_n hC dX7_remove_43 rfl (j := 0) rfl ?_
  refine r_iload_n hC dX7_remove_44 rfl (j := 2) rfl ?_
  refine r_put' hC pX7_remove_45 ht2 (Nat.le_of_ble_eq_true rfl) (fun _ => rfl) (fun _ => rfl) (fun w_1 ew_1 => ?_)
  have hf1_t : w_1[t]? = some (mO 8 [.ref (t + 1), .ref (t + 4), .int (nI (qRem c l).length)]) := by rw [ew_1]; exact List.getElem?_set_self (lt_of_get ht2)
  have hf1__t___4_ : w_1[(t + 4)]? = some (mI 0 25 q2) := by rw [ew_1, List.getElem?_set_ne (by omega)]; exact hq2
  refine r_vret hC hE hR dX7_remove_48 (by omega) (by omega) (by rw [ew_1, List.length_set]; exact hlen2) ?_
  refine ⟨rfl, q2, ⟨hf1_t, ⟨?_, ?_, ?_⟩, hf1__t___4_⟩, hQ2, fun k hk => ?_⟩
  · rw [ew_1, List.getElem?_set_ne (by omega)]
    exact H2.1
  · rw [ew_1, List.getElem?_set_ne (by omega)]
    exact H2.2.1
  · rw [ew_1, List.getElem?_set_ne (by omega)]
    exact H2.2.2
  · rw [ew_1, List.getElem?_set_ne (by omega)]
    exact hO2 k hk
end TR
