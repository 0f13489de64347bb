section MA
variable {X : mC} {own : String} {cc : ByteArray} {d mc ms k n pc : Nat} {w : mW} {L L' : List (Nat × Value)} {st : List Value}
/-- two constants are compared -/
theorem r_acmp_eq (hC : Cx X own cc d mc ms) {x y : Nat} {off : Int} {tgt : Nat} (hd : decode cc pc = .ok (.if_acmp .eq off, 3)) (ht : (pc : Int) + off = (tgt : Int)) (hx9 : x ∈ gIs) (hy9 : y ∈ gIs) (k1 : x = y → Wp X k n w L st tgt) (k2 : ¬ x = y → Wp X k n w L st (pc + 3)) : Wp X k n w L (.ref y :: .ref x :: st) pc := by
  obtain ⟨p, l, e, R, s, m, args, below, meth, c, Q, D, dt, ad, A, nL⟩ := X
  obtain ⟨hx, hb, hml, hown, hts, hlk, htr, hK, hA, hG, -⟩ := hC
  intro ws H locs ls hp hP hD hS hl
  exact lv_acmp_eq (rx := some (ad x)) (ry := some (ad y)) hx hb hd ht (fun h => k1 (hG.2.2.2.2.2.1 x y hx9 hy9 (Option.some.inj h)) ws H locs ls hp hP hD hS hl) (fun h => k2 (fun e => h (by rw [e])) ws H locs ls hp hP hD hS hl)
theorem r_acmp_ne (hC : Cx X own cc d mc ms) {x y : Nat} {off : Int} {tgt : Nat} (hd : decode cc pc = .ok (.if_acmp .ne off, 3)) (ht : (pc : Int) + off = (tgt : Int)) (hx9 : x ∈ gIs) (hy9 : y ∈ gIs) (k1 : ¬ x = y → Wp X k n w L st tgt) (k2 : x = y → Wp X k n w L st (pc + 3)) : Wp X k n w L (.ref y :: .ref x :: st) pc := by
  obtain ⟨p, l, e, R, s, m, args, below, meth, c, Q, D, dt, ad, A, nL⟩ := X
  obtain ⟨hx, hb, hml, hown, hts, hlk, htr, hK, hA, hG, -⟩ := hC
  intro ws H locs ls hp hP hD hS hl
  exact lv_acmp_ne (rx := some (ad x)) (ry := some (ad y)) hx hb hd ht (fun h => k1 (fun e => h (by rw [e])) ws H locs ls hp hP hD hS hl) (fun h => k2 (hG.2.2.2.2.2.1 x y hx9 hy9 (Option.some.inj h)) ws H locs ls hp hP hD hS hl)
-- Math.max, by its own code
theorem max_code : cJ9_max_7cf53 = Lib.Math.max.code := by decide +kernel
theorem r_max (hC : Cx X own cc d mc ms) {x y : Int32} (hcv : mCallS own cc pc yJ9_max_7cf53 cJ9_max_7cf53 2 (some .int) 2) (hcat : (st.map fun v => v.category).sum ≤ 8) (hd : 1 ≤ d) (hk : k ≤ mc) (hn : n ≤ ms) (kk : Wp X k n w L (.int (if x < y then y else x) :: st) (pc + 3)) : Wp X k n w L (.int y :: .int x :: st) pc := by
  obtain ⟨p, l, e, R, s, m, args, below, meth, c, Q, D, dt, ad, A, nL⟩ := X
  obtain ⟨hx, hb, hml, hown, hts, hlk, htr, hK, hA, hG, hfr, hlo, hcc, hss⟩ := hC
  intro ws H locs ls hp hP hD hS hl
  obtain ⟨idx, hli, hstt, hini, hcode, hmh, hpar, hmL, hdd⟩ := hcv
  rw [max_code] at hcode
  have hcat' := cat_tr ad hcat
  exact va_mmax hx hb (hml.trans hl.1.symm) hown (hts _ hli) (hts _ hstt) (hts _ hini) (hts _ hcode) (by omega) (by omega) (by omega) (by omega) hdd (kk ws H locs ls hp hP hD hS hl)
end MA
