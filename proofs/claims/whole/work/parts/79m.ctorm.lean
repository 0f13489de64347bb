section CT2
/-- the first c of the words' letters; of the words' places -/
def wdP (c : Nat) : Nat → Int32 := fun j => if j < c then wdF j else 0
def waP (c : Nat) : Nat → Int32 := fun j => if j < c then waF j else 0
theorem pre_up {F : Nat → Int32} {c : Nat} {v : Int32} (h : v = F c) : upd (fun j => if j < c then F j else 0) c v = fun j => if j < c + 1 then F j else 0 := by
  funext j
  by_cases z : j = c
  · subst z
    rw [pk_us, if_pos (Nat.lt_succ_self j), h]
  · rw [pk_un z]
    by_cases q : j < c
    · rw [if_pos q, if_pos (by omega)]
    · rw [if_neg q, if_neg (by omega)]
theorem wdP_0 : wdP 0 = (fun _ => 0) := funext fun j => if_neg (Nat.not_lt_zero j)
theorem waP_0 : waP 0 = (fun _ => 0) := funext fun j => if_neg (Nat.not_lt_zero j)
theorem wdP_up {c : Nat} {v : Int32} (h : v = wdF c) : upd (wdP c) c v = wdP (c + 1) := pre_up h
theorem waP_up {c : Nat} {v : Int32} (h : v = waF c) : upd (waP c) c v = waP (c + 1) := pre_up h
theorem wdP_41 : ∀ j, j < 41 → wdF j = wdP 41 j := fun j hj => (if_pos hj).symm
theorem waP_9 : ∀ j, j < 9 → waF j = waP 9 j := fun j hj => (if_pos hj).symm
theorem enc0 : ∀ j, j < 67 → enc sv0 j = upd (fun _ => 0) 1 3 j := by decide +kernel
set_option maxRecDepth 100000 in
set_option maxHeartbeats 4000000 in
theorem cw_0 {X : mC} {d mc ms k n r : Nat} {w : mW} {L : List (Nat × Value)} {st : List Value} (hC : Cx X RX9 cX9_init d mc ms) (h : w[r]? = some (mI 0 41 (wdP 0))) (kk : ∀ w', w' = w.set r (mI 0 41 (wdP 10)) → Wp X k n w' L (.ref r :: st) 138) : Wp X k n w L (.ref r :: st) 84 := by
  refine r_dup hC dX9_init_84 rfl ?_
  refine r_iconst hC dX9_init_85 (v := 0) (by decide) ?_
  refine r_bipush hC dX9_init_86 (v := 112) (by decide) ?_
  refine r_iast' hC dX9_init_88 (j := 0) h ⟨by decide, by decide, by decide⟩ (fun w_1 ew_1 => ?_)
  rw [wdP_up (by decide)] at ew_1
  have h_1 : w_1[r]? = some (mI 0 41 (wdP 1)) := by rw [ew_1]; exact List.getElem?_set_self (lt_of_get h)
  refine r_dup hC dX9_init_89 rfl ?_
  refine r_iconst hC dX9_init_90 (v := 1) (by decide) ?_
  refine r_bipush hC dX9_init_91 (v := 108) (by decide) ?_
  refine r_iast' hC dX9_init_93 (j := 1) h_1 ⟨by decide, by decide, by decide⟩ (fun w_2 ew_2 => ?_)
  rw [wdP_up (by decide)] at ew_2
  rw [ew_1, List.set_set] at ew_2
  have h_2 : w_2[r]? = some (mI 0 41 (wdP 2)) := by rw [ew_2]; exact List.getElem?_set_self (lt_of_get h)
  refine r_dup hC dX9_init_94 rfl ?_
  refine r_iconst hC dX9_init_95 (v := 2) (by decide) ?_
  refine r_bipush hC dX9_init_96 (v := 97) (by decide) ?_
  refine r_iast' hC dX9_init_98 (j := 2) h_2 ⟨by decide, by decide, by decide⟩ (fun w_3 ew_3 => ?_)
  rw [wdP_up (by decide)] at ew_3
  rw [ew_2, List.set_set] at ew_3
  have h_3 : w_3[r]? = some (mI 0 41 (wdP 3)) := by rw [ew_3]; exact List.getElem?_set_self (lt_of_get h)
  refine r_dup hC dX9_init_99 rfl ?_
  refine r_iconst hC dX9_init_100 (v := 3) (by decide) ?_
  refine r_bipush hC dX9_init_101 (v := 121) (by decide) ?_
  refine r_iast' hC dX9_init_103 (j := 3) h_3 ⟨by decide, by decide, by decide⟩ (fun w_4 ew_4 => ?_)
  rw [wdP_up (by decide)] at ew_4
  rw [ew_3, List.set_set] at ew_4
  have h_4 : w_4[r]? = some (mI 0 41 (wdP 4)) := by rw [ew_4]; exact List.getElem?_set_self (lt_of_get h)
  refine r_dup hC dX9_init_104 rfl ?_
  refine r_iconst hC dX9_init_105 (v := 4) (by decide) ?_
  refine r_bipush hC dX9_init_106 (v := 101) (by decide) ?_
  refine r_iast' hC dX9_init_108 (j := 4) h_4 ⟨by decide, by decide, by decide⟩ (fun w_5 ew_5 => ?_)
  rw [wdP_up (by decide)] at ew_5
  rw [ew_4, List.set_set] at ew_5
  have h_5 : w_5[r]? = some (mI 0 41 (wdP 5)) := by rw [ew_5]; exact List.getElem?_set_self (lt_of_get h)
  refine r_dup hC dX9_init_109 rfl ?_
  refine r_iconst hC dX9_init_110 (v := 5) (by decide) ?_
  refine r_bipush hC dX9_init_111 (v := 114) (by decide) ?_
  refine r_iast' hC dX9_init_113 (j := 5) h_5 ⟨by decide, by decide, by decide⟩ (fun w_6 ew_6 => ?_)
  rw [wdP_up (by decide)] at ew_6
  rw [ew_5, List.set_set] at ew_6
  have h_6 : w_6[r]? = some (mI 0 41 (wdP 6)) := by rw [ew_6]; exact List.getElem?_set_self (lt_of_get h)
  refine r_dup hC dX9_init_114 rfl ?_
  refine r_bipush hC dX9_init_115 (v := 6) (by decide) ?_
  refine r_bipush hC dX9_init_117 (v := 32) (by decide) ?_
  refine r_iast' hC dX9_init_119 (j := 6) h_6 ⟨by decide, by decide, by decide⟩ (fun w_7 ew_7 => ?_)
  rw [wdP_up (by decide)] at ew_7
  rw [ew_6, List.set_set] at ew_7
  have h_7 : w_7[r]? = some (mI 0 41 (wdP 7)) := by rw [ew_7]; exact List.getElem?_set_self (lt_of_get h)
  refine r_dup hC dX9_init_120 rfl ?_
  refine r_bipush hC dX9_init_121 (v := 7) (by decide) ?_
  refine r_bipush hC dX9_init_123 (v := 100) (by decide) ?_
  refine r_iast' hC dX9_init_125 (j := 7) h_7 ⟨by decide, by decide, by decide⟩ (fun w_8 ew_8 => ?_)
  rw [wdP_up (by decide)] at ew_8
  rw [ew_7, List.set_set] at ew_8
  have h_8 : w_8[r]? = some (mI 0 41 (wdP 8)) := by rw [ew_8]; exact List.getElem?_set_self (lt_of_get h)
  refine r_dup hC dX9_init_126 rfl ?_
  refine r_bipush hC dX9_init_127 (v := 8) (by decide) ?_
  refine r_bipush hC dX9_init_129 (v := 114) (by decide) ?_
  refine r_iast' hC dX9_init_131 (j := 8) h_8 ⟨by decide, by decide, by decide⟩ (fun w_9 ew_9 => ?_)
  rw [wdP_up (by decide)] at ew_9
  rw [ew_8, List.set_set] at ew_9
  have h_9 : w_9[r]? = some (mI 0 41 (wdP 9)) := by rw [ew_9]; exact List.getElem?_set_self (lt_of_get h)
  refine r_dup hC dX9_init_132 rfl ?_
  refine r_bipush hC dX9_init_133 (v := 9) (by decide) ?_
  refine r_bipush hC dX9_init_135 (v := 111) (by decide) ?_
  refine r_iast' hC dX9_init_137 (j := 9) h_9 ⟨by decide, by decide, by decide⟩ (fun w_10 ew_10 => ?_)
  rw [wdP_up (by decide)] at ew_10
  rw [ew_9, List.set_set] at ew_10
  have h_10 : w_10[r]? = some (mI 0 41 (wdP 10)) := by rw [ew_10]; exact List.getElem?_set_self (lt_of_get h)
  exact kk w_10 ew_10
set_option maxRecDepth 100000 in
set_option maxHeartbeats 4000000 in
theorem cw_1 {X : mC} {d mc ms k n r : Nat} {w : mW} {L : List (Nat × Value)} {st : List Value} (hC : Cx X RX9 cX9_init d mc ms) (h : w[r]? = some (mI 0 41 (wdP 10))) (kk : ∀ w', w' = w.set r (mI 0 41 (wdP 20)) → Wp X k n w' L (.ref r :: st) 198) : Wp X k n w L (.ref r :: st) 138 := by
  refine r_dup hC dX9_init_138 rfl ?_
  refine r_bipush hC dX9_init_139 (v := 10) (by decide) ?_
  refine r_bipush hC dX9_init_141 (v := 112) (by decide) ?_
  refine r_iast' hC dX9_init_143 (j := 10) h ⟨by decide, by decide, by decide⟩ (fun w_11 ew_11 => ?_)
  rw [wdP_up (by decide)] at ew_11
  have h_11 : w_11[r]? = some (mI 0 41 (wdP 11)) := by rw [ew_11]; exact List.getElem?_set_self (lt_of_get h)
  refine r_dup hC dX9_init_144 rfl ?_
  refine r_bipush hC dX9_init_145 (v := 11) (by decide) ?_
  refine r_bipush hC dX9_init_147 (v := 32) (by decide) ?_
  refine r_iast' hC dX9_init_149 (j := 11) h_11 ⟨by decide, by decide, by decide⟩ (fun w_12 ew_12 => ?_)
  rw [wdP_up (by decide)] at ew_12
  rw [ew_11, List.set_set] at ew_12
  have h_12 : w_12[r]? = some (mI 0 41 (wdP 12)) := by rw [ew_12]; exact List.getElem?_set_self (lt_of_get h)
  refine r_dup hC dX9_init_150 rfl ?_
  refine r_bipush hC dX9_init_151 (v := 12) (by decide) ?_
  refine r_bipush hC dX9_init_153 (v := 112) (by decide) ?_
  refine r_iast' hC dX9_init_155 (j := 12) h_12 ⟨by decide, by decide, by decide⟩ (fun w_13 ew_13 => ?_)
  rw [wdP_up (by decide)] at ew_13
  rw [ew_12, List.set_set] at ew_13
  have h_13 : w_13[r]? = some (mI 0 41 (wdP 13)) := by rw [ew_13]; exact List.getElem?_set_self (lt_of_get h)
  refine r_dup hC dX9_init_156 rfl ?_
  refine r_bipush hC dX9_init_157 (v := 13) (by decide) ?_
  refine r_bipush hC dX9_init_159 (v := 105) (by decide) ?_
  refine r_iast' hC dX9_init_161 (j := 13) h_13 ⟨by decide, by decide, by decide⟩ (fun w_14 ew_14 => ?_)
  rw [wdP_up (by decide)] at ew_14
  rw [ew_13, List.set_set] at ew_14
  have h_14 : w_14[r]? = some (mI 0 41 (wdP 14)) := by rw [ew_14]; exact List.getElem?_set_self (lt_of_get h)
  refine r_dup hC dX9_init_162 rfl ?_
  refine r_bipush hC dX9_init_163 (v := 14) (by decide) ?_
  refine r_bipush hC dX9_init_165 (v := 108) (by decide) ?_
  refine r_iast' hC dX9_init_167 (j := 14) h_14 ⟨by decide, by decide, by decide⟩ (fun w_15 ew_15 => ?_)
  rw [wdP_up (by decide)] at ew_15
  rw [ew_14, List.set_set] at ew_15
  have h_15 : w_15[r]? = some (mI 0 41 (wdP 15)) := by rw [ew_15]; exact List.getElem?_set_self (lt_of_get h)
  refine r_dup hC dX9_init_168 rfl ?_
  refine r_bipush hC dX9_init_169 (v := 15) (by decide) ?_
  refine r_bipush hC dX9_init_171 (v := 101) (by decide) ?_
  refine r_iast' hC dX9_init_173 (j := 15) h_15 ⟨by decide, by decide, by decide⟩ (fun w_16 ew_16 => ?_)
  rw [wdP_up (by decide)] at ew_16
  rw [ew_15, List.set_set] at ew_16
  have h_16 : w_16[r]? = some (mI 0 41 (wdP 16)) := by rw [ew_16]; exact List.getElem?_set_self (lt_of_get h)
  refine r_dup hC dX9_init_174 rfl ?_
  refine r_bipush hC dX9_init_175 (v := 16) (by decide) ?_
  refine r_bipush hC dX9_init_177 (v := 32) (by decide) ?_
  refine r_iast' hC dX9_init_179 (j := 16) h_16 ⟨by decide, by decide, by decide⟩ (fun w_17 ew_17 => ?_)
  rw [wdP_up (by decide)] at ew_17
  rw [ew_16, List.set_set] at ew_17
  have h_17 : w_17[r]? = some (mI 0 41 (wdP 17)) := by rw [ew_17]; exact List.getElem?_set_self (lt_of_get h)
  refine r_dup hC dX9_init_180 rfl ?_
  refine r_bipush hC dX9_init_181 (v := 17) (by decide) ?_
  refine r_bipush hC dX9_init_183 (v := 116) (by decide) ?_
  refine r_iast' hC dX9_init_185 (j := 17) h_17 ⟨by decide, by decide, by decide⟩ (fun w_18 ew_18 => ?_)
  rw [wdP_up (by decide)] at ew_18
  rw [ew_17, List.set_set] at ew_18
  have h_18 : w_18[r]? = some (mI 0 41 (wdP 18)) := by rw [ew_18]; exact List.getElem?_set_self (lt_of_get h)
  refine r_dup hC dX9_init_186 rfl ?_
  refine r_bipush hC dX9_init_187 (v := 18) (by decide) ?_
  refine r_bipush hC dX9_init_189 (v := 97) (by decide) ?_
  refine r_iast' hC dX9_init_191 (j := 18) h_18 ⟨by decide, by decide, by decide⟩ (fun w_19 ew_19 => ?_)
  rw [wdP_up (by decide)] at ew_19
  rw [ew_18, List.set_set] at ew_19
  have h_19 : w_19[r]? = some (mI 0 41 (wdP 19)) := by rw [ew_19]; exact List.getElem?_set_self (lt_of_get h)
  refine r_dup hC dX9_init_192 rfl ?_
  refine r_bipush hC dX9_init_193 (v := 19) (by decide) ?_
  refine r_bipush hC dX9_init_195 (v := 107) (by decide) ?_
  refine r_iast' hC dX9_init_197 (j := 19) h_19 ⟨by decide, by decide, by decide⟩ (fun w_20 ew_20 => ?_)
  rw [wdP_up (by decide)] at ew_20
  rw [ew_19, List.set_set] at ew_20
  have h_20 : w_20[r]? = some (mI 0 41 (wdP 20)) := by rw [ew_20]; exact List.getElem?_set_self (lt_of_get h)
  exact kk w_20 ew_20
set_option maxRecDepth 100000 in
set_option maxHeartbeats 4000000 in
theorem cw_2 {X : mC} {d mc ms k n r : Nat} {w : mW} {L : List (Nat × Value)} {st : List Value} (hC : Cx X RX9 cX9_init d mc ms) (h : w[r]? = some (mI 0 41 (wdP 20))) (kk : ∀ w', w' = w.set r (mI 0 41 (wdP 30)) → Wp X k n w' L (.ref r :: st) 258) : Wp X k n w L (.ref r :: st) 198 := by
  refine r_dup hC dX9_init_198 rfl ?_
  refine r_bipush hC dX9_init_199 (v := 20) (by decide) ?_
  refine r_bipush hC dX9_init_201 (v := 101) (by decide) ?_
  refine r_iast' hC dX9_init_203 (j := 20) h ⟨by decide, by decide, by decide⟩ (fun w_21 ew_21 => ?_)
  rw [wdP_up (by decide)] at ew_21
  have h_21 : w_21[r]? = some (mI 0 41 (wdP 21)) := by rw [ew_21]; exact List.getElem?_set_self (lt_of_get h)
  refine r_dup hC dX9_init_204 rfl ?_
  refine r_bipush hC dX9_init_205 (v := 21) (by decide) ?_
  refine r_bipush hC dX9_init_207 (v := 32) (by decide) ?_
  refine r_iast' hC dX9_init_209 (j := 21) h_21 ⟨by decide, by decide, by decide⟩ (fun w_22 ew_22 => ?_)
  rw [wdP_up (by decide)] at ew_22
  rw [ew_21, List.set_set] at ew_22
  have h_22 : w_22[r]? = some (mI 0 41 (wdP 22)) := by rw [ew_22]; exact List.getElem?_set_self (lt_of_get h)
  refine r_dup hC dX9_init_210 rfl ?_
  refine r_bipush hC dX9_init_211 (v := 22) (by decide) ?_
  refine r_bipush hC dX9_init_213 (v := 115) (by decide) ?_
  refine r_iast' hC dX9_init_215 (j := 22) h_22 ⟨by decide, by decide, by decide⟩ (fun w_23 ew_23 => ?_)
  rw [wdP_up (by decide)] at ew_23
  rw [ew_22, List.set_set] at ew_23
  have h_23 : w_23[r]? = some (mI 0 41 (wdP 23)) := by rw [ew_23]; exact List.getElem?_set_self (lt_of_get h)
  refine r_dup hC dX9_init_216 rfl ?_
  refine r_bipush hC dX9_init_217 (v := 23) (by decide) ?_
  refine r_bipush hC dX9_init_219 (v := 107) (by decide) ?_
  refine r_iast' hC dX9_init_221 (j := 23) h_23 ⟨by decide, by decide, by decide⟩ (fun w_24 ew_24 => ?_)
  rw [wdP_up (by decide)] at ew_24
  rw [ew_23, List.set_set] at ew_24
  have h_24 : w_24[r]? = some (mI 0 41 (wdP 24)) := by rw [ew_24]; exact List.getElem?_set_self (lt_of_get h)
  refine r_dup hC dX9_init_222 rfl ?_
  refine r_bipush hC dX9_init_223 (v := 24) (by decide) ?_
  refine r_bipush hC dX9_init_225 (v := 105) (by decide) ?_
  refine r_iast' hC dX9_init_227 (j := 24) h_24 ⟨by decide, by decide, by decide⟩ (fun w_25 ew_25 => ?_)
  rw [wdP_up (by decide)] at ew_25
  rw [ew_24, List.set_set] at ew_25
  have h_25 : w_25[r]? = some (mI 0 41 (wdP 25)) := by rw [ew_25]; exact List.getElem?_set_self (lt_of_get h)
  refine r_dup hC dX9_init_228 rfl ?_
  refine r_bipush hC dX9_init_229 (v := 25) (by decide) ?_
  refine r_bipush hC dX9_init_231 (v := 112) (by decide) ?_
  refine r_iast' hC dX9_init_233 (j := 25) h_25 ⟨by decide, by decide, by decide⟩ (fun w_26 ew_26 => ?_)
  rw [wdP_up (by decide)] at ew_26
  rw [ew_25, List.set_set] at ew_26
  have h_26 : w_26[r]? = some (mI 0 41 (wdP 26)) := by rw [ew_26]; exact List.getElem?_set_self (lt_of_get h)
  refine r_dup hC dX9_init_234 rfl ?_
  refine r_bipush hC dX9_init_235 (v := 26) (by decide) ?_
  refine r_bipush hC dX9_init_237 (v := 115) (by decide) ?_
  refine r_iast' hC dX9_init_239 (j := 26) h_26 ⟨by decide, by decide, by decide⟩ (fun w_27 ew_27 => ?_)
  rw [wdP_up (by decide)] at ew_27
  rw [ew_26, List.set_set] at ew_27
  have h_27 : w_27[r]? = some (mI 0 41 (wdP 27)) := by rw [ew_27]; exact List.getElem?_set_self (lt_of_get h)
  refine r_dup hC dX9_init_240 rfl ?_
  refine r_bipush hC dX9_init_241 (v := 27) (by decide) ?_
  refine r_bipush hC dX9_init_243 (v := 108) (by decide) ?_
  refine r_iast' hC dX9_init_245 (j := 27) h_27 ⟨by decide, by decide, by decide⟩ (fun w_28 ew_28 => ?_)
  rw [wdP_up (by decide)] at ew_28
  rw [ew_27, List.set_set] at ew_28
  have h_28 : w_28[r]? = some (mI 0 41 (wdP 28)) := by rw [ew_28]; exact List.getElem?_set_self (lt_of_get h)
  refine r_dup hC dX9_init_246 rfl ?_
  refine r_bipush hC dX9_init_247 (v := 28) (by decide) ?_
  refine r_bipush hC dX9_init_249 (v := 111) (by decide) ?_
  refine r_iast' hC dX9_init_251 (j := 28) h_28 ⟨by decide, by decide, by decide⟩ (fun w_29 ew_29 => ?_)
  rw [wdP_up (by decide)] at ew_29
  rw [ew_28, List.set_set] at ew_29
  have h_29 : w_29[r]? = some (mI 0 41 (wdP 29)) := by rw [ew_29]; exact List.getElem?_set_self (lt_of_get h)
  refine r_dup hC dX9_init_252 rfl ?_
  refine r_bipush hC dX9_init_253 (v := 29) (by decide) ?_
  refine r_bipush hC dX9_init_255 (v := 112) (by decide) ?_
  refine r_iast' hC dX9_init_257 (j := 29) h_29 ⟨by decide, by decide, by decide⟩ (fun w_30 ew_30 => ?_)
  rw [wdP_up (by decide)] at ew_30
  rw [ew_29, List.set_set] at ew_30
  have h_30 : w_30[r]? = some (mI 0 41 (wdP 30)) := by rw [ew_30]; exact List.getElem?_set_self (lt_of_get h)
  exact kk w_30 ew_30
set_option maxRecDepth 100000 in
set_option maxHeartbeats 4000000 in
theorem cw_3 {X : mC} {d mc ms k n r : Nat} {w : mW} {L : List (Nat × Value)} {st : List Value} (hC : Cx X RX9 cX9_init d mc ms) (h : w[r]? = some (mI 0 41 (wdP 30))) (kk : ∀ w', w' = w.set r (mI 0 41 (wdP 41)) → Wp X k n w' L (.ref r :: st) 324) : Wp X k n w L (.ref r :: st) 258 := by
  refine r_dup hC dX9_init_258 rfl ?_
  refine r_bipush hC dX9_init_259 (v := 30) (by decide) ?_
  refine r_bipush hC dX9_init_261 (v := 101) (by decide) ?_
  refine r_iast' hC dX9_init_263 (j := 30) h ⟨by decide, by decide, by decide⟩ (fun w_31 ew_31 => ?_)
  rw [wdP_up (by decide)] at ew_31
  have h_31 : w_31[r]? = some (mI 0 41 (wdP 31)) := by rw [ew_31]; exact List.getElem?_set_self (lt_of_get h)
  refine r_dup hC dX9_init_264 rfl ?_
  refine r_bipush hC dX9_init_265 (v := 31) (by decide) ?_
  refine r_bipush hC dX9_init_267 (v := 32) (by decide) ?_
  refine r_iast' hC dX9_init_269 (j := 31) h_31 ⟨by decide, by decide, by decide⟩ (fun w_32 ew_32 => ?_)
  rw [wdP_up (by decide)] at ew_32
  rw [ew_31, List.set_set] at ew_32
  have h_32 : w_32[r]? = some (mI 0 41 (wdP 32)) := by rw [ew_32]; exact List.getElem?_set_self (lt_of_get h)
  refine r_dup hC dX9_init_270 rfl ?_
  refine r_bipush hC dX9_init_271 (v := 32) (by decide) ?_
  refine r_bipush hC dX9_init_273 (v := 111) (by decide) ?_
  refine r_iast' hC dX9_init_275 (j := 32) h_32 ⟨by decide, by decide, by decide⟩ (fun w_33 ew_33 => ?_)
  rw [wdP_up (by decide)] at ew_33
  rw [ew_32, List.set_set] at ew_33
  have h_33 : w_33[r]? = some (mI 0 41 (wdP 33)) := by rw [ew_33]; exact List.getElem?_set_self (lt_of_get h)
  refine r_dup hC dX9_init_276 rfl ?_
  refine r_bipush hC dX9_init_277 (v := 33) (by decide) ?_
  refine r_bipush hC dX9_init_279 (v := 112) (by decide) ?_
  refine r_iast' hC dX9_init_281 (j := 33) h_33 ⟨by decide, by decide, by decide⟩ (fun w_34 ew_34 => ?_)
  rw [wdP_up (by decide)] at ew_34
  rw [ew_33, List.set_set] at ew_34
  have h_34 : w_34[r]? = some (mI 0 41 (wdP 34)) := by rw [ew_34]; exact List.getElem?_set_self (lt_of_get h)
  refine r_dup hC dX9_init_282 rfl ?_
  refine r_bipush hC dX9_init_283 (v := 34) (by decide) ?_
  refine r_bipush hC dX9_init_285 (v := 101) (by decide) ?_
  refine r_iast' hC dX9_init_287 (j := 34) h_34 ⟨by decide, by decide, by decide⟩ (fun w_35 ew_35 => ?_)
  rw [wdP_up (by decide)] at ew_35
  rw [ew_34, List.set_set] at ew_35
  have h_35 : w_35[r]? = some (mI 0 41 (wdP 35)) := by rw [ew_35]; exact List.getElem?_set_self (lt_of_get h)
  refine r_dup hC dX9_init_288 rfl ?_
  refine r_bipush hC dX9_init_289 (v := 35) (by decide) ?_
  refine r_bipush hC dX9_init_291 (v := 110) (by decide) ?_
  refine r_iast' hC dX9_init_293 (j := 35) h_35 ⟨by decide, by decide, by decide⟩ (fun w_36 ew_36 => ?_)
  rw [wdP_up (by decide)] at ew_36
  rw [ew_35, List.set_set] at ew_36
  have h_36 : w_36[r]? = some (mI 0 41 (wdP 36)) := by rw [ew_36]; exact List.getElem?_set_self (lt_of_get h)
  refine r_dup hC dX9_init_294 rfl ?_
  refine r_bipush hC dX9_init_295 (v := 36) (by decide) ?_
  refine r_bipush hC dX9_init_297 (v := 99) (by decide) ?_
  refine r_iast' hC dX9_init_299 (j := 36) h_36 ⟨by decide, by decide, by decide⟩ (fun w_37 ew_37 => ?_)
  rw [wdP_up (by decide)] at ew_37
  rw [ew_36, List.set_set] at ew_37
  have h_37 : w_37[r]? = some (mI 0 41 (wdP 37)) := by rw [ew_37]; exact List.getElem?_set_self (lt_of_get h)
  refine r_dup hC dX9_init_300 rfl ?_
  refine r_bipush hC dX9_init_301 (v := 37) (by decide) ?_
  refine r_bipush hC dX9_init_303 (v := 108) (by decide) ?_
  refine r_iast' hC dX9_init_305 (j := 37) h_37 ⟨by decide, by decide, by decide⟩ (fun w_38 ew_38 => ?_)
  rw [wdP_up (by decide)] at ew_38
  rw [ew_37, List.set_set] at ew_38
  have h_38 : w_38[r]? = some (mI 0 41 (wdP 38)) := by rw [ew_38]; exact List.getElem?_set_self (lt_of_get h)
  refine r_dup hC dX9_init_306 rfl ?_
  refine r_bipush hC dX9_init_307 (v := 38) (by decide) ?_
  refine r_bipush hC dX9_init_309 (v := 111) (by decide) ?_
  refine r_iast' hC dX9_init_311 (j := 38) h_38 ⟨by decide, by decide, by decide⟩ (fun w_39 ew_39 => ?_)
  rw [wdP_up (by decide)] at ew_39
  rw [ew_38, List.set_set] at ew_39
  have h_39 : w_39[r]? = some (mI 0 41 (wdP 39)) := by rw [ew_39]; exact List.getElem?_set_self (lt_of_get h)
  refine r_dup hC dX9_init_312 rfl ?_
  refine r_bipush hC dX9_init_313 (v := 39) (by decide) ?_
  refine r_bipush hC dX9_init_315 (v := 115) (by decide) ?_
  refine r_iast' hC dX9_init_317 (j := 39) h_39 ⟨by decide, by decide, by decide⟩ (fun w_40 ew_40 => ?_)
  rw [wdP_up (by decide)] at ew_40
  rw [ew_39, List.set_set] at ew_40
  have h_40 : w_40[r]? = some (mI 0 41 (wdP 40)) := by rw [ew_40]; exact List.getElem?_set_self (lt_of_get h)
  refine r_dup hC dX9_init_318 rfl ?_
  refine r_bipush hC dX9_init_319 (v := 40) (by decide) ?_
  refine r_bipush hC dX9_init_321 (v := 101) (by decide) ?_
  refine r_iast' hC dX9_init_323 (j := 40) h_40 ⟨by decide, by decide, by decide⟩ (fun w_41 ew_41 => ?_)
  rw [wdP_up (by decide)] at ew_41
  rw [ew_40, List.set_set] at ew_41
  have h_41 : w_41[r]? = some (mI 0 41 (wdP 41)) := by rw [ew_41]; exact List.getElem?_set_self (lt_of_get h)
  exact kk w_41 ew_41
set_option maxRecDepth 100000 in
set_option maxHeartbeats 4000000 in
theorem cv_0 {X : mC} {d mc ms k n r : Nat} {w : mW} {L : List (Nat × Value)} {st : List Value} (hC : Cx X RX9 cX9_init d mc ms) (h : w[r]? = some (mI 0 9 (waP 0))) (kk : ∀ w', w' = w.set r (mI 0 9 (waP 9)) → Wp X k n w' L (.ref r :: st) 379) : Wp X k n w L (.ref r :: st) 332 := by
  refine r_dup hC dX9_init_332 rfl ?_
  refine r_iconst hC dX9_init_333 (v := 0) (by decide) ?_
  refine r_iconst hC dX9_init_334 (v := 0) (by decide) ?_
  refine r_iast' hC dX9_init_335 (j := 0) h ⟨by decide, by decide, by decide⟩ (fun w_1 ew_1 => ?_)
  rw [waP_up (by decide)] at ew_1
  have h_1 : w_1[r]? = some (mI 0 9 (waP 1)) := by rw [ew_1]; exact List.getElem?_set_self (lt_of_get h)
  refine r_dup hC dX9_init_336 rfl ?_
  refine r_iconst hC dX9_init_337 (v := 1) (by decide) ?_
  refine r_bipush hC dX9_init_338 (v := 7) (by decide) ?_
  refine r_iast' hC dX9_init_340 (j := 1) h_1 ⟨by decide, by decide, by decide⟩ (fun w_2 ew_2 => ?_)
  rw [waP_up (by decide)] at ew_2
  rw [ew_1, List.set_set] at ew_2
  have h_2 : w_2[r]? = some (mI 0 9 (waP 2)) := by rw [ew_2]; exact List.getElem?_set_self (lt_of_get h)
  refine r_dup hC dX9_init_341 rfl ?_
  refine r_iconst hC dX9_init_342 (v := 2) (by decide) ?_
  refine r_bipush hC dX9_init_343 (v := 12) (by decide) ?_
  refine r_iast' hC dX9_init_345 (j := 2) h_2 ⟨by decide, by decide, by decide⟩ (fun w_3 ew_3 => ?_)
  rw [waP_up (by decide)] at ew_3
  rw [ew_2, List.set_set] at ew_3
  have h_3 : w_3[r]? = some (mI 0 9 (waP 3)) := by rw [ew_3]; exact List.getElem?_set_self (lt_of_get h)
  refine r_dup hC dX9_init_346 rfl ?_
  refine r_iconst hC dX9_init_347 (v := 3) (by decide) ?_
  refine r_bipush hC dX9_init_348 (v := 17) (by decide) ?_
  refine r_iast' hC dX9_init_350 (j := 3) h_3 ⟨by decide, by decide, by decide⟩ (fun w_4 ew_4 => ?_)
  rw [waP_up (by decide)] at ew_4
  rw [ew_3, List.set_set] at ew_4
  have h_4 : w_4[r]? = some (mI 0 9 (waP 4)) := by rw [ew_4]; exact List.getElem?_set_self (lt_of_get h)
  refine r_dup hC dX9_init_351 rfl ?_
  refine r_iconst hC dX9_init_352 (v := 4) (by decide) ?_
  refine r_bipush hC dX9_init_353 (v := 22) (by decide) ?_
  refine r_iast' hC dX9_init_355 (j := 4) h_4 ⟨by decide, by decide, by decide⟩ (fun w_5 ew_5 => ?_)
  rw [waP_up (by decide)] at ew_5
  rw [ew_4, List.set_set] at ew_5
  have h_5 : w_5[r]? = some (mI 0 9 (waP 5)) := by rw [ew_5]; exact List.getElem?_set_self (lt_of_get h)
  refine r_dup hC dX9_init_356 rfl ?_
  refine r_iconst hC dX9_init_357 (v := 5) (by decide) ?_
  refine r_bipush hC dX9_init_358 (v := 26) (by decide) ?_
  refine r_iast' hC dX9_init_360 (j := 5) h_5 ⟨by decide, by decide, by decide⟩ (fun w_6 ew_6 => ?_)
  rw [waP_up (by decide)] at ew_6
  rw [ew_5, List.set_set] at ew_6
  have h_6 : w_6[r]? = some (mI 0 9 (waP 6)) := by rw [ew_6]; exact List.getElem?_set_self (lt_of_get h)
  refine r_dup hC dX9_init_361 rfl ?_
  refine r_bipush hC dX9_init_362 (v := 6) (by decide) ?_
  refine r_bipush hC dX9_init_364 (v := 32) (by decide) ?_
  refine r_iast' hC dX9_init_366 (j := 6) h_6 ⟨by decide, by decide, by decide⟩ (fun w_7 ew_7 => ?_)
  rw [waP_up (by decide)] at ew_7
  rw [ew_6, List.set_set] at ew_7
  have h_7 : w_7[r]? = some (mI 0 9 (waP 7)) := by rw [ew_7]; exact List.getElem?_set_self (lt_of_get h)
  refine r_dup hC dX9_init_367 rfl ?_
  refine r_bipush hC dX9_init_368 (v := 7) (by decide) ?_
  refine r_bipush hC dX9_init_370 (v := 36) (by decide) ?_
  refine r_iast' hC dX9_init_372 (j := 7) h_7 ⟨by decide, by decide, by decide⟩ (fun w_8 ew_8 => ?_)
  rw [waP_up (by decide)] at ew_8
  rw [ew_7, List.set_set] at ew_8
  have h_8 : w_8[r]? = some (mI 0 9 (waP 8)) := by rw [ew_8]; exact List.getElem?_set_self (lt_of_get h)
  refine r_dup hC dX9_init_373 rfl ?_
  refine r_bipush hC dX9_init_374 (v := 8) (by decide) ?_
  refine r_bipush hC dX9_init_376 (v := 41) (by decide) ?_
  refine r_iast' hC dX9_init_378 (j := 8) h_8 ⟨by decide, by decide, by decide⟩ (fun w_9 ew_9 => ?_)
  rw [waP_up (by decide)] at ew_9
  rw [ew_8, List.set_set] at ew_9
  have h_9 : w_9[r]? = some (mI 0 9 (waP 9)) := by rw [ew_9]; exact List.getElem?_set_self (lt_of_get h)
  exact kk w_9 ew_9
set_option maxRecDepth 100000 in
set_option maxHeartbeats 4000000 in
theorem mx_1 {X : mC} {d s n0 k n : Nat} {w0 w : mW}  (hmax : s < 900000) (h0 : w0.length = s + 1) (hn0 : n0 = w0.length) (hB : NB X RX9 cX9_init d 10 962 1 n0 (fun v w9 => v = none ∧ Gn w0 w9 s 10 ∧ MdAt w9 s 0 sv0 [] (-1) (-1) none (fun _ => 0) 0 (fun _ => 0) 0) none "<init>") (hl_0 : w.length = (s + 1)) (hw_0 : mLowW w.length w) (hk : w[s]? = some (mO 10 [.int 0, .int 0, .int 0, .int 0, .int 0, .null, .null, .null, .null, .null, .null, .null, .null, .null, .null, .int 0, .int 0, .int 0, .int 0, .int 0, .int 0])) (hlow : LowK w0 w s)  (hk9 : k ≤ 10) (hn9 : n ≤ 962) (kk : ∀ (X : mC) (w' : mW), NB X RX9 cX9_init d 10 962 1 n0 (fun v w9 => v = none ∧ Gn w0 w9 s 10 ∧ MdAt w9 s 0 sv0 [] (-1) (-1) none (fun _ => 0) 0 (fun _ => 0) 0) none "<init>" → w'.length = (s + 1) → mLowW w'.length w' → w'[s]? = some (mO 10 [.int 0, .int 0, .int (-1), .int (-1), .int 0, .null, .null, .null, .null, .null, .null, .null, .null, .null, .null, .int 0, .int 0, .int 0, .int 0, .int 0, .int 0]) → LowK w0 w' s → Wp X k n w' [(0, .ref s)] [] 14) : Wp X k n w [(0, .ref s)] [] 4 := by
  obtain ⟨hC, hnl, hE, hR, hN, hNm⟩ := id hB
  refine r_aload_n hC dX9_init_4 rfl (j := 0) rfl ?_
  refine r_iconst hC dX9_init_5 (v := (-1)) (by decide) ?_
  refine r_put' hC pX9_init_6 hk (Nat.le_of_ble_eq_true rfl) (fun _ => rfl) (fun _ => rfl) (fun w_1 ew_1 => ?_)
  replace ew_1 : w_1 = (w).set (s) (mO 10 [.int 0, .int 0, .int (-1), .int 0, .int 0, .null, .null, .null, .null, .null, .null, .null, .null, .null, .null, .int 0, .int 0, .int 0, .int 0, .int 0, .int 0]) := ew_1
  have hl_1 : w_1.length = (s + 1) := by rw [ew_1, List.length_set, hl_0]
  have hw_1 : mLowW w_1.length w_1 := by rw [hl_1, ew_1]; exact mLowW.set (by rw [← hl_0]; exact hw_0) ⟨trivial, trivial, trivial, trivial, trivial, trivial, trivial, trivial, trivial, trivial, trivial, trivial, trivial, trivial, trivial, trivial, trivial, trivial, trivial, trivial, trivial, trivial⟩
  have hf1_s : w_1[s]? = some (mO 10 [.int 0, .int 0, .int (-1), .int 0, .int 0, .null, .null, .null, .null, .null, .null, .null, .null, .null, .null, .int 0, .int 0, .int 0, .int 0, .int 0, .int 0]) := by rw [ew_1]; exact List.getElem?_set_self (lt_of_get hk)
  have hf1_low : LowK w0 w_1 s := LowK.mono hlow (fun k h8 h9 => by rw [ew_1, List.getElem?_set_ne (by omega)])
  refine r_aload_n hC dX9_init_9 rfl (j := 0) rfl ?_
  refine r_iconst hC dX9_init_10 (v := (-1)) (by decide) ?_
  refine r_put' hC pX9_init_11 hf1_s (Nat.le_of_ble_eq_true rfl) (fun _ => rfl) (fun _ => rfl) (fun w_2 ew_2 => ?_)
  replace ew_2 : w_2 = (w_1).set (s) (mO 10 [.int 0, .int 0, .int (-1), .int (-1), .int 0, .null, .null, .null, .null, .null, .null, .null, .null, .null, .null, .int 0, .int 0, .int 0, .int 0, .int 0, .int 0]) := ew_2
  have hl_2 : w_2.length = (s + 1) := by rw [ew_2, List.length_set, hl_1]
  have hw_2 : mLowW w_2.length w_2 := by rw [hl_2, ew_2]; exact mLowW.set (by rw [← hl_1]; exact hw_1) ⟨trivial, trivial, trivial, trivial, trivial, trivial, trivial, trivial, trivial, trivial, trivial, trivial, trivial, trivial, trivial, trivial, trivial, trivial, trivial, trivial, trivial, trivial⟩
  have hf2_s : w_2[s]? = some (mO 10 [.int 0, .int 0, .int (-1), .int (-1), .int 0, .null, .null, .null, .null, .null, .null, .null, .null, .null, .null, .int 0, .int 0, .int 0, .int 0, .int 0, .int 0]) := by rw [ew_2]; exact List.getElem?_set_self (lt_of_get hf1_s)
  have hf2_low : LowK w0 w_2 s := LowK.mono hf1_low (fun k h8 h9 => by rw [ew_2, List.getElem?_set_ne (by omega)])
  
  exact kk X w_2 hB hl_2 hw_2 hf2_s hf2_low
set_option maxRecDepth 100000 in
set_option maxHeartbeats 4000000 in
theorem mx_2 {X : mC} {d s n0 k n : Nat} {w0 w : mW}  (hmax : s < 900000) (h0 : w0.length = s + 1) (hn0 : n0 = w0.length) (hB : NB X RX9 cX9_init d 10 962 1 n0 (fun v w9 => v = none ∧ Gn w0 w9 s 10 ∧ MdAt w9 s 0 sv0 [] (-1) (-1) none (fun _ => 0) 0 (fun _ => 0) 0) none "<init>") (hl_0 : w.length = (s + 1)) (hw_0 : mLowW w.length w) (f0 : w[s]? = some (mO 10 [.int 0, .int 0, .int (-1), .int (-1), .int 0, .null, .null, .null, .null, .null, .null, .null, .null, .null, .null, .int 0, .int 0, .int 0, .int 0, .int 0, .int 0])) (f1 : LowK w0 w s)  (hk9 : (k + 1) ≤ 10) (hn9 : (n + 67) ≤ 962) (kk : ∀ (X : mC) (w' : mW), NB X RX9 cX9_init d 10 962 1 n0 (fun v w9 => v = none ∧ Gn w0 w9 s 10 ∧ MdAt w9 s 0 sv0 [] (-1) (-1) none (fun _ => 0) 0 (fun _ => 0) 0) none "<init>" → w'.length = (s + 2) → mLowW w'.length w' → w'[s]? = some (mO 10 [.int 0, .int 0, .int (-1), .int (-1), .int 0, .ref (s + 1), .null, .null, .null, .null, .null, .null, .null, .null, .null, .int 0, .int 0, .int 0, .int 0, .int 0, .int 0]) → LowK w0 w' s → w'[(s + 1)]? = some (mI 0 67 (fun _ => 0)) → Wp X (k + 1) (n + 67) w' [(0, .ref s)] [] 22) : Wp X k n w [(0, .ref s)] [] 14 := by
  obtain ⟨hC, hnl, hE, hR, hN, hNm⟩ := id hB
  refine r_aload_n hC dX9_init_14 rfl (j := 0) rfl ?_
  refine r_bipush hC dX9_init_15 (v := 67) (by decide) ?_
  refine n_newa hC (atype := .int) (ty := .int) (t := 0) (N := 67) (a0 := (67, .inl (fun _ => 0))) ac_int rfl (fun _ => rfl) (fun _ => rfl) (fun _ => rfl) (by decide) (by decide) (by decide) dX9_init_17 hw_0 (by rw [hl_0]; omega) (by omega) (by omega) ⟨(Or.inl (show s < w.length by omega)), trivial⟩ ⟨(Or.inl (show s < w.length by omega)), trivial⟩ (fun X hT => ?_)
  have hB := hB.tie hT (by rw [hl_0]; omega)
  clear hT
  obtain ⟨hC, hnl, hE, hR, hN, hNm⟩ := id hB
  obtain ⟨w_1, ew_1⟩ : ∃ z, z = w ++ [(mI 0 67 (fun _ => 0))] := ⟨_, rfl⟩
  have hl_1 : w_1.length = (s + 2) := by rw [ew_1, List.length_append, hl_0]; rfl
  have hw_1 : mLowW w_1.length w_1 := by rw [hl_1, ew_1]; exact (mLowW.mono (by rw [hl_0]; omega) hw_0).app (mLowW.cons trivial mLowW.nil)
  have hf1_s : w_1[s]? = some (mO 10 [.int 0, .int 0, .int (-1), .int (-1), .int 0, .null, .null, .null, .null, .null, .null, .null, .null, .null, .null, .int 0, .int 0, .int 0, .int 0, .int 0, .int 0]) := by rw [ew_1, List.getElem?_append_left (lt_of_get f0)]; exact f0
  have hf1_low : LowK w0 w_1 s := LowK.mono f1 (fun k h8 h9 => by rw [ew_1, List.getElem?_append_left (by rw [hl_0]; omega)])
  have hf1__s___1_ : w_1[(s + 1)]? = some (mI 0 67 (fun _ => 0)) := by rw [ew_1, List.getElem?_append_right (by rw [hl_0]; exact Nat.le_refl _), hl_0, Nat.sub_self]; rfl
  rw [← ew_1, hl_0]
  show Wp X (k + 1) (n + 67) w_1 [(0, .ref s)] [.ref (s + 1), .ref s] _
  refine n_putI' hC hNm pX9_init_19 hf1_s (Nat.le_of_ble_eq_true rfl) (fun _ => rfl) (fun _ => rfl) (fun w_2 ew_2 => ?_)
  replace ew_2 : w_2 = (w_1).set (s) (mO 10 [.int 0, .int 0, .int (-1), .int (-1), .int 0, .ref (s + 1), .null, .null, .null, .null, .null, .null, .null, .null, .null, .int 0, .int 0, .int 0, .int 0, .int 0, .int 0]) := ew_2
  have hl_2 : w_2.length = (s + 2) := by rw [ew_2, List.length_set, hl_1]
  have hw_2 : mLowW w_2.length w_2 := by rw [hl_2, ew_2]; exact mLowW.set (by rw [← hl_1]; exact hw_1) ⟨trivial, trivial, trivial, trivial, trivial, (Or.inl (show (s + 1) < (s + 2) by omega)), trivial, trivial, trivial, trivial, trivial, trivial, trivial, trivial, trivial, trivial, trivial, trivial, trivial, trivial, trivial, trivial⟩
  have hf2_s : w_2[s]? = some (mO 10 [.int 0, .int 0, .int (-1), .int (-1), .int 0, .ref (s + 1), .null, .null, .null, .null, .null, .null, .null, .null, .null, .int 0, .int 0, .int 0, .int 0, .int 0, .int 0]) := by rw [ew_2]; exact List.getElem?_set_self (lt_of_get hf1_s)
  have hf2_low : LowK w0 w_2 s := LowK.mono hf1_low (fun k h8 h9 => by rw [ew_2, List.getElem?_set_ne (by omega)])
  have hf2__s___1_ : w_2[(s + 1)]? = some (mI 0 67 (fun _ => 0)) := by rw [ew_2, List.getElem?_set_ne (by omega)]; exact hf1__s___1_
  
  exact kk X w_2 hB hl_2 hw_2 hf2_s hf2_low hf2__s___1_
set_option maxRecDepth 100000 in
set_option maxHeartbeats 4000000 in
theorem mx_3 {X : mC} {d s n0 k n : Nat} {w0 w : mW}  (hmax : s < 900000) (h0 : w0.length = s + 1) (hn0 : n0 = w0.length) (hB : NB X RX9 cX9_init d 10 962 1 n0 (fun v w9 => v = none ∧ Gn w0 w9 s 10 ∧ MdAt w9 s 0 sv0 [] (-1) (-1) none (fun _ => 0) 0 (fun _ => 0) 0) none "<init>") (hl_0 : w.length = (s + 2)) (hw_0 : mLowW w.length w) (f0 : w[s]? = some (mO 10 [.int 0, .int 0, .int (-1), .int (-1), .int 0, .ref (s + 1), .null, .null, .null, .null, .null, .null, .null, .null, .null, .int 0, .int 0, .int 0, .int 0, .int 0, .int 0])) (f1 : LowK w0 w s) (f2 : w[(s + 1)]? = some (mI 0 67 (fun _ => 0)))  (hk9 : (k + 1) ≤ 10) (hn9 : (n + 67) ≤ 962) (kk : ∀ (X : mC) (w' : mW), NB X RX9 cX9_init d 10 962 1 n0 (fun v w9 => v = none ∧ Gn w0 w9 s 10 ∧ MdAt w9 s 0 sv0 [] (-1) (-1) none (fun _ => 0) 0 (fun _ => 0) 0) none "<init>" → w'.length = (s + 3) → mLowW w'.length w' → w'[s]? = some (mO 10 [.int 0, .int 0, .int (-1), .int (-1), .int 0, .ref (s + 1), .ref (s + 2), .null, .null, .null, .null, .null, .null, .null, .null, .int 0, .int 0, .int 0, .int 0, .int 0, .int 0]) → LowK w0 w' s → w'[(s + 1)]? = some (mI 0 67 (fun _ => 0)) → w'[(s + 2)]? = some (mI 0 67 (fun _ => 0)) → Wp X (k + 1) (n + 67) w' [(0, .ref s)] [] 30) : Wp X k n w [(0, .ref s)] [] 22 := by
  obtain ⟨hC, hnl, hE, hR, hN, hNm⟩ := id hB
  refine r_aload_n hC dX9_init_22 rfl (j := 0) rfl ?_
  refine r_bipush hC dX9_init_23 (v := 67) (by decide) ?_
  refine n_newa hC (atype := .int) (ty := .int) (t := 0) (N := 67) (a0 := (67, .inl (fun _ => 0))) ac_int rfl (fun _ => rfl) (fun _ => rfl) (fun _ => rfl) (by decide) (by decide) (by decide) dX9_init_25 hw_0 (by rw [hl_0]; omega) (by omega) (by omega) ⟨(Or.inl (show s < w.length by omega)), trivial⟩ ⟨(Or.inl (show s < w.length by omega)), trivial⟩ (fun X hT => ?_)
  have hB := hB.tie hT (by rw [hl_0]; omega)
  clear hT
  obtain ⟨hC, hnl, hE, hR, hN, hNm⟩ := id hB
  obtain ⟨w_1, ew_1⟩ : ∃ z, z = w ++ [(mI 0 67 (fun _ => 0))] := ⟨_, rfl⟩
  have hl_1 : w_1.length = (s + 3) := by rw [ew_1, List.length_append, hl_0]; rfl
  have hw_1 : mLowW w_1.length w_1 := by rw [hl_1, ew_1]; exact (mLowW.mono (by rw [hl_0]; omega) hw_0).app (mLowW.cons trivial mLowW.nil)
  have hf1_s : w_1[s]? = some (mO 10 [.int 0, .int 0, .int (-1), .int (-1), .int 0, .ref (s + 1), .null, .null, .null, .null, .null, .null, .null, .null, .null, .int 0, .int 0, .int 0, .int 0, .int 0, .int 0]) := by rw [ew_1, List.getElem?_append_left (lt_of_get f0)]; exact f0
  have hf1_low : LowK w0 w_1 s := LowK.mono f1 (fun k h8 h9 => by rw [ew_1, List.getElem?_append_left (by rw [hl_0]; omega)])
  have hf1__s___1_ : w_1[(s + 1)]? = some (mI 0 67 (fun _ => 0)) := by rw [ew_1, List.getElem?_append_left (lt_of_get f2)]; exact f2
  have hf1__s___2_ : w_1[(s + 2)]? = some (mI 0 67 (fun _ => 0)) := by rw [ew_1, List.getElem?_append_right (by rw [hl_0]; exact Nat.le_refl _), hl_0, Nat.sub_self]; rfl
  rw [← ew_1, hl_0]
  show Wp X (k + 1) (n + 67) w_1 [(0, .ref s)] [.ref (s + 2), .ref s] _
  refine n_putI' hC hNm pX9_init_27 hf1_s (Nat.le_of_ble_eq_true rfl) (fun _ => rfl) (fun _ => rfl) (fun w_2 ew_2 => ?_)
  replace ew_2 : w_2 = (w_1).set (s) (mO 10 [.int 0, .int 0, .int (-1), .int (-1), .int 0, .ref (s + 1), .ref (s + 2), .null, .null, .null, .null, .null, .null, .null, .null, .int 0, .int 0, .int 0, .int 0, .int 0, .int 0]) := ew_2
  have hl_2 : w_2.length = (s + 3) := by rw [ew_2, List.length_set, hl_1]
  have hw_2 : mLowW w_2.length w_2 := by rw [hl_2, ew_2]; exact mLowW.set (by rw [← hl_1]; exact hw_1) ⟨trivial, trivial, trivial, trivial, trivial, (Or.inl (show (s + 1) < (s + 3) by omega)), (Or.inl (show (s + 2) < (s + 3) by omega)), trivial, trivial, trivial, trivial, trivial, trivial, trivial, trivial, trivial, trivial, trivial, trivial, trivial, trivial, trivial⟩
  have hf2_s : w_2[s]? = some (mO 10 [.int 0, .int 0, .int (-1), .int (-1), .int 0, .ref (s + 1), .ref (s + 2), .null, .null, .null, .null, .null, .null, .null, .null, .int 0, .int 0, .int 0, .int 0, .int 0, .int 0]) := by rw [ew_2]; exact List.getElem?_set_self (lt_of_get hf1_s)
  have hf2_low : LowK w0 w_2 s := LowK.mono hf1_low (fun k h8 h9 => by rw [ew_2, List.getElem?_set_ne (by omega)])
  have hf2__s___1_ : w_2[(s + 1)]? = some (mI 0 67 (fun _ => 0)) := by rw [ew_2, List.getElem?_set_ne (by omega)]; exact hf1__s___1_
  have hf2__s___2_ : w_2[(s + 2)]? = some (mI 0 67 (fun _ => 0)) := by rw [ew_2, List.getElem?_set_ne (by omega)]; exact hf1__s___2_
  
  exact kk X w_2 hB hl_2 hw_2 hf2_s hf2_low hf2__s___1_ hf2__s___2_
set_option maxRecDepth 100000 in
set_option maxHeartbeats 4000000 in
theorem mx_4 {X : mC} {d s n0 k n : Nat} {w0 w : mW}  (hmax : s < 900000) (h0 : w0.length = s + 1) (hn0 : n0 = w0.length) (hB : NB X RX9 cX9_init d 10 962 1 n0 (fun v w9 => v = none ∧ Gn w0 w9 s 10 ∧ MdAt w9 s 0 sv0 [] (-1) (-1) none (fun _ => 0) 0 (fun _ => 0) 0) none "<init>") (hl_0 : w.length = (s + 3)) (hw_0 : mLowW w.length w) (f0 : w[s]? = some (mO 10 [.int 0, .int 0, .int (-1), .int (-1), .int 0, .ref (s + 1), .ref (s + 2), .null, .null, .null, .null, .null, .null, .null, .null, .int 0, .int 0, .int 0, .int 0, .int 0, .int 0])) (f1 : LowK w0 w s) (f2 : w[(s + 1)]? = some (mI 0 67 (fun _ => 0))) (f3 : w[(s + 2)]? = some (mI 0 67 (fun _ => 0)))  (hk9 : (k + 1) ≤ 10) (hn9 : (n + 67) ≤ 962) (kk : ∀ (X : mC) (w' : mW), NB X RX9 cX9_init d 10 962 1 n0 (fun v w9 => v = none ∧ Gn w0 w9 s 10 ∧ MdAt w9 s 0 sv0 [] (-1) (-1) none (fun _ => 0) 0 (fun _ => 0) 0) none "<init>" → w'.length = (s + 4) → mLowW w'.length w' → w'[s]? = some (mO 10 [.int 0, .int 0, .int (-1), .int (-1), .int 0, .ref (s + 1), .ref (s + 2), .ref (s + 3), .null, .null, .null, .null, .null, .null, .null, .int 0, .int 0, .int 0, .int 0, .int 0, .int 0]) → LowK w0 w' s → w'[(s + 1)]? = some (mI 0 67 (fun _ => 0)) → w'[(s + 2)]? = some (mI 0 67 (fun _ => 0)) → w'[(s + 3)]? = some (mI 0 67 (fun _ => 0)) → Wp X (k + 1) (n + 67) w' [(0, .ref s)] [] 38) : Wp X k n w [(0, .ref s)] [] 30 := by
  obtain ⟨hC, hnl, hE, hR, hN, hNm⟩ := id hB
  refine r_aload_n hC dX9_init_30 rfl (j := 0) rfl ?_
  refine r_bipush hC dX9_init_31 (v := 67) (by decide) ?_
  refine n_newa hC (atype := .int) (ty := .int) (t := 0) (N := 67) (a0 := (67, .inl (fun _ => 0))) ac_int rfl (fun _ => rfl) (fun _ => rfl) (fun _ => rfl) (by decide) (by decide) (by decide) dX9_init_33 hw_0 (by rw [hl_0]; omega) (by omega) (by omega) ⟨(Or.inl (show s < w.length by omega)), trivial⟩ ⟨(Or.inl (show s < w.length by omega)), trivial⟩ (fun X hT => ?_)
  have hB := hB.tie hT (by rw [hl_0]; omega)
  clear hT
  obtain ⟨hC, hnl, hE, hR, hN, hNm⟩ := id hB
  obtain ⟨w_1, ew_1⟩ : ∃ z, z = w ++ [(mI 0 67 (fun _ => 0))] := ⟨_, rfl⟩
  have hl_1 : w_1.length = (s + 4) := by rw [ew_1, List.length_append, hl_0]; rfl
  have hw_1 : mLowW w_1.length w_1 := by rw [hl_1, ew_1]; exact (mLowW.mono (by rw [hl_0]; omega) hw_0).app (mLowW.cons trivial mLowW.nil)
  have hf1_s : w_1[s]? = some (mO 10 [.int 0, .int 0, .int (-1), .int (-1), .int 0, .ref (s + 1), .ref (s + 2), .null, .null, .null, .null, .null, .null, .null, .null, .int 0, .int 0, .int 0, .int 0, .int 0, .int 0]) := by rw [ew_1, List.getElem?_append_left (lt_of_get f0)]; exact f0
  have hf1_low : LowK w0 w_1 s := LowK.mono f1 (fun k h8 h9 => by rw [ew_1, List.getElem?_append_left (by rw [hl_0]; omega)])
  have hf1__s___1_ : w_1[(s + 1)]? = some (mI 0 67 (fun _ => 0)) := by rw [ew_1, List.getElem?_append_left (lt_of_get f2)]; exact f2
  have hf1__s___2_ : w_1[(s + 2)]? = some (mI 0 67 (fun _ => 0)) := by rw [ew_1, List.getElem?_append_left (lt_of_get f3)]; exact f3
  have hf1__s___3_ : w_1[(s + 3)]? = some (mI 0 67 (fun _ => 0)) := by rw [ew_1, List.getElem?_append_right (by rw [hl_0]; exact Nat.le_refl _), hl_0, Nat.sub_self]; rfl
  rw [← ew_1, hl_0]
  show Wp X (k + 1) (n + 67) w_1 [(0, .ref s)] [.ref (s + 3), .ref s] _
  refine n_putI' hC hNm pX9_init_35 hf1_s (Nat.le_of_ble_eq_true rfl) (fun _ => rfl) (fun _ => rfl) (fun w_2 ew_2 => ?_)
  replace ew_2 : w_2 = (w_1).set (s) (mO 10 [.int 0, .int 0, .int (-1), .int (-1), .int 0, .ref (s + 1), .ref (s + 2), .ref (s + 3), .null, .null, .null, .null, .null, .null, .null, .int 0, .int 0, .int 0, .int 0, .int 0, .int 0]) := ew_2
  have hl_2 : w_2.length = (s + 4) := by rw [ew_2, List.length_set, hl_1]
  have hw_2 : mLowW w_2.length w_2 := by rw [hl_2, ew_2]; exact mLowW.set (by rw [← hl_1]; exact hw_1) ⟨trivial, trivial, trivial, trivial, trivial, (Or.inl (show (s + 1) < (s + 4) by omega)), (Or.inl (show (s + 2) < (s + 4) by omega)), (Or.inl (show (s + 3) < (s + 4) by omega)), trivial, trivial, trivial, trivial, trivial, trivial, trivial, trivial, trivial, trivial, trivial, trivial, trivial, trivial⟩
  have hf2_s : w_2[s]? = some (mO 10 [.int 0, .int 0, .int (-1), .int (-1), .int 0, .ref (s + 1), .ref (s + 2), .ref (s + 3), .null, .null, .null, .null, .null, .null, .null, .int 0, .int 0, .int 0, .int 0, .int 0, .int 0]) := by rw [ew_2]; exact List.getElem?_set_self (lt_of_get hf1_s)
  have hf2_low : LowK w0 w_2 s := LowK.mono hf1_low (fun k h8 h9 => by rw [ew_2, List.getElem?_set_ne (by omega)])
  have hf2__s___1_ : w_2[(s + 1)]? = some (mI 0 67 (fun _ => 0)) := by rw [ew_2, List.getElem?_set_ne (by omega)]; exact hf1__s___1_
  have hf2__s___2_ : w_2[(s + 2)]? = some (mI 0 67 (fun _ => 0)) := by rw [ew_2, List.getElem?_set_ne (by omega)]; exact hf1__s___2_
  have hf2__s___3_ : w_2[(s + 3)]? = some (mI 0 67 (fun _ => 0)) := by rw [ew_2, List.getElem?_set_ne (by omega)]; exact hf1__s___3_
  
  exact kk X w_2 hB hl_2 hw_2 hf2_s hf2_low hf2__s___1_ hf2__s___2_ hf2__s___3_
set_option maxRecDepth 100000 in
set_option maxHeartbeats 4000000 in
theorem mx_5 {X : mC} {d s n0 k n : Nat} {w0 w : mW}  (hmax : s < 900000) (h0 : w0.length = s + 1) (hn0 : n0 = w0.length) (hB : NB X RX9 cX9_init d 10 962 1 n0 (fun v w9 => v = none ∧ Gn w0 w9 s 10 ∧ MdAt w9 s 0 sv0 [] (-1) (-1) none (fun _ => 0) 0 (fun _ => 0) 0) none "<init>") (hl_0 : w.length = (s + 4)) (hw_0 : mLowW w.length w) (f0 : w[s]? = some (mO 10 [.int 0, .int 0, .int (-1), .int (-1), .int 0, .ref (s + 1), .ref (s + 2), .ref (s + 3), .null, .null, .null, .null, .null, .null, .null, .int 0, .int 0, .int 0, .int 0, .int 0, .int 0])) (f1 : LowK w0 w s) (f2 : w[(s + 1)]? = some (mI 0 67 (fun _ => 0))) (f3 : w[(s + 2)]? = some (mI 0 67 (fun _ => 0))) (f4 : w[(s + 3)]? = some (mI 0 67 (fun _ => 0)))  (hk9 : (k + 1) ≤ 10) (hn9 : (n + 67) ≤ 962) (kk : ∀ (X : mC) (w' : mW), NB X RX9 cX9_init d 10 962 1 n0 (fun v w9 => v = none ∧ Gn w0 w9 s 10 ∧ MdAt w9 s 0 sv0 [] (-1) (-1) none (fun _ => 0) 0 (fun _ => 0) 0) none "<init>" → w'.length = (s + 5) → mLowW w'.length w' → w'[s]? = some (mO 10 [.int 0, .int 0, .int (-1), .int (-1), .int 0, .ref (s + 1), .ref (s + 2), .ref (s + 3), .ref (s + 4), .null, .null, .null, .null, .null, .null, .int 0, .int 0, .int 0, .int 0, .int 0, .int 0]) → LowK w0 w' s → w'[(s + 1)]? = some (mI 0 67 (fun _ => 0)) → w'[(s + 2)]? = some (mI 0 67 (fun _ => 0)) → w'[(s + 3)]? = some (mI 0 67 (fun _ => 0)) → w'[(s + 4)]? = some (mI 0 67 (fun _ => 0)) → Wp X (k + 1) (n + 67) w' [(0, .ref s)] [] 46) : Wp X k n w [(0, .ref s)] [] 38 := by
  obtain ⟨hC, hnl, hE, hR, hN, hNm⟩ := id hB
  refine r_aload_n hC dX9_init_38 rfl (j := 0) rfl ?_
  refine r_bipush hC dX9_init_39 (v := 67) (by decide) ?_
  refine n_newa hC (atype := .int) (ty := .int) (t := 0) (N := 67) (a0 := (67, .inl (fun _ => 0))) ac_int rfl (fun _ => rfl) (fun _ => rfl) (fun _ => rfl) (by decide) (by decide) (by decide) dX9_init_41 hw_0 (by rw [hl_0]; omega) (by omega) (by omega) ⟨(Or.inl (show s < w.length by omega)), trivial⟩ ⟨(Or.inl (show s < w.length by omega)), trivial⟩ (fun X hT => ?_)
  have hB := hB.tie hT (by rw [hl_0]; omega)
  clear hT
  obtain ⟨hC, hnl, hE, hR, hN, hNm⟩ := id hB
  obtain ⟨w_1, ew_1⟩ : ∃ z, z = w ++ [(mI 0 67 (fun _ => 0))] := ⟨_, rfl⟩
  have hl_1 : w_1.length = (s + 5) := by rw [ew_1, List.length_append, hl_0]; rfl
  have hw_1 : mLowW w_1.length w_1 := by rw [hl_1, ew_1]; exact (mLowW.mono (by rw [hl_0]; omega) hw_0).app (mLowW.cons trivial mLowW.nil)
  have hf1_s : w_1[s]? = some (mO 10 [.int 0, .int 0, .int (-1), .int (-1), .int 0, .ref (s + 1), .ref (s + 2), .ref (s + 3), .null, .null, .null, .null, .null, .null, .null, .int 0, .int 0, .int 0, .int 0, .int 0, .int 0]) := by rw [ew_1, List.getElem?_append_left (lt_of_get f0)]; exact f0
  have hf1_low : LowK w0 w_1 s := LowK.mono f1 (fun k h8 h9 => by rw [ew_1, List.getElem?_append_left (by rw [hl_0]; omega)])
  have hf1__s___1_ : w_1[(s + 1)]? = some (mI 0 67 (fun _ => 0)) := by rw [ew_1, List.getElem?_append_left (lt_of_get f2)]; exact f2
  have hf1__s___2_ : w_1[(s + 2)]? = some (mI 0 67 (fun _ => 0)) := by rw [ew_1, List.getElem?_append_left (lt_of_get f3)]; exact f3
  have hf1__s___3_ : w_1[(s + 3)]? = some (mI 0 67 (fun _ => 0)) := by rw [ew_1, List.getElem?_append_left (lt_of_get f4)]; exact f4
  have hf1__s___4_ : w_1[(s + 4)]? = some (mI 0 67 (fun _ => 0)) := by rw [ew_1, List.getElem?_append_right (by rw [hl_0]; exact Nat.le_refl _), hl_0, Nat.sub_self]; rfl
  rw [← ew_1, hl_0]
  show Wp X (k + 1) (n + 67) w_1 [(0, .ref s)] [.ref (s + 4), .ref s] _
  refine n_putI' hC hNm pX9_init_43 hf1_s (Nat.le_of_ble_eq_true rfl) (fun _ => rfl) (fun _ => rfl) (fun w_2 ew_2 => ?_)
  replace ew_2 : w_2 = (w_1).set (s) (mO 10 [.int 0, .int 0, .int (-1), .int (-1), .int 0, .ref (s + 1), .ref (s + 2), .ref (s + 3), .ref (s + 4), .null, .null, .null, .null, .null, .null, .int 0, .int 0, .int 0, .int 0, .int 0, .int 0]) := ew_2
  have hl_2 : w_2.length = (s + 5) := by rw [ew_2, List.length_set, hl_1]
  have hw_2 : mLowW w_2.length w_2 := by rw [hl_2, ew_2]; exact mLowW.set (by rw [← hl_1]; exact hw_1) ⟨trivial, trivial, trivial, trivial, trivial, (Or.inl (show (s + 1) < (s + 5) by omega)), (Or.inl (show (s + 2) < (s + 5) by omega)), (Or.inl (show (s + 3) < (s + 5) by omega)), (Or.inl (show (s + 4) < (s + 5) by omega)), trivial, trivial, trivial, trivial, trivial, trivial, trivial, trivial, trivial, trivial, trivial, trivial, trivial⟩
  have hf2_s : w_2[s]? = some (mO 10 [.int 0, .int 0, .int (-1), .int (-1), .int 0, .ref (s + 1), .ref (s + 2), .ref (s + 3), .ref (s + 4), .null, .null, .null, .null, .null, .null, .int 0, .int 0, .int 0, .int 0, .int 0, .int 0]) := by rw [ew_2]; exact List.getElem?_set_self (lt_of_get hf1_s)
  have hf2_low : LowK w0 w_2 s := LowK.mono hf1_low (fun k h8 h9 => by rw [ew_2, List.getElem?_set_ne (by omega)])
  have hf2__s___1_ : w_2[(s + 1)]? = some (mI 0 67 (fun _ => 0)) := by rw [ew_2, List.getElem?_set_ne (by omega)]; exact hf1__s___1_
  have hf2__s___2_ : w_2[(s + 2)]? = some (mI 0 67 (fun _ => 0)) := by rw [ew_2, List.getElem?_set_ne (by omega)]; exact hf1__s___2_
  have hf2__s___3_ : w_2[(s + 3)]? = some (mI 0 67 (fun _ => 0)) := by rw [ew_2, List.getElem?_set_ne (by omega)]; exact hf1__s___3_
  have hf2__s___4_ : w_2[(s + 4)]? = some (mI 0 67 (fun _ => 0)) := by rw [ew_2, List.getElem?_set_ne (by omega)]; exact hf1__s___4_
  
  exact kk X w_2 hB hl_2 hw_2 hf2_s hf2_low hf2__s___1_ hf2__s___2_ hf2__s___3_ hf2__s___4_
set_option maxRecDepth 100000 in
set_option maxHeartbeats 4000000 in
theorem mx_6 {X : mC} {d s n0 k n : Nat} {w0 w : mW}  (hmax : s < 900000) (h0 : w0.length = s + 1) (hn0 : n0 = w0.length) (hB : NB X RX9 cX9_init d 10 962 1 n0 (fun v w9 => v = none ∧ Gn w0 w9 s 10 ∧ MdAt w9 s 0 sv0 [] (-1) (-1) none (fun _ => 0) 0 (fun _ => 0) 0) none "<init>") (hl_0 : w.length = (s + 5)) (hw_0 : mLowW w.length w) (f0 : w[s]? = some (mO 10 [.int 0, .int 0, .int (-1), .int (-1), .int 0, .ref (s + 1), .ref (s + 2), .ref (s + 3), .ref (s + 4), .null, .null, .null, .null, .null, .null, .int 0, .int 0, .int 0, .int 0, .int 0, .int 0])) (f1 : LowK w0 w s) (f2 : w[(s + 1)]? = some (mI 0 67 (fun _ => 0))) (f3 : w[(s + 2)]? = some (mI 0 67 (fun _ => 0))) (f4 : w[(s + 3)]? = some (mI 0 67 (fun _ => 0))) (f5 : w[(s + 4)]? = some (mI 0 67 (fun _ => 0)))  (hk9 : (k + 1) ≤ 10) (hn9 : (n + 536) ≤ 962) (kk : ∀ (X : mC) (w' : mW), NB X RX9 cX9_init d 10 962 1 n0 (fun v w9 => v = none ∧ Gn w0 w9 s 10 ∧ MdAt w9 s 0 sv0 [] (-1) (-1) none (fun _ => 0) 0 (fun _ => 0) 0) none "<init>" → w'.length = (s + 6) → mLowW w'.length w' → w'[s]? = some (mO 10 [.int 0, .int 0, .int (-1), .int (-1), .int 0, .ref (s + 1), .ref (s + 2), .ref (s + 3), .ref (s + 4), .ref (s + 5), .null, .null, .null, .null, .null, .int 0, .int 0, .int 0, .int 0, .int 0, .int 0]) → LowK w0 w' s → w'[(s + 1)]? = some (mI 0 67 (fun _ => 0)) → w'[(s + 2)]? = some (mI 0 67 (fun _ => 0)) → w'[(s + 3)]? = some (mI 0 67 (fun _ => 0)) → w'[(s + 4)]? = some (mI 0 67 (fun _ => 0)) → w'[(s + 5)]? = some (mI 0 536 (fun _ => 0)) → Wp X (k + 1) (n + 536) w' [(0, .ref s)] [] 55) : Wp X k n w [(0, .ref s)] [] 46 := by
  obtain ⟨hC, hnl, hE, hR, hN, hNm⟩ := id hB
  refine r_aload_n hC dX9_init_46 rfl (j := 0) rfl ?_
  refine r_sipush hC dX9_init_47 (v := 536) (by decide) ?_
  refine n_newa hC (atype := .int) (ty := .int) (t := 0) (N := 536) (a0 := (536, .inl (fun _ => 0))) ac_int rfl (fun _ => rfl) (fun _ => rfl) (fun _ => rfl) (by decide) (by decide) (by decide) dX9_init_50 hw_0 (by rw [hl_0]; omega) (by omega) (by omega) ⟨(Or.inl (show s < w.length by omega)), trivial⟩ ⟨(Or.inl (show s < w.length by omega)), trivial⟩ (fun X hT => ?_)
  have hB := hB.tie hT (by rw [hl_0]; omega)
  clear hT
  obtain ⟨hC, hnl, hE, hR, hN, hNm⟩ := id hB
  obtain ⟨w_1, ew_1⟩ : ∃ z, z = w ++ [(mI 0 536 (fun _ => 0))] := ⟨_, rfl⟩
  have hl_1 : w_1.length = (s + 6) := by rw [ew_1, List.length_append, hl_0]; rfl
  have hw_1 : mLowW w_1.length w_1 := by rw [hl_1, ew_1]; exact (mLowW.mono (by rw [hl_0]; omega) hw_0).app (mLowW.cons trivial mLowW.nil)
  have hf1_s : w_1[s]? = some (mO 10 [.int 0, .int 0, .int (-1), .int (-1), .int 0, .ref (s + 1), .ref (s + 2), .ref (s + 3), .ref (s + 4), .null, .null, .null, .null, .null, .null, .int 0, .int 0, .int 0, .int 0, .int 0, .int 0]) := by rw [ew_1, List.getElem?_append_left (lt_of_get f0)]; exact f0
  have hf1_low : LowK w0 w_1 s := LowK.mono f1 (fun k h8 h9 => by rw [ew_1, List.getElem?_append_left (by rw [hl_0]; omega)])
  have hf1__s___1_ : w_1[(s + 1)]? = some (mI 0 67 (fun _ => 0)) := by rw [ew_1, List.getElem?_append_left (lt_of_get f2)]; exact f2
  have hf1__s___2_ : w_1[(s + 2)]? = some (mI 0 67 (fun _ => 0)) := by rw [ew_1, List.getElem?_append_left (lt_of_get f3)]; exact f3
  have hf1__s___3_ : w_1[(s + 3)]? = some (mI 0 67 (fun _ => 0)) := by rw [ew_1, List.getElem?_append_left (lt_of_get f4)]; exact f4
  have hf1__s___4_ : w_1[(s + 4)]? = some (mI 0 67 (fun _ => 0)) := by rw [ew_1, List.getElem?_append_left (lt_of_get f5)]; exact f5
  have hf1__s___5_ : w_1[(s + 5)]? = some (mI 0 536 (fun _ => 0)) := by rw [ew_1, List.getElem?_append_right (by rw [hl_0]; exact Nat.le_refl _), hl_0, Nat.sub_self]; rfl
  rw [← ew_1, hl_0]
  show Wp X (k + 1) (n + 536) w_1 [(0, .ref s)] [.ref (s + 5), .ref s] _
  refine n_putI' hC hNm pX9_init_52 hf1_s (Nat.le_of_ble_eq_true rfl) (fun _ => rfl) (fun _ => rfl) (fun w_2 ew_2 => ?_)
  replace ew_2 : w_2 = (w_1).set (s) (mO 10 [.int 0, .int 0, .int (-1), .int (-1), .int 0, .ref (s + 1), .ref (s + 2), .ref (s + 3), .ref (s + 4), .ref (s + 5), .null, .null, .null, .null, .null, .int 0, .int 0, .int 0, .int 0, .int 0, .int 0]) := ew_2
  have hl_2 : w_2.length = (s + 6) := by rw [ew_2, List.length_set, hl_1]
  have hw_2 : mLowW w_2.length w_2 := by rw [hl_2, ew_2]; exact mLowW.set (by rw [← hl_1]; exact hw_1) ⟨trivial, trivial, trivial, trivial, trivial, (Or.inl (show (s + 1) < (s + 6) by omega)), (Or.inl (show (s + 2) < (s + 6) by omega)), (Or.inl (show (s + 3) < (s + 6) by omega)), (Or.inl (show (s + 4) < (s + 6) by omega)), (Or.inl (show (s + 5) < (s + 6) by omega)), trivial, trivial, trivial, trivial, trivial, trivial, trivial, trivial, trivial, trivial, trivial, trivial⟩
  have hf2_s : w_2[s]? = some (mO 10 [.int 0, .int 0, .int (-1), .int (-1), .int 0, .ref (s + 1), .ref (s + 2), .ref (s + 3), .ref (s + 4), .ref (s + 5), .null, .null, .null, .null, .null, .int 0, .int 0, .int 0, .int 0, .int 0, .int 0]) := by rw [ew_2]; exact List.getElem?_set_self (lt_of_get hf1_s)
  have hf2_low : LowK w0 w_2 s := LowK.mono hf1_low (fun k h8 h9 => by rw [ew_2, List.getElem?_set_ne (by omega)])
  have hf2__s___1_ : w_2[(s + 1)]? = some (mI 0 67 (fun _ => 0)) := by rw [ew_2, List.getElem?_set_ne (by omega)]; exact hf1__s___1_
  have hf2__s___2_ : w_2[(s + 2)]? = some (mI 0 67 (fun _ => 0)) := by rw [ew_2, List.getElem?_set_ne (by omega)]; exact hf1__s___2_
  have hf2__s___3_ : w_2[(s + 3)]? = some (mI 0 67 (fun _ => 0)) := by rw [ew_2, List.getElem?_set_ne (by omega)]; exact hf1__s___3_
  have hf2__s___4_ : w_2[(s + 4)]? = some (mI 0 67 (fun _ => 0)) := by rw [ew_2, List.getElem?_set_ne (by omega)]; exact hf1__s___4_
  have hf2__s___5_ : w_2[(s + 5)]? = some (mI 0 536 (fun _ => 0)) := by rw [ew_2, List.getElem?_set_ne (by omega)]; exact hf1__s___5_
  
  exact kk X w_2 hB hl_2 hw_2 hf2_s hf2_low hf2__s___1_ hf2__s___2_ hf2__s___3_ hf2__s___4_ hf2__s___5_
set_option maxRecDepth 100000 in
set_option maxHeartbeats 4000000 in
theorem mx_7 {X : mC} {d s n0 k n : Nat} {w0 w : mW}  (hmax : s < 900000) (h0 : w0.length = s + 1) (hn0 : n0 = w0.length) (hB : NB X RX9 cX9_init d 10 962 1 n0 (fun v w9 => v = none ∧ Gn w0 w9 s 10 ∧ MdAt w9 s 0 sv0 [] (-1) (-1) none (fun _ => 0) 0 (fun _ => 0) 0) none "<init>") (hl_0 : w.length = (s + 6)) (hw_0 : mLowW w.length w) (f0 : w[s]? = some (mO 10 [.int 0, .int 0, .int (-1), .int (-1), .int 0, .ref (s + 1), .ref (s + 2), .ref (s + 3), .ref (s + 4), .ref (s + 5), .null, .null, .null, .null, .null, .int 0, .int 0, .int 0, .int 0, .int 0, .int 0])) (f1 : LowK w0 w s) (f2 : w[(s + 1)]? = some (mI 0 67 (fun _ => 0))) (f3 : w[(s + 2)]? = some (mI 0 67 (fun _ => 0))) (f4 : w[(s + 3)]? = some (mI 0 67 (fun _ => 0))) (f5 : w[(s + 4)]? = some (mI 0 67 (fun _ => 0))) (f6 : w[(s + 5)]? = some (mI 0 536 (fun _ => 0)))  (hk9 : (k + 1) ≤ 10) (hn9 : (n + 60) ≤ 962) (kk : ∀ (X : mC) (w' : mW), NB X RX9 cX9_init d 10 962 1 n0 (fun v w9 => v = none ∧ Gn w0 w9 s 10 ∧ MdAt w9 s 0 sv0 [] (-1) (-1) none (fun _ => 0) 0 (fun _ => 0) 0) none "<init>" → w'.length = (s + 7) → mLowW w'.length w' → w'[s]? = some (mO 10 [.int 0, .int 0, .int (-1), .int (-1), .int 0, .ref (s + 1), .ref (s + 2), .ref (s + 3), .ref (s + 4), .ref (s + 5), .ref (s + 6), .null, .null, .null, .null, .int 0, .int 0, .int 0, .int 0, .int 0, .int 0]) → LowK w0 w' s → w'[(s + 1)]? = some (mI 0 67 (fun _ => 0)) → w'[(s + 2)]? = some (mI 0 67 (fun _ => 0)) → w'[(s + 3)]? = some (mI 0 67 (fun _ => 0)) → w'[(s + 4)]? = some (mI 0 67 (fun _ => 0)) → w'[(s + 5)]? = some (mI 0 536 (fun _ => 0)) → w'[(s + 6)]? = some (mI 0 60 (fun _ => 0)) → Wp X (k + 1) (n + 60) w' [(0, .ref s)] [] 63) : Wp X k n w [(0, .ref s)] [] 55 := by
  obtain ⟨hC, hnl, hE, hR, hN, hNm⟩ := id hB
  refine r_aload_n hC dX9_init_55 rfl (j := 0) rfl ?_
  refine r_bipush hC dX9_init_56 (v := 60) (by decide) ?_
  refine n_newa hC (atype := .int) (ty := .int) (t := 0) (N := 60) (a0 := (60, .inl (fun _ => 0))) ac_int rfl (fun _ => rfl) (fun _ => rfl) (fun _ => rfl) (by decide) (by decide) (by decide) dX9_init_58 hw_0 (by rw [hl_0]; omega) (by omega) (by omega) ⟨(Or.inl (show s < w.length by omega)), trivial⟩ ⟨(Or.inl (show s < w.length by omega)), trivial⟩ (fun X hT => ?_)
  have hB := hB.tie hT (by rw [hl_0]; omega)
  clear hT
  obtain ⟨hC, hnl, hE, hR, hN, hNm⟩ := id hB
  obtain ⟨w_1, ew_1⟩ : ∃ z, z = w ++ [(mI 0 60 (fun _ => 0))] := ⟨_, rfl⟩
  have hl_1 : w_1.length = (s + 7) := by rw [ew_1, List.length_append, hl_0]; rfl
  have hw_1 : mLowW w_1.length w_1 := by rw [hl_1, ew_1]; exact (mLowW.mono (by rw [hl_0]; omega) hw_0).app (mLowW.cons trivial mLowW.nil)
  have hf1_s : w_1[s]? = some (mO 10 [.int 0, .int 0, .int (-1), .int (-1), .int 0, .ref (s + 1), .ref (s + 2), .ref (s + 3), .ref (s + 4), .ref (s + 5), .null, .null, .null, .null, .null, .int 0, .int 0, .int 0, .int 0, .int 0, .int 0]) := by rw [ew_1, List.getElem?_append_left (lt_of_get f0)]; exact f0
  have hf1_low : LowK w0 w_1 s := LowK.mono f1 (fun k h8 h9 => by rw [ew_1, List.getElem?_append_left (by rw [hl_0]; omega)])
  have hf1__s___1_ : w_1[(s + 1)]? = some (mI 0 67 (fun _ => 0)) := by rw [ew_1, List.getElem?_append_left (lt_of_get f2)]; exact f2
  have hf1__s___2_ : w_1[(s + 2)]? = some (mI 0 67 (fun _ => 0)) := by rw [ew_1, List.getElem?_append_left (lt_of_get f3)]; exact f3
  have hf1__s___3_ : w_1[(s + 3)]? = some (mI 0 67 (fun _ => 0)) := by rw [ew_1, List.getElem?_append_left (lt_of_get f4)]; exact f4
  have hf1__s___4_ : w_1[(s + 4)]? = some (mI 0 67 (fun _ => 0)) := by rw [ew_1, List.getElem?_append_left (lt_of_get f5)]; exact f5
  have hf1__s___5_ : w_1[(s + 5)]? = some (mI 0 536 (fun _ => 0)) := by rw [ew_1, List.getElem?_append_left (lt_of_get f6)]; exact f6
  have hf1__s___6_ : w_1[(s + 6)]? = some (mI 0 60 (fun _ => 0)) := by rw [ew_1, List.getElem?_append_right (by rw [hl_0]; exact Nat.le_refl _), hl_0, Nat.sub_self]; rfl
  rw [← ew_1, hl_0]
  show Wp X (k + 1) (n + 60) w_1 [(0, .ref s)] [.ref (s + 6), .ref s] _
  refine n_putI' hC hNm pX9_init_60 hf1_s (Nat.le_of_ble_eq_true rfl) (fun _ => rfl) (fun _ => rfl) (fun w_2 ew_2 => ?_)
  replace ew_2 : w_2 = (w_1).set (s) (mO 10 [.int 0, .int 0, .int (-1), .int (-1), .int 0, .ref (s + 1), .ref (s + 2), .ref (s + 3), .ref (s + 4), .ref (s + 5), .ref (s + 6), .null, .null, .null, .null, .int 0, .int 0, .int 0, .int 0, .int 0, .int 0]) := ew_2
  have hl_2 : w_2.length = (s + 7) := by rw [ew_2, List.length_set, hl_1]
  have hw_2 : mLowW w_2.length w_2 := by rw [hl_2, ew_2]; exact mLowW.set (by rw [← hl_1]; exact hw_1) ⟨trivial, trivial, trivial, trivial, trivial, (Or.inl (show (s + 1) < (s + 7) by omega)), (Or.inl (show (s + 2) < (s + 7) by omega)), (Or.inl (show (s + 3) < (s + 7) by omega)), (Or.inl (show (s + 4) < (s + 7) by omega)), (Or.inl (show (s + 5) < (s + 7) by omega)), (Or.inl (show (s + 6) < (s + 7) by omega)), trivial, trivial, trivial, trivial, trivial, trivial, trivial, trivial, trivial, trivial, trivial⟩
  have hf2_s : w_2[s]? = some (mO 10 [.int 0, .int 0, .int (-1), .int (-1), .int 0, .ref (s + 1), .ref (s + 2), .ref (s + 3), .ref (s + 4), .ref (s + 5), .ref (s + 6), .null, .null, .null, .null, .int 0, .int 0, .int 0, .int 0, .int 0, .int 0]) := by rw [ew_2]; exact List.getElem?_set_self (lt_of_get hf1_s)
  have hf2_low : LowK w0 w_2 s := LowK.mono hf1_low (fun k h8 h9 => by rw [ew_2, List.getElem?_set_ne (by omega)])
  have hf2__s___1_ : w_2[(s + 1)]? = some (mI 0 67 (fun _ => 0)) := by rw [ew_2, List.getElem?_set_ne (by omega)]; exact hf1__s___1_
  have hf2__s___2_ : w_2[(s + 2)]? = some (mI 0 67 (fun _ => 0)) := by rw [ew_2, List.getElem?_set_ne (by omega)]; exact hf1__s___2_
  have hf2__s___3_ : w_2[(s + 3)]? = some (mI 0 67 (fun _ => 0)) := by rw [ew_2, List.getElem?_set_ne (by omega)]; exact hf1__s___3_
  have hf2__s___4_ : w_2[(s + 4)]? = some (mI 0 67 (fun _ => 0)) := by rw [ew_2, List.getElem?_set_ne (by omega)]; exact hf1__s___4_
  have hf2__s___5_ : w_2[(s + 5)]? = some (mI 0 536 (fun _ => 0)) := by rw [ew_2, List.getElem?_set_ne (by omega)]; exact hf1__s___5_
  have hf2__s___6_ : w_2[(s + 6)]? = some (mI 0 60 (fun _ => 0)) := by rw [ew_2, List.getElem?_set_ne (by omega)]; exact hf1__s___6_
  
  exact kk X w_2 hB hl_2 hw_2 hf2_s hf2_low hf2__s___1_ hf2__s___2_ hf2__s___3_ hf2__s___4_ hf2__s___5_ hf2__s___6_
set_option maxRecDepth 100000 in
set_option maxHeartbeats 4000000 in
theorem mx_8 {X : mC} {d s n0 k n : Nat} {w0 w : mW}  (hmax : s < 900000) (h0 : w0.length = s + 1) (hn0 : n0 = w0.length) (hB : NB X RX9 cX9_init d 10 962 1 n0 (fun v w9 => v = none ∧ Gn w0 w9 s 10 ∧ MdAt w9 s 0 sv0 [] (-1) (-1) none (fun _ => 0) 0 (fun _ => 0) 0) none "<init>") (hl_0 : w.length = (s + 7)) (hw_0 : mLowW w.length w) (f0 : w[s]? = some (mO 10 [.int 0, .int 0, .int (-1), .int (-1), .int 0, .ref (s + 1), .ref (s + 2), .ref (s + 3), .ref (s + 4), .ref (s + 5), .ref (s + 6), .null, .null, .null, .null, .int 0, .int 0, .int 0, .int 0, .int 0, .int 0])) (f1 : LowK w0 w s) (f2 : w[(s + 1)]? = some (mI 0 67 (fun _ => 0))) (f3 : w[(s + 2)]? = some (mI 0 67 (fun _ => 0))) (f4 : w[(s + 3)]? = some (mI 0 67 (fun _ => 0))) (f5 : w[(s + 4)]? = some (mI 0 67 (fun _ => 0))) (f6 : w[(s + 5)]? = some (mI 0 536 (fun _ => 0))) (f7 : w[(s + 6)]? = some (mI 0 60 (fun _ => 0)))  (hk9 : (k + 1) ≤ 10) (hn9 : (n + 40) ≤ 962) (kk : ∀ (X : mC) (w' : mW), NB X RX9 cX9_init d 10 962 1 n0 (fun v w9 => v = none ∧ Gn w0 w9 s 10 ∧ MdAt w9 s 0 sv0 [] (-1) (-1) none (fun _ => 0) 0 (fun _ => 0) 0) none "<init>" → w'.length = (s + 8) → mLowW w'.length w' → w'[s]? = some (mO 10 [.int 0, .int 0, .int (-1), .int (-1), .int 0, .ref (s + 1), .ref (s + 2), .ref (s + 3), .ref (s + 4), .ref (s + 5), .ref (s + 6), .ref (s + 7), .null, .null, .null, .int 0, .int 0, .int 0, .int 0, .int 0, .int 0]) → LowK w0 w' s → w'[(s + 1)]? = some (mI 0 67 (fun _ => 0)) → w'[(s + 2)]? = some (mI 0 67 (fun _ => 0)) → w'[(s + 3)]? = some (mI 0 67 (fun _ => 0)) → w'[(s + 4)]? = some (mI 0 67 (fun _ => 0)) → w'[(s + 5)]? = some (mI 0 536 (fun _ => 0)) → w'[(s + 6)]? = some (mI 0 60 (fun _ => 0)) → w'[(s + 7)]? = some (mI 0 40 (fun _ => 0)) → Wp X (k + 1) (n + 40) w' [(0, .ref s)] [] 71) : Wp X k n w [(0, .ref s)] [] 63 := by
  obtain ⟨hC, hnl, hE, hR, hN, hNm⟩ := id hB
  refine r_aload_n hC dX9_init_63 rfl (j := 0) rfl ?_
  refine r_bipush hC dX9_init_64 (v := 40) (by decide) ?_
  refine n_newa hC (atype := .int) (ty := .int) (t := 0) (N := 40) (a0 := (40, .inl (fun _ => 0))) ac_int rfl (fun _ => rfl) (fun _ => rfl) (fun _ => rfl) (by decide) (by decide) (by decide) dX9_init_66 hw_0 (by rw [hl_0]; omega) (by omega) (by omega) ⟨(Or.inl (show s < w.length by omega)), trivial⟩ ⟨(Or.inl (show s < w.length by omega)), trivial⟩ (fun X hT => ?_)
  have hB := hB.tie hT (by rw [hl_0]; omega)
  clear hT
  obtain ⟨hC, hnl, hE, hR, hN, hNm⟩ := id hB
  obtain ⟨w_1, ew_1⟩ : ∃ z, z = w ++ [(mI 0 40 (fun _ => 0))] := ⟨_, rfl⟩
  have hl_1 : w_1.length = (s + 8) := by rw [ew_1, List.length_append, hl_0]; rfl
  have hw_1 : mLowW w_1.length w_1 := by rw [hl_1, ew_1]; exact (mLowW.mono (by rw [hl_0]; omega) hw_0).app (mLowW.cons trivial mLowW.nil)
  have hf1_s : w_1[s]? = some (mO 10 [.int 0, .int 0, .int (-1), .int (-1), .int 0, .ref (s + 1), .ref (s + 2), .ref (s + 3), .ref (s + 4), .ref (s + 5), .ref (s + 6), .null, .null, .null, .null, .int 0, .int 0, .int 0, .int 0, .int 0, .int 0]) := by rw [ew_1, List.getElem?_append_left (lt_of_get f0)]; exact f0
  have hf1_low : LowK w0 w_1 s := LowK.mono f1 (fun k h8 h9 => by rw [ew_1, List.getElem?_append_left (by rw [hl_0]; omega)])
  have hf1__s___1_ : w_1[(s + 1)]? = some (mI 0 67 (fun _ => 0)) := by rw [ew_1, List.getElem?_append_left (lt_of_get f2)]; exact f2
  have hf1__s___2_ : w_1[(s + 2)]? = some (mI 0 67 (fun _ => 0)) := by rw [ew_1, List.getElem?_append_left (lt_of_get f3)]; exact f3
  have hf1__s___3_ : w_1[(s + 3)]? = some (mI 0 67 (fun _ => 0)) := by rw [ew_1, List.getElem?_append_left (lt_of_get f4)]; exact f4
  have hf1__s___4_ : w_1[(s + 4)]? = some (mI 0 67 (fun _ => 0)) := by rw [ew_1, List.getElem?_append_left (lt_of_get f5)]; exact f5
  have hf1__s___5_ : w_1[(s + 5)]? = some (mI 0 536 (fun _ => 0)) := by rw [ew_1, List.getElem?_append_left (lt_of_get f6)]; exact f6
  have hf1__s___6_ : w_1[(s + 6)]? = some (mI 0 60 (fun _ => 0)) := by rw [ew_1, List.getElem?_append_left (lt_of_get f7)]; exact f7
  have hf1__s___7_ : w_1[(s + 7)]? = some (mI 0 40 (fun _ => 0)) := by rw [ew_1, List.getElem?_append_right (by rw [hl_0]; exact Nat.le_refl _), hl_0, Nat.sub_self]; rfl
  rw [← ew_1, hl_0]
  show Wp X (k + 1) (n + 40) w_1 [(0, .ref s)] [.ref (s + 7), .ref s] _
  refine n_putI' hC hNm pX9_init_68 hf1_s (Nat.le_of_ble_eq_true rfl) (fun _ => rfl) (fun _ => rfl) (fun w_2 ew_2 => ?_)
  replace ew_2 : w_2 = (w_1).set (s) (mO 10 [.int 0, .int 0, .int (-1), .int (-1), .int 0, .ref (s + 1), .ref (s + 2), .ref (s + 3), .ref (s + 4), .ref (s + 5), .ref (s + 6), .ref (s + 7), .null, .null, .null, .int 0, .int 0, .int 0, .int 0, .int 0, .int 0]) := ew_2
  have hl_2 : w_2.length = (s + 8) := by rw [ew_2, List.length_set, hl_1]
  have hw_2 : mLowW w_2.length w_2 := by rw [hl_2, ew_2]; exact mLowW.set (by rw [← hl_1]; exact hw_1) ⟨trivial, trivial, trivial, trivial, trivial, (Or.inl (show (s + 1) < (s + 8) by omega)), (Or.inl (show (s + 2) < (s + 8) by omega)), (Or.inl (show (s + 3) < (s + 8) by omega)), (Or.inl (show (s + 4) < (s + 8) by omega)), (Or.inl (show (s + 5) < (s + 8) by omega)), (Or.inl (show (s + 6) < (s + 8) by omega)), (Or.inl (show (s + 7) < (s + 8) by omega)), trivial, trivial, trivial, trivial, trivial, trivial, trivial, trivial, trivial, trivial⟩
  have hf2_s : w_2[s]? = some (mO 10 [.int 0, .int 0, .int (-1), .int (-1), .int 0, .ref (s + 1), .ref (s + 2), .ref (s + 3), .ref (s + 4), .ref (s + 5), .ref (s + 6), .ref (s + 7), .null, .null, .null, .int 0, .int 0, .int 0, .int 0, .int 0, .int 0]) := by rw [ew_2]; exact List.getElem?_set_self (lt_of_get hf1_s)
  have hf2_low : LowK w0 w_2 s := LowK.mono hf1_low (fun k h8 h9 => by rw [ew_2, List.getElem?_set_ne (by omega)])
  have hf2__s___1_ : w_2[(s + 1)]? = some (mI 0 67 (fun _ => 0)) := by rw [ew_2, List.getElem?_set_ne (by omega)]; exact hf1__s___1_
  have hf2__s___2_ : w_2[(s + 2)]? = some (mI 0 67 (fun _ => 0)) := by rw [ew_2, List.getElem?_set_ne (by omega)]; exact hf1__s___2_
  have hf2__s___3_ : w_2[(s + 3)]? = some (mI 0 67 (fun _ => 0)) := by rw [ew_2, List.getElem?_set_ne (by omega)]; exact hf1__s___3_
  have hf2__s___4_ : w_2[(s + 4)]? = some (mI 0 67 (fun _ => 0)) := by rw [ew_2, List.getElem?_set_ne (by omega)]; exact hf1__s___4_
  have hf2__s___5_ : w_2[(s + 5)]? = some (mI 0 536 (fun _ => 0)) := by rw [ew_2, List.getElem?_set_ne (by omega)]; exact hf1__s___5_
  have hf2__s___6_ : w_2[(s + 6)]? = some (mI 0 60 (fun _ => 0)) := by rw [ew_2, List.getElem?_set_ne (by omega)]; exact hf1__s___6_
  have hf2__s___7_ : w_2[(s + 7)]? = some (mI 0 40 (fun _ => 0)) := by rw [ew_2, List.getElem?_set_ne (by omega)]; exact hf1__s___7_
  
  exact kk X w_2 hB hl_2 hw_2 hf2_s hf2_low hf2__s___1_ hf2__s___2_ hf2__s___3_ hf2__s___4_ hf2__s___5_ hf2__s___6_ hf2__s___7_
set_option maxRecDepth 100000 in
set_option maxHeartbeats 4000000 in
theorem mx_9 {X : mC} {d s n0 k n : Nat} {w0 w : mW}  (hmax : s < 900000) (h0 : w0.length = s + 1) (hn0 : n0 = w0.length) (hB : NB X RX9 cX9_init d 10 962 1 n0 (fun v w9 => v = none ∧ Gn w0 w9 s 10 ∧ MdAt w9 s 0 sv0 [] (-1) (-1) none (fun _ => 0) 0 (fun _ => 0) 0) none "<init>") (hl_0 : w.length = (s + 8)) (hw_0 : mLowW w.length w) (f0 : w[s]? = some (mO 10 [.int 0, .int 0, .int (-1), .int (-1), .int 0, .ref (s + 1), .ref (s + 2), .ref (s + 3), .ref (s + 4), .ref (s + 5), .ref (s + 6), .ref (s + 7), .null, .null, .null, .int 0, .int 0, .int 0, .int 0, .int 0, .int 0])) (f1 : LowK w0 w s) (f2 : w[(s + 1)]? = some (mI 0 67 (fun _ => 0))) (f3 : w[(s + 2)]? = some (mI 0 67 (fun _ => 0))) (f4 : w[(s + 3)]? = some (mI 0 67 (fun _ => 0))) (f5 : w[(s + 4)]? = some (mI 0 67 (fun _ => 0))) (f6 : w[(s + 5)]? = some (mI 0 536 (fun _ => 0))) (f7 : w[(s + 6)]? = some (mI 0 60 (fun _ => 0))) (f8 : w[(s + 7)]? = some (mI 0 40 (fun _ => 0)))  (hk9 : (k + 1) ≤ 10) (hn9 : (n + 8) ≤ 962) (kk : ∀ (X : mC) (w' : mW), NB X RX9 cX9_init d 10 962 1 n0 (fun v w9 => v = none ∧ Gn w0 w9 s 10 ∧ MdAt w9 s 0 sv0 [] (-1) (-1) none (fun _ => 0) 0 (fun _ => 0) 0) none "<init>" → w'.length = (s + 9) → mLowW w'.length w' → w'[s]? = some (mO 10 [.int 0, .int 0, .int (-1), .int (-1), .int 0, .ref (s + 1), .ref (s + 2), .ref (s + 3), .ref (s + 4), .ref (s + 5), .ref (s + 6), .ref (s + 7), .ref (s + 8), .null, .null, .int 0, .int 0, .int 0, .int 0, .int 0, .int 0]) → LowK w0 w' s → w'[(s + 1)]? = some (mI 0 67 (fun _ => 0)) → w'[(s + 2)]? = some (mI 0 67 (fun _ => 0)) → w'[(s + 3)]? = some (mI 0 67 (fun _ => 0)) → w'[(s + 4)]? = some (mI 0 67 (fun _ => 0)) → w'[(s + 5)]? = some (mI 0 536 (fun _ => 0)) → w'[(s + 6)]? = some (mI 0 60 (fun _ => 0)) → w'[(s + 7)]? = some (mI 0 40 (fun _ => 0)) → w'[(s + 8)]? = some (mI 0 8 (fun _ => 0)) → Wp X (k + 1) (n + 8) w' [(0, .ref s)] [] 79) : Wp X k n w [(0, .ref s)] [] 71 := by
  obtain ⟨hC, hnl, hE, hR, hN, hNm⟩ := id hB
  refine r_aload_n hC dX9_init_71 rfl (j := 0) rfl ?_
  refine r_bipush hC dX9_init_72 (v := 8) (by decide) ?_
  refine n_newa hC (atype := .int) (ty := .int) (t := 0) (N := 8) (a0 := (8, .inl (fun _ => 0))) ac_int rfl (fun _ => rfl) (fun _ => rfl) (fun _ => rfl) (by decide) (by decide) (by decide) dX9_init_74 hw_0 (by rw [hl_0]; omega) (by omega) (by omega) ⟨(Or.inl (show s < w.length by omega)), trivial⟩ ⟨(Or.inl (show s < w.length by omega)), trivial⟩ (fun X hT => ?_)
  have hB := hB.tie hT (by rw [hl_0]; omega)
  clear hT
  obtain ⟨hC, hnl, hE, hR, hN, hNm⟩ := id hB
  obtain ⟨w_1, ew_1⟩ : ∃ z, z = w ++ [(mI 0 8 (fun _ => 0))] := ⟨_, rfl⟩
  have hl_1 : w_1.length = (s + 9) := by rw [ew_1, List.length_append, hl_0]; rfl
  have hw_1 : mLowW w_1.length w_1 := by rw [hl_1, ew_1]; exact (mLowW.mono (by rw [hl_0]; omega) hw_0).app (mLowW.cons trivial mLowW.nil)
  have hf1_s : w_1[s]? = some (mO 10 [.int 0, .int 0, .int (-1), .int (-1), .int 0, .ref (s + 1), .ref (s + 2), .ref (s + 3), .ref (s + 4), .ref (s + 5), .ref (s + 6), .ref (s + 7), .null, .null, .null, .int 0, .int 0, .int 0, .int 0, .int 0, .int 0]) := by rw [ew_1, List.getElem?_append_left (lt_of_get f0)]; exact f0
  have hf1_low : LowK w0 w_1 s := LowK.mono f1 (fun k h8 h9 => by rw [ew_1, List.getElem?_append_left (by rw [hl_0]; omega)])
  have hf1__s___1_ : w_1[(s + 1)]? = some (mI 0 67 (fun _ => 0)) := by rw [ew_1, List.getElem?_append_left (lt_of_get f2)]; exact f2
  have hf1__s___2_ : w_1[(s + 2)]? = some (mI 0 67 (fun _ => 0)) := by rw [ew_1, List.getElem?_append_left (lt_of_get f3)]; exact f3
  have hf1__s___3_ : w_1[(s + 3)]? = some (mI 0 67 (fun _ => 0)) := by rw [ew_1, List.getElem?_append_left (lt_of_get f4)]; exact f4
  have hf1__s___4_ : w_1[(s + 4)]? = some (mI 0 67 (fun _ => 0)) := by rw [ew_1, List.getElem?_append_left (lt_of_get f5)]; exact f5
  have hf1__s___5_ : w_1[(s + 5)]? = some (mI 0 536 (fun _ => 0)) := by rw [ew_1, List.getElem?_append_left (lt_of_get f6)]; exact f6
  have hf1__s___6_ : w_1[(s + 6)]? = some (mI 0 60 (fun _ => 0)) := by rw [ew_1, List.getElem?_append_left (lt_of_get f7)]; exact f7
  have hf1__s___7_ : w_1[(s + 7)]? = some (mI 0 40 (fun _ => 0)) := by rw [ew_1, List.getElem?_append_left (lt_of_get f8)]; exact f8
  have hf1__s___8_ : w_1[(s + 8)]? = some (mI 0 8 (fun _ => 0)) := by rw [ew_1, List.getElem?_append_right (by rw [hl_0]; exact Nat.le_refl _), hl_0, Nat.sub_self]; rfl
  rw [← ew_1, hl_0]
  show Wp X (k + 1) (n + 8) w_1 [(0, .ref s)] [.ref (s + 8), .ref s] _
  refine n_putI' hC hNm pX9_init_76 hf1_s (Nat.le_of_ble_eq_true rfl) (fun _ => rfl) (fun _ => rfl) (fun w_2 ew_2 => ?_)
  replace ew_2 : w_2 = (w_1).set (s) (mO 10 [.int 0, .int 0, .int (-1), .int (-1), .int 0, .ref (s + 1), .ref (s + 2), .ref (s + 3), .ref (s + 4), .ref (s + 5), .ref (s + 6), .ref (s + 7), .ref (s + 8), .null, .null, .int 0, .int 0, .int 0, .int 0, .int 0, .int 0]) := ew_2
  have hl_2 : w_2.length = (s + 9) := by rw [ew_2, List.length_set, hl_1]
  have hw_2 : mLowW w_2.length w_2 := by rw [hl_2, ew_2]; exact mLowW.set (by rw [← hl_1]; exact hw_1) ⟨trivial, trivial, trivial, trivial, trivial, (Or.inl (show (s + 1) < (s + 9) by omega)), (Or.inl (show (s + 2) < (s + 9) by omega)), (Or.inl (show (s + 3) < (s + 9) by omega)), (Or.inl (show (s + 4) < (s + 9) by omega)), (Or.inl (show (s + 5) < (s + 9) by omega)), (Or.inl (show (s + 6) < (s + 9) by omega)), (Or.inl (show (s + 7) < (s + 9) by omega)), (Or.inl (show (s + 8) < (s + 9) by omega)), trivial, trivial, trivial, trivial, trivial, trivial, trivial, trivial, trivial⟩
  have hf2_s : w_2[s]? = some (mO 10 [.int 0, .int 0, .int (-1), .int (-1), .int 0, .ref (s + 1), .ref (s + 2), .ref (s + 3), .ref (s + 4), .ref (s + 5), .ref (s + 6), .ref (s + 7), .ref (s + 8), .null, .null, .int 0, .int 0, .int 0, .int 0, .int 0, .int 0]) := by rw [ew_2]; exact List.getElem?_set_self (lt_of_get hf1_s)
  have hf2_low : LowK w0 w_2 s := LowK.mono hf1_low (fun k h8 h9 => by rw [ew_2, List.getElem?_set_ne (by omega)])
  have hf2__s___1_ : w_2[(s + 1)]? = some (mI 0 67 (fun _ => 0)) := by rw [ew_2, List.getElem?_set_ne (by omega)]; exact hf1__s___1_
  have hf2__s___2_ : w_2[(s + 2)]? = some (mI 0 67 (fun _ => 0)) := by rw [ew_2, List.getElem?_set_ne (by omega)]; exact hf1__s___2_
  have hf2__s___3_ : w_2[(s + 3)]? = some (mI 0 67 (fun _ => 0)) := by rw [ew_2, List.getElem?_set_ne (by omega)]; exact hf1__s___3_
  have hf2__s___4_ : w_2[(s + 4)]? = some (mI 0 67 (fun _ => 0)) := by rw [ew_2, List.getElem?_set_ne (by omega)]; exact hf1__s___4_
  have hf2__s___5_ : w_2[(s + 5)]? = some (mI 0 536 (fun _ => 0)) := by rw [ew_2, List.getElem?_set_ne (by omega)]; exact hf1__s___5_
  have hf2__s___6_ : w_2[(s + 6)]? = some (mI 0 60 (fun _ => 0)) := by rw [ew_2, List.getElem?_set_ne (by omega)]; exact hf1__s___6_
  have hf2__s___7_ : w_2[(s + 7)]? = some (mI 0 40 (fun _ => 0)) := by rw [ew_2, List.getElem?_set_ne (by omega)]; exact hf1__s___7_
  have hf2__s___8_ : w_2[(s + 8)]? = some (mI 0 8 (fun _ => 0)) := by rw [ew_2, List.getElem?_set_ne (by omega)]; exact hf1__s___8_
  
  exact kk X w_2 hB hl_2 hw_2 hf2_s hf2_low hf2__s___1_ hf2__s___2_ hf2__s___3_ hf2__s___4_ hf2__s___5_ hf2__s___6_ hf2__s___7_ hf2__s___8_
set_option maxRecDepth 100000 in
set_option maxHeartbeats 4000000 in
theorem mx_10 {X : mC} {d s n0 k n : Nat} {w0 w : mW}  (hmax : s < 900000) (h0 : w0.length = s + 1) (hn0 : n0 = w0.length) (hB : NB X RX9 cX9_init d 10 962 1 n0 (fun v w9 => v = none ∧ Gn w0 w9 s 10 ∧ MdAt w9 s 0 sv0 [] (-1) (-1) none (fun _ => 0) 0 (fun _ => 0) 0) none "<init>") (hl_0 : w.length = (s + 9)) (hw_0 : mLowW w.length w) (f0 : w[s]? = some (mO 10 [.int 0, .int 0, .int (-1), .int (-1), .int 0, .ref (s + 1), .ref (s + 2), .ref (s + 3), .ref (s + 4), .ref (s + 5), .ref (s + 6), .ref (s + 7), .ref (s + 8), .null, .null, .int 0, .int 0, .int 0, .int 0, .int 0, .int 0])) (f1 : LowK w0 w s) (f2 : w[(s + 1)]? = some (mI 0 67 (fun _ => 0))) (f3 : w[(s + 2)]? = some (mI 0 67 (fun _ => 0))) (f4 : w[(s + 3)]? = some (mI 0 67 (fun _ => 0))) (f5 : w[(s + 4)]? = some (mI 0 67 (fun _ => 0))) (f6 : w[(s + 5)]? = some (mI 0 536 (fun _ => 0))) (f7 : w[(s + 6)]? = some (mI 0 60 (fun _ => 0))) (f8 : w[(s + 7)]? = some (mI 0 40 (fun _ => 0))) (f9 : w[(s + 8)]? = some (mI 0 8 (fun _ => 0)))  (hk9 : (k + 1) ≤ 10) (hn9 : (n + 41) ≤ 962) (kk : ∀ (X : mC) (w' : mW), NB X RX9 cX9_init d 10 962 1 n0 (fun v w9 => v = none ∧ Gn w0 w9 s 10 ∧ MdAt w9 s 0 sv0 [] (-1) (-1) none (fun _ => 0) 0 (fun _ => 0) 0) none "<init>" → w'.length = (s + 10) → mLowW w'.length w' → w'[s]? = some (mO 10 [.int 0, .int 0, .int (-1), .int (-1), .int 0, .ref (s + 1), .ref (s + 2), .ref (s + 3), .ref (s + 4), .ref (s + 5), .ref (s + 6), .ref (s + 7), .ref (s + 8), .null, .null, .int 0, .int 0, .int 0, .int 0, .int 0, .int 0]) → LowK w0 w' s → w'[(s + 1)]? = some (mI 0 67 (fun _ => 0)) → w'[(s + 2)]? = some (mI 0 67 (fun _ => 0)) → w'[(s + 3)]? = some (mI 0 67 (fun _ => 0)) → w'[(s + 4)]? = some (mI 0 67 (fun _ => 0)) → w'[(s + 5)]? = some (mI 0 536 (fun _ => 0)) → w'[(s + 6)]? = some (mI 0 60 (fun _ => 0)) → w'[(s + 7)]? = some (mI 0 40 (fun _ => 0)) → w'[(s + 8)]? = some (mI 0 8 (fun _ => 0)) → w'[(s + 9)]? = some (mI 0 41 (fun _ => 0)) → Wp X (k + 1) (n + 41) w' [(0, .ref s)] [.ref (s + 9), .ref s] 84) : Wp X k n w [(0, .ref s)] [] 79 := by
  obtain ⟨hC, hnl, hE, hR, hN, hNm⟩ := id hB
  refine r_aload_n hC dX9_init_79 rfl (j := 0) rfl ?_
  refine r_bipush hC dX9_init_80 (v := 41) (by decide) ?_
  refine n_newa hC (atype := .int) (ty := .int) (t := 0) (N := 41) (a0 := (41, .inl (fun _ => 0))) ac_int rfl (fun _ => rfl) (fun _ => rfl) (fun _ => rfl) (by decide) (by decide) (by decide) dX9_init_82 hw_0 (by rw [hl_0]; omega) (by omega) (by omega) ⟨(Or.inl (show s < w.length by omega)), trivial⟩ ⟨(Or.inl (show s < w.length by omega)), trivial⟩ (fun X hT => ?_)
  have hB := hB.tie hT (by rw [hl_0]; omega)
  clear hT
  obtain ⟨hC, hnl, hE, hR, hN, hNm⟩ := id hB
  obtain ⟨w_1, ew_1⟩ : ∃ z, z = w ++ [(mI 0 41 (fun _ => 0))] := ⟨_, rfl⟩
  have hl_1 : w_1.length = (s + 10) := by rw [ew_1, List.length_append, hl_0]; rfl
  have hw_1 : mLowW w_1.length w_1 := by rw [hl_1, ew_1]; exact (mLowW.mono (by rw [hl_0]; omega) hw_0).app (mLowW.cons trivial mLowW.nil)
  have hf1_s : w_1[s]? = some (mO 10 [.int 0, .int 0, .int (-1), .int (-1), .int 0, .ref (s + 1), .ref (s + 2), .ref (s + 3), .ref (s + 4), .ref (s + 5), .ref (s + 6), .ref (s + 7), .ref (s + 8), .null, .null, .int 0, .int 0, .int 0, .int 0, .int 0, .int 0]) := by rw [ew_1, List.getElem?_append_left (lt_of_get f0)]; exact f0
  have hf1_low : LowK w0 w_1 s := LowK.mono f1 (fun k h8 h9 => by rw [ew_1, List.getElem?_append_left (by rw [hl_0]; omega)])
  have hf1__s___1_ : w_1[(s + 1)]? = some (mI 0 67 (fun _ => 0)) := by rw [ew_1, List.getElem?_append_left (lt_of_get f2)]; exact f2
  have hf1__s___2_ : w_1[(s + 2)]? = some (mI 0 67 (fun _ => 0)) := by rw [ew_1, List.getElem?_append_left (lt_of_get f3)]; exact f3
  have hf1__s___3_ : w_1[(s + 3)]? = some (mI 0 67 (fun _ => 0)) := by rw [ew_1, List.getElem?_append_left (lt_of_get f4)]; exact f4
  have hf1__s___4_ : w_1[(s + 4)]? = some (mI 0 67 (fun _ => 0)) := by rw [ew_1, List.getElem?_append_left (lt_of_get f5)]; exact f5
  have hf1__s___5_ : w_1[(s + 5)]? = some (mI 0 536 (fun _ => 0)) := by rw [ew_1, List.getElem?_append_left (lt_of_get f6)]; exact f6
  have hf1__s___6_ : w_1[(s + 6)]? = some (mI 0 60 (fun _ => 0)) := by rw [ew_1, List.getElem?_append_left (lt_of_get f7)]; exact f7
  have hf1__s___7_ : w_1[(s + 7)]? = some (mI 0 40 (fun _ => 0)) := by rw [ew_1, List.getElem?_append_left (lt_of_get f8)]; exact f8
  have hf1__s___8_ : w_1[(s + 8)]? = some (mI 0 8 (fun _ => 0)) := by rw [ew_1, List.getElem?_append_left (lt_of_get f9)]; exact f9
  have hf1__s___9_ : w_1[(s + 9)]? = some (mI 0 41 (fun _ => 0)) := by rw [ew_1, List.getElem?_append_right (by rw [hl_0]; exact Nat.le_refl _), hl_0, Nat.sub_self]; rfl
  rw [← ew_1, hl_0]
  show Wp X (k + 1) (n + 41) w_1 [(0, .ref s)] [.ref (s + 9), .ref s] _
  
  exact kk X w_1 hB hl_1 hw_1 hf1_s hf1_low hf1__s___1_ hf1__s___2_ hf1__s___3_ hf1__s___4_ hf1__s___5_ hf1__s___6_ hf1__s___7_ hf1__s___8_ hf1__s___9_
set_option maxRecDepth 100000 in
set_option maxHeartbeats 4000000 in
theorem mx_11 {X : mC} {d s n0 k n : Nat} {w0 w : mW}  (hmax : s < 900000) (h0 : w0.length = s + 1) (hn0 : n0 = w0.length) (hB : NB X RX9 cX9_init d 10 962 1 n0 (fun v w9 => v = none ∧ Gn w0 w9 s 10 ∧ MdAt w9 s 0 sv0 [] (-1) (-1) none (fun _ => 0) 0 (fun _ => 0) 0) none "<init>") (hl_0 : w.length = (s + 10)) (hw_0 : mLowW w.length w) (f0 : w[s]? = some (mO 10 [.int 0, .int 0, .int (-1), .int (-1), .int 0, .ref (s + 1), .ref (s + 2), .ref (s + 3), .ref (s + 4), .ref (s + 5), .ref (s + 6), .ref (s + 7), .ref (s + 8), .null, .null, .int 0, .int 0, .int 0, .int 0, .int 0, .int 0])) (f1 : LowK w0 w s) (f2 : w[(s + 1)]? = some (mI 0 67 (fun _ => 0))) (f3 : w[(s + 2)]? = some (mI 0 67 (fun _ => 0))) (f4 : w[(s + 3)]? = some (mI 0 67 (fun _ => 0))) (f5 : w[(s + 4)]? = some (mI 0 67 (fun _ => 0))) (f6 : w[(s + 5)]? = some (mI 0 536 (fun _ => 0))) (f7 : w[(s + 6)]? = some (mI 0 60 (fun _ => 0))) (f8 : w[(s + 7)]? = some (mI 0 40 (fun _ => 0))) (f9 : w[(s + 8)]? = some (mI 0 8 (fun _ => 0))) (f10 : w[(s + 9)]? = some (mI 0 41 (fun _ => 0)))  (hk9 : k ≤ 10) (hn9 : n ≤ 962) (kk : ∀ (X : mC) (w' : mW), NB X RX9 cX9_init d 10 962 1 n0 (fun v w9 => v = none ∧ Gn w0 w9 s 10 ∧ MdAt w9 s 0 sv0 [] (-1) (-1) none (fun _ => 0) 0 (fun _ => 0) 0) none "<init>" → w'.length = (s + 10) → mLowW w'.length w' → w'[s]? = some (mO 10 [.int 0, .int 0, .int (-1), .int (-1), .int 0, .ref (s + 1), .ref (s + 2), .ref (s + 3), .ref (s + 4), .ref (s + 5), .ref (s + 6), .ref (s + 7), .ref (s + 8), .null, .null, .int 0, .int 0, .int 0, .int 0, .int 0, .int 0]) → LowK w0 w' s → w'[(s + 1)]? = some (mI 0 67 (fun _ => 0)) → w'[(s + 2)]? = some (mI 0 67 (fun _ => 0)) → w'[(s + 3)]? = some (mI 0 67 (fun _ => 0)) → w'[(s + 4)]? = some (mI 0 67 (fun _ => 0)) → w'[(s + 5)]? = some (mI 0 536 (fun _ => 0)) → w'[(s + 6)]? = some (mI 0 60 (fun _ => 0)) → w'[(s + 7)]? = some (mI 0 40 (fun _ => 0)) → w'[(s + 8)]? = some (mI 0 8 (fun _ => 0)) → w'[(s + 9)]? = some (mI 0 41 (wdP 41)) → Wp X k n w' [(0, .ref s)] [.ref (s + 9), .ref s] 324) : Wp X k n w [(0, .ref s)] [.ref (s + 9), .ref s] 84 := by
  obtain ⟨hC, hnl, hE, hR, hN, hNm⟩ := id hB
  rw [← wdP_0] at f10
  refine cw_0 hC f10 (fun w_1 ew_1 => ?_)
  replace ew_1 : w_1 = (w).set ((s + 9)) (mI 0 41 (wdP 10)) := ew_1
  have hl_1 : w_1.length = (s + 10) := by rw [ew_1, List.length_set, hl_0]
  have hw_1 : mLowW w_1.length w_1 := by rw [hl_1, ew_1]; exact mLowW.set (by rw [← hl_0]; exact hw_0) trivial
  have hf1_s : w_1[s]? = some (mO 10 [.int 0, .int 0, .int (-1), .int (-1), .int 0, .ref (s + 1), .ref (s + 2), .ref (s + 3), .ref (s + 4), .ref (s + 5), .ref (s + 6), .ref (s + 7), .ref (s + 8), .null, .null, .int 0, .int 0, .int 0, .int 0, .int 0, .int 0]) := by rw [ew_1, List.getElem?_set_ne (by omega)]; exact f0
  have hf1_low : LowK w0 w_1 s := LowK.mono f1 (fun k h8 h9 => by rw [ew_1, List.getElem?_set_ne (by omega)])
  have hf1__s___1_ : w_1[(s + 1)]? = some (mI 0 67 (fun _ => 0)) := by rw [ew_1, List.getElem?_set_ne (by omega)]; exact f2
  have hf1__s___2_ : w_1[(s + 2)]? = some (mI 0 67 (fun _ => 0)) := by rw [ew_1, List.getElem?_set_ne (by omega)]; exact f3
  have hf1__s___3_ : w_1[(s + 3)]? = some (mI 0 67 (fun _ => 0)) := by rw [ew_1, List.getElem?_set_ne (by omega)]; exact f4
  have hf1__s___4_ : w_1[(s + 4)]? = some (mI 0 67 (fun _ => 0)) := by rw [ew_1, List.getElem?_set_ne (by omega)]; exact f5
  have hf1__s___5_ : w_1[(s + 5)]? = some (mI 0 536 (fun _ => 0)) := by rw [ew_1, List.getElem?_set_ne (by omega)]; exact f6
  have hf1__s___6_ : w_1[(s + 6)]? = some (mI 0 60 (fun _ => 0)) := by rw [ew_1, List.getElem?_set_ne (by omega)]; exact f7
  have hf1__s___7_ : w_1[(s + 7)]? = some (mI 0 40 (fun _ => 0)) := by rw [ew_1, List.getElem?_set_ne (by omega)]; exact f8
  have hf1__s___8_ : w_1[(s + 8)]? = some (mI 0 8 (fun _ => 0)) := by rw [ew_1, List.getElem?_set_ne (by omega)]; exact f9
  have hf1__s___9_ : w_1[(s + 9)]? = some (mI 0 41 (wdP 10)) := by rw [ew_1]; exact List.getElem?_set_self (lt_of_get f10)
  refine cw_1 hC hf1__s___9_ (fun w_2 ew_2 => ?_)
  replace ew_2 : w_2 = (w_1).set ((s + 9)) (mI 0 41 (wdP 20)) := ew_2
  have hl_2 : w_2.length = (s + 10) := by rw [ew_2, List.length_set, hl_1]
  have hw_2 : mLowW w_2.length w_2 := by rw [hl_2, ew_2]; exact mLowW.set (by rw [← hl_1]; exact hw_1) trivial
  have hf2_s : w_2[s]? = some (mO 10 [.int 0, .int 0, .int (-1), .int (-1), .int 0, .ref (s + 1), .ref (s + 2), .ref (s + 3), .ref (s + 4), .ref (s + 5), .ref (s + 6), .ref (s + 7), .ref (s + 8), .null, .null, .int 0, .int 0, .int 0, .int 0, .int 0, .int 0]) := by rw [ew_2, List.getElem?_set_ne (by omega)]; exact hf1_s
  have hf2_low : LowK w0 w_2 s := LowK.mono hf1_low (fun k h8 h9 => by rw [ew_2, List.getElem?_set_ne (by omega)])
  have hf2__s___1_ : w_2[(s + 1)]? = some (mI 0 67 (fun _ => 0)) := by rw [ew_2, List.getElem?_set_ne (by omega)]; exact hf1__s___1_
  have hf2__s___2_ : w_2[(s + 2)]? = some (mI 0 67 (fun _ => 0)) := by rw [ew_2, List.getElem?_set_ne (by omega)]; exact hf1__s___2_
  have hf2__s___3_ : w_2[(s + 3)]? = some (mI 0 67 (fun _ => 0)) := by rw [ew_2, List.getElem?_set_ne (by omega)]; exact hf1__s___3_
  have hf2__s___4_ : w_2[(s + 4)]? = some (mI 0 67 (fun _ => 0)) := by rw [ew_2, List.getElem?_set_ne (by omega)]; exact hf1__s___4_
  have hf2__s___5_ : w_2[(s + 5)]? = some (mI 0 536 (fun _ => 0)) := by rw [ew_2, List.getElem?_set_ne (by omega)]; exact hf1__s___5_
  have hf2__s___6_ : w_2[(s + 6)]? = some (mI 0 60 (fun _ => 0)) := by rw [ew_2, List.getElem?_set_ne (by omega)]; exact hf1__s___6_
  have hf2__s___7_ : w_2[(s + 7)]? = some (mI 0 40 (fun _ => 0)) := by rw [ew_2, List.getElem?_set_ne (by omega)]; exact hf1__s___7_
  have hf2__s___8_ : w_2[(s + 8)]? = some (mI 0 8 (fun _ => 0)) := by rw [ew_2, List.getElem?_set_ne (by omega)]; exact hf1__s___8_
  have hf2__s___9_ : w_2[(s + 9)]? = some (mI 0 41 (wdP 20)) := by rw [ew_2]; exact List.getElem?_set_self (lt_of_get hf1__s___9_)
  refine cw_2 hC hf2__s___9_ (fun w_3 ew_3 => ?_)
  replace ew_3 : w_3 = (w_2).set ((s + 9)) (mI 0 41 (wdP 30)) := ew_3
  have hl_3 : w_3.length = (s + 10) := by rw [ew_3, List.length_set, hl_2]
  have hw_3 : mLowW w_3.length w_3 := by rw [hl_3, ew_3]; exact mLowW.set (by rw [← hl_2]; exact hw_2) trivial
  have hf3_s : w_3[s]? = some (mO 10 [.int 0, .int 0, .int (-1), .int (-1), .int 0, .ref (s + 1), .ref (s + 2), .ref (s + 3), .ref (s + 4), .ref (s + 5), .ref (s + 6), .ref (s + 7), .ref (s + 8), .null, .null, .int 0, .int 0, .int 0, .int 0, .int 0, .int 0]) := by rw [ew_3, List.getElem?_set_ne (by omega)]; exact hf2_s
  have hf3_low : LowK w0 w_3 s := LowK.mono hf2_low (fun k h8 h9 => by rw [ew_3, List.getElem?_set_ne (by omega)])
  have hf3__s___1_ : w_3[(s + 1)]? = some (mI 0 67 (fun _ => 0)) := by rw [ew_3, List.getElem?_set_ne (by omega)]; exact hf2__s___1_
  have hf3__s___2_ : w_3[(s + 2)]? = some (mI 0 67 (fun _ => 0)) := by rw [ew_3, List.getElem?_set_ne (by omega)]; exact hf2__s___2_
  have hf3__s___3_ : w_3[(s + 3)]? = some (mI 0 67 (fun _ => 0)) := by rw [ew_3, List.getElem?_set_ne (by omega)]; exact hf2__s___3_
  have hf3__s___4_ : w_3[(s + 4)]? = some (mI 0 67 (fun _ => 0)) := by rw [ew_3, List.getElem?_set_ne (by omega)]; exact hf2__s___4_
  have hf3__s___5_ : w_3[(s + 5)]? = some (mI 0 536 (fun _ => 0)) := by rw [ew_3, List.getElem?_set_ne (by omega)]; exact hf2__s___5_
  have hf3__s___6_ : w_3[(s + 6)]? = some (mI 0 60 (fun _ => 0)) := by rw [ew_3, List.getElem?_set_ne (by omega)]; exact hf2__s___6_
  have hf3__s___7_ : w_3[(s + 7)]? = some (mI 0 40 (fun _ => 0)) := by rw [ew_3, List.getElem?_set_ne (by omega)]; exact hf2__s___7_
  have hf3__s___8_ : w_3[(s + 8)]? = some (mI 0 8 (fun _ => 0)) := by rw [ew_3, List.getElem?_set_ne (by omega)]; exact hf2__s___8_
  have hf3__s___9_ : w_3[(s + 9)]? = some (mI 0 41 (wdP 30)) := by rw [ew_3]; exact List.getElem?_set_self (lt_of_get hf2__s___9_)
  refine cw_3 hC hf3__s___9_ (fun w_4 ew_4 => ?_)
  replace ew_4 : w_4 = (w_3).set ((s + 9)) (mI 0 41 (wdP 41)) := ew_4
  have hl_4 : w_4.length = (s + 10) := by rw [ew_4, List.length_set, hl_3]
  have hw_4 : mLowW w_4.length w_4 := by rw [hl_4, ew_4]; exact mLowW.set (by rw [← hl_3]; exact hw_3) trivial
  have hf4_s : w_4[s]? = some (mO 10 [.int 0, .int 0, .int (-1), .int (-1), .int 0, .ref (s + 1), .ref (s + 2), .ref (s + 3), .ref (s + 4), .ref (s + 5), .ref (s + 6), .ref (s + 7), .ref (s + 8), .null, .null, .int 0, .int 0, .int 0, .int 0, .int 0, .int 0]) := by rw [ew_4, List.getElem?_set_ne (by omega)]; exact hf3_s
  have hf4_low : LowK w0 w_4 s := LowK.mono hf3_low (fun k h8 h9 => by rw [ew_4, List.getElem?_set_ne (by omega)])
  have hf4__s___1_ : w_4[(s + 1)]? = some (mI 0 67 (fun _ => 0)) := by rw [ew_4, List.getElem?_set_ne (by omega)]; exact hf3__s___1_
  have hf4__s___2_ : w_4[(s + 2)]? = some (mI 0 67 (fun _ => 0)) := by rw [ew_4, List.getElem?_set_ne (by omega)]; exact hf3__s___2_
  have hf4__s___3_ : w_4[(s + 3)]? = some (mI 0 67 (fun _ => 0)) := by rw [ew_4, List.getElem?_set_ne (by omega)]; exact hf3__s___3_
  have hf4__s___4_ : w_4[(s + 4)]? = some (mI 0 67 (fun _ => 0)) := by rw [ew_4, List.getElem?_set_ne (by omega)]; exact hf3__s___4_
  have hf4__s___5_ : w_4[(s + 5)]? = some (mI 0 536 (fun _ => 0)) := by rw [ew_4, List.getElem?_set_ne (by omega)]; exact hf3__s___5_
  have hf4__s___6_ : w_4[(s + 6)]? = some (mI 0 60 (fun _ => 0)) := by rw [ew_4, List.getElem?_set_ne (by omega)]; exact hf3__s___6_
  have hf4__s___7_ : w_4[(s + 7)]? = some (mI 0 40 (fun _ => 0)) := by rw [ew_4, List.getElem?_set_ne (by omega)]; exact hf3__s___7_
  have hf4__s___8_ : w_4[(s + 8)]? = some (mI 0 8 (fun _ => 0)) := by rw [ew_4, List.getElem?_set_ne (by omega)]; exact hf3__s___8_
  have hf4__s___9_ : w_4[(s + 9)]? = some (mI 0 41 (wdP 41)) := by rw [ew_4]; exact List.getElem?_set_self (lt_of_get hf3__s___9_)
  
  exact kk X w_4 hB hl_4 hw_4 hf4_s hf4_low hf4__s___1_ hf4__s___2_ hf4__s___3_ hf4__s___4_ hf4__s___5_ hf4__s___6_ hf4__s___7_ hf4__s___8_ hf4__s___9_
set_option maxRecDepth 100000 in
set_option maxHeartbeats 4000000 in
theorem mx_12 {X : mC} {d s n0 k n : Nat} {w0 w : mW}  (hmax : s < 900000) (h0 : w0.length = s + 1) (hn0 : n0 = w0.length) (hB : NB X RX9 cX9_init d 10 962 1 n0 (fun v w9 => v = none ∧ Gn w0 w9 s 10 ∧ MdAt w9 s 0 sv0 [] (-1) (-1) none (fun _ => 0) 0 (fun _ => 0) 0) none "<init>") (hl_0 : w.length = (s + 10)) (hw_0 : mLowW w.length w) (f0 : w[s]? = some (mO 10 [.int 0, .int 0, .int (-1), .int (-1), .int 0, .ref (s + 1), .ref (s + 2), .ref (s + 3), .ref (s + 4), .ref (s + 5), .ref (s + 6), .ref (s + 7), .ref (s + 8), .null, .null, .int 0, .int 0, .int 0, .int 0, .int 0, .int 0])) (f1 : LowK w0 w s) (f2 : w[(s + 1)]? = some (mI 0 67 (fun _ => 0))) (f3 : w[(s + 2)]? = some (mI 0 67 (fun _ => 0))) (f4 : w[(s + 3)]? = some (mI 0 67 (fun _ => 0))) (f5 : w[(s + 4)]? = some (mI 0 67 (fun _ => 0))) (f6 : w[(s + 5)]? = some (mI 0 536 (fun _ => 0))) (f7 : w[(s + 6)]? = some (mI 0 60 (fun _ => 0))) (f8 : w[(s + 7)]? = some (mI 0 40 (fun _ => 0))) (f9 : w[(s + 8)]? = some (mI 0 8 (fun _ => 0))) (f10 : w[(s + 9)]? = some (mI 0 41 (wdP 41)))  (hk9 : (k + 1) ≤ 10) (hn9 : (n + 9) ≤ 962) (kk : ∀ (X : mC) (w' : mW), NB X RX9 cX9_init d 10 962 1 n0 (fun v w9 => v = none ∧ Gn w0 w9 s 10 ∧ MdAt w9 s 0 sv0 [] (-1) (-1) none (fun _ => 0) 0 (fun _ => 0) 0) none "<init>" → w'.length = (s + 11) → mLowW w'.length w' → w'[s]? = some (mO 10 [.int 0, .int 0, .int (-1), .int (-1), .int 0, .ref (s + 1), .ref (s + 2), .ref (s + 3), .ref (s + 4), .ref (s + 5), .ref (s + 6), .ref (s + 7), .ref (s + 8), .ref (s + 9), .null, .int 0, .int 0, .int 0, .int 0, .int 0, .int 0]) → LowK w0 w' s → w'[(s + 1)]? = some (mI 0 67 (fun _ => 0)) → w'[(s + 2)]? = some (mI 0 67 (fun _ => 0)) → w'[(s + 3)]? = some (mI 0 67 (fun _ => 0)) → w'[(s + 4)]? = some (mI 0 67 (fun _ => 0)) → w'[(s + 5)]? = some (mI 0 536 (fun _ => 0)) → w'[(s + 6)]? = some (mI 0 60 (fun _ => 0)) → w'[(s + 7)]? = some (mI 0 40 (fun _ => 0)) → w'[(s + 8)]? = some (mI 0 8 (fun _ => 0)) → w'[(s + 9)]? = some (mI 0 41 (wdP 41)) → w'[(s + 10)]? = some (mI 0 9 (fun _ => 0)) → Wp X (k + 1) (n + 9) w' [(0, .ref s)] [.ref (s + 10), .ref s] 332) : Wp X k n w [(0, .ref s)] [.ref (s + 9), .ref s] 324 := by
  obtain ⟨hC, hnl, hE, hR, hN, hNm⟩ := id hB
  refine n_putI' hC hNm pX9_init_324 f0 (Nat.le_of_ble_eq_true rfl) (fun _ => rfl) (fun _ => rfl) (fun w_1 ew_1 => ?_)
  replace ew_1 : w_1 = (w).set (s) (mO 10 [.int 0, .int 0, .int (-1), .int (-1), .int 0, .ref (s + 1), .ref (s + 2), .ref (s + 3), .ref (s + 4), .ref (s + 5), .ref (s + 6), .ref (s + 7), .ref (s + 8), .ref (s + 9), .null, .int 0, .int 0, .int 0, .int 0, .int 0, .int 0]) := ew_1
  have hl_1 : w_1.length = (s + 10) := by rw [ew_1, List.length_set, hl_0]
  have hw_1 : mLowW w_1.length w_1 := by rw [hl_1, ew_1]; exact mLowW.set (by rw [← hl_0]; exact hw_0) ⟨trivial, trivial, trivial, trivial, trivial, (Or.inl (show (s + 1) < (s + 10) by omega)), (Or.inl (show (s + 2) < (s + 10) by omega)), (Or.inl (show (s + 3) < (s + 10) by omega)), (Or.inl (show (s + 4) < (s + 10) by omega)), (Or.inl (show (s + 5) < (s + 10) by omega)), (Or.inl (show (s + 6) < (s + 10) by omega)), (Or.inl (show (s + 7) < (s + 10) by omega)), (Or.inl (show (s + 8) < (s + 10) by omega)), (Or.inl (show (s + 9) < (s + 10) by omega)), trivial, trivial, trivial, trivial, trivial, trivial, trivial, trivial⟩
  have hf1_s : w_1[s]? = some (mO 10 [.int 0, .int 0, .int (-1), .int (-1), .int 0, .ref (s + 1), .ref (s + 2), .ref (s + 3), .ref (s + 4), .ref (s + 5), .ref (s + 6), .ref (s + 7), .ref (s + 8), .ref (s + 9), .null, .int 0, .int 0, .int 0, .int 0, .int 0, .int 0]) := by rw [ew_1]; exact List.getElem?_set_self (lt_of_get f0)
  have hf1_low : LowK w0 w_1 s := LowK.mono f1 (fun k h8 h9 => by rw [ew_1, List.getElem?_set_ne (by omega)])
  have hf1__s___1_ : w_1[(s + 1)]? = some (mI 0 67 (fun _ => 0)) := by rw [ew_1, List.getElem?_set_ne (by omega)]; exact f2
  have hf1__s___2_ : w_1[(s + 2)]? = some (mI 0 67 (fun _ => 0)) := by rw [ew_1, List.getElem?_set_ne (by omega)]; exact f3
  have hf1__s___3_ : w_1[(s + 3)]? = some (mI 0 67 (fun _ => 0)) := by rw [ew_1, List.getElem?_set_ne (by omega)]; exact f4
  have hf1__s___4_ : w_1[(s + 4)]? = some (mI 0 67 (fun _ => 0)) := by rw [ew_1, List.getElem?_set_ne (by omega)]; exact f5
  have hf1__s___5_ : w_1[(s + 5)]? = some (mI 0 536 (fun _ => 0)) := by rw [ew_1, List.getElem?_set_ne (by omega)]; exact f6
  have hf1__s___6_ : w_1[(s + 6)]? = some (mI 0 60 (fun _ => 0)) := by rw [ew_1, List.getElem?_set_ne (by omega)]; exact f7
  have hf1__s___7_ : w_1[(s + 7)]? = some (mI 0 40 (fun _ => 0)) := by rw [ew_1, List.getElem?_set_ne (by omega)]; exact f8
  have hf1__s___8_ : w_1[(s + 8)]? = some (mI 0 8 (fun _ => 0)) := by rw [ew_1, List.getElem?_set_ne (by omega)]; exact f9
  have hf1__s___9_ : w_1[(s + 9)]? = some (mI 0 41 (wdP 41)) := by rw [ew_1, List.getElem?_set_ne (by omega)]; exact f10
  refine r_aload_n hC dX9_init_327 rfl (j := 0) rfl ?_
  refine r_bipush hC dX9_init_328 (v := 9) (by decide) ?_
  refine n_newa hC (atype := .int) (ty := .int) (t := 0) (N := 9) (a0 := (9, .inl (fun _ => 0))) ac_int rfl (fun _ => rfl) (fun _ => rfl) (fun _ => rfl) (by decide) (by decide) (by decide) dX9_init_330 hw_1 (by rw [hl_1]; omega) (by omega) (by omega) ⟨(Or.inl (show s < w_1.length by omega)), trivial⟩ ⟨(Or.inl (show s < w_1.length by omega)), trivial⟩ (fun X hT => ?_)
  have hB := hB.tie hT (by rw [hl_1]; omega)
  clear hT
  obtain ⟨hC, hnl, hE, hR, hN, hNm⟩ := id hB
  obtain ⟨w_2, ew_2⟩ : ∃ z, z = w_1 ++ [(mI 0 9 (fun _ => 0))] := ⟨_, rfl⟩
  have hl_2 : w_2.length = (s + 11) := by rw [ew_2, List.length_append, hl_1]; rfl
  have hw_2 : mLowW w_2.length w_2 := by rw [hl_2, ew_2]; exact (mLowW.mono (by rw [hl_1]; omega) hw_1).app (mLowW.cons trivial mLowW.nil)
  have hf2_s : w_2[s]? = some (mO 10 [.int 0, .int 0, .int (-1), .int (-1), .int 0, .ref (s + 1), .ref (s + 2), .ref (s + 3), .ref (s + 4), .ref (s + 5), .ref (s + 6), .ref (s + 7), .ref (s + 8), .ref (s + 9), .null, .int 0, .int 0, .int 0, .int 0, .int 0, .int 0]) := by rw [ew_2, List.getElem?_append_left (lt_of_get hf1_s)]; exact hf1_s
  have hf2_low : LowK w0 w_2 s := LowK.mono hf1_low (fun k h8 h9 => by rw [ew_2, List.getElem?_append_left (by rw [hl_1]; omega)])
  have hf2__s___1_ : w_2[(s + 1)]? = some (mI 0 67 (fun _ => 0)) := by rw [ew_2, List.getElem?_append_left (lt_of_get hf1__s___1_)]; exact hf1__s___1_
  have hf2__s___2_ : w_2[(s + 2)]? = some (mI 0 67 (fun _ => 0)) := by rw [ew_2, List.getElem?_append_left (lt_of_get hf1__s___2_)]; exact hf1__s___2_
  have hf2__s___3_ : w_2[(s + 3)]? = some (mI 0 67 (fun _ => 0)) := by rw [ew_2, List.getElem?_append_left (lt_of_get hf1__s___3_)]; exact hf1__s___3_
  have hf2__s___4_ : w_2[(s + 4)]? = some (mI 0 67 (fun _ => 0)) := by rw [ew_2, List.getElem?_append_left (lt_of_get hf1__s___4_)]; exact hf1__s___4_
  have hf2__s___5_ : w_2[(s + 5)]? = some (mI 0 536 (fun _ => 0)) := by rw [ew_2, List.getElem?_append_left (lt_of_get hf1__s___5_)]; exact hf1__s___5_
  have hf2__s___6_ : w_2[(s + 6)]? = some (mI 0 60 (fun _ => 0)) := by rw [ew_2, List.getElem?_append_left (lt_of_get hf1__s___6_)]; exact hf1__s___6_
  have hf2__s___7_ : w_2[(s + 7)]? = some (mI 0 40 (fun _ => 0)) := by rw [ew_2, List.getElem?_append_left (lt_of_get hf1__s___7_)]; exact hf1__s___7_
  have hf2__s___8_ : w_2[(s + 8)]? = some (mI 0 8 (fun _ => 0)) := by rw [ew_2, List.getElem?_append_left (lt_of_get hf1__s___8_)]; exact hf1__s___8_
  have hf2__s___9_ : w_2[(s + 9)]? = some (mI 0 41 (wdP 41)) := by rw [ew_2, List.getElem?_append_left (lt_of_get hf1__s___9_)]; exact hf1__s___9_
  have hf2__s___10_ : w_2[(s + 10)]? = some (mI 0 9 (fun _ => 0)) := by rw [ew_2, List.getElem?_append_right (by rw [hl_1]; exact Nat.le_refl _), hl_1, Nat.sub_self]; rfl
  rw [← ew_2, hl_1]
  show Wp X (k + 1) (n + 9) w_2 [(0, .ref s)] [.ref (s + 10), .ref s] _
  
  exact kk X w_2 hB hl_2 hw_2 hf2_s hf2_low hf2__s___1_ hf2__s___2_ hf2__s___3_ hf2__s___4_ hf2__s___5_ hf2__s___6_ hf2__s___7_ hf2__s___8_ hf2__s___9_ hf2__s___10_
set_option maxRecDepth 100000 in
set_option maxHeartbeats 4000000 in
theorem mx_13 {X : mC} {d s n0 k n : Nat} {w0 w : mW}  (hmax : s < 900000) (h0 : w0.length = s + 1) (hn0 : n0 = w0.length) (hB : NB X RX9 cX9_init d 10 962 1 n0 (fun v w9 => v = none ∧ Gn w0 w9 s 10 ∧ MdAt w9 s 0 sv0 [] (-1) (-1) none (fun _ => 0) 0 (fun _ => 0) 0) none "<init>") (hl_0 : w.length = (s + 11)) (hw_0 : mLowW w.length w) (f0 : w[s]? = some (mO 10 [.int 0, .int 0, .int (-1), .int (-1), .int 0, .ref (s + 1), .ref (s + 2), .ref (s + 3), .ref (s + 4), .ref (s + 5), .ref (s + 6), .ref (s + 7), .ref (s + 8), .ref (s + 9), .null, .int 0, .int 0, .int 0, .int 0, .int 0, .int 0])) (f1 : LowK w0 w s) (f2 : w[(s + 1)]? = some (mI 0 67 (fun _ => 0))) (f3 : w[(s + 2)]? = some (mI 0 67 (fun _ => 0))) (f4 : w[(s + 3)]? = some (mI 0 67 (fun _ => 0))) (f5 : w[(s + 4)]? = some (mI 0 67 (fun _ => 0))) (f6 : w[(s + 5)]? = some (mI 0 536 (fun _ => 0))) (f7 : w[(s + 6)]? = some (mI 0 60 (fun _ => 0))) (f8 : w[(s + 7)]? = some (mI 0 40 (fun _ => 0))) (f9 : w[(s + 8)]? = some (mI 0 8 (fun _ => 0))) (f10 : w[(s + 9)]? = some (mI 0 41 (wdP 41))) (f11 : w[(s + 10)]? = some (mI 0 9 (fun _ => 0)))  (hk9 : k ≤ 10) (hn9 : n ≤ 962) (kk : ∀ (X : mC) (w' : mW), NB X RX9 cX9_init d 10 962 1 n0 (fun v w9 => v = none ∧ Gn w0 w9 s 10 ∧ MdAt w9 s 0 sv0 [] (-1) (-1) none (fun _ => 0) 0 (fun _ => 0) 0) none "<init>" → w'.length = (s + 11) → mLowW w'.length w' → w'[s]? = some (mO 10 [.int 0, .int 0, .int (-1), .int (-1), .int 0, .ref (s + 1), .ref (s + 2), .ref (s + 3), .ref (s + 4), .ref (s + 5), .ref (s + 6), .ref (s + 7), .ref (s + 8), .ref (s + 9), .null, .int 0, .int 0, .int 0, .int 0, .int 0, .int 0]) → LowK w0 w' s → w'[(s + 1)]? = some (mI 0 67 (fun _ => 0)) → w'[(s + 2)]? = some (mI 0 67 (fun _ => 0)) → w'[(s + 3)]? = some (mI 0 67 (fun _ => 0)) → w'[(s + 4)]? = some (mI 0 67 (fun _ => 0)) → w'[(s + 5)]? = some (mI 0 536 (fun _ => 0)) → w'[(s + 6)]? = some (mI 0 60 (fun _ => 0)) → w'[(s + 7)]? = some (mI 0 40 (fun _ => 0)) → w'[(s + 8)]? = some (mI 0 8 (fun _ => 0)) → w'[(s + 9)]? = some (mI 0 41 (wdP 41)) → w'[(s + 10)]? = some (mI 0 9 (waP 9)) → Wp X k n w' [(0, .ref s)] [.ref (s + 10), .ref s] 379) : Wp X k n w [(0, .ref s)] [.ref (s + 10), .ref s] 332 := by
  obtain ⟨hC, hnl, hE, hR, hN, hNm⟩ := id hB
  rw [← waP_0] at f11
  refine cv_0 hC f11 (fun w_1 ew_1 => ?_)
  replace ew_1 : w_1 = (w).set ((s + 10)) (mI 0 9 (waP 9)) := ew_1
  have hl_1 : w_1.length = (s + 11) := by rw [ew_1, List.length_set, hl_0]
  have hw_1 : mLowW w_1.length w_1 := by rw [hl_1, ew_1]; exact mLowW.set (by rw [← hl_0]; exact hw_0) trivial
  have hf1_s : w_1[s]? = some (mO 10 [.int 0, .int 0, .int (-1), .int (-1), .int 0, .ref (s + 1), .ref (s + 2), .ref (s + 3), .ref (s + 4), .ref (s + 5), .ref (s + 6), .ref (s + 7), .ref (s + 8), .ref (s + 9), .null, .int 0, .int 0, .int 0, .int 0, .int 0, .int 0]) := by rw [ew_1, List.getElem?_set_ne (by omega)]; exact f0
  have hf1_low : LowK w0 w_1 s := LowK.mono f1 (fun k h8 h9 => by rw [ew_1, List.getElem?_set_ne (by omega)])
  have hf1__s___1_ : w_1[(s + 1)]? = some (mI 0 67 (fun _ => 0)) := by rw [ew_1, List.getElem?_set_ne (by omega)]; exact f2
  have hf1__s___2_ : w_1[(s + 2)]? = some (mI 0 67 (fun _ => 0)) := by rw [ew_1, List.getElem?_set_ne (by omega)]; exact f3
  have hf1__s___3_ : w_1[(s + 3)]? = some (mI 0 67 (fun _ => 0)) := by rw [ew_1, List.getElem?_set_ne (by omega)]; exact f4
  have hf1__s___4_ : w_1[(s + 4)]? = some (mI 0 67 (fun _ => 0)) := by rw [ew_1, List.getElem?_set_ne (by omega)]; exact f5
  have hf1__s___5_ : w_1[(s + 5)]? = some (mI 0 536 (fun _ => 0)) := by rw [ew_1, List.getElem?_set_ne (by omega)]; exact f6
  have hf1__s___6_ : w_1[(s + 6)]? = some (mI 0 60 (fun _ => 0)) := by rw [ew_1, List.getElem?_set_ne (by omega)]; exact f7
  have hf1__s___7_ : w_1[(s + 7)]? = some (mI 0 40 (fun _ => 0)) := by rw [ew_1, List.getElem?_set_ne (by omega)]; exact f8
  have hf1__s___8_ : w_1[(s + 8)]? = some (mI 0 8 (fun _ => 0)) := by rw [ew_1, List.getElem?_set_ne (by omega)]; exact f9
  have hf1__s___9_ : w_1[(s + 9)]? = some (mI 0 41 (wdP 41)) := by rw [ew_1, List.getElem?_set_ne (by omega)]; exact f10
  have hf1__s___10_ : w_1[(s + 10)]? = some (mI 0 9 (waP 9)) := by rw [ew_1]; exact List.getElem?_set_self (lt_of_get f11)
  
  exact kk X w_1 hB hl_1 hw_1 hf1_s hf1_low hf1__s___1_ hf1__s___2_ hf1__s___3_ hf1__s___4_ hf1__s___5_ hf1__s___6_ hf1__s___7_ hf1__s___8_ hf1__s___9_ hf1__s___10_
set_option maxRecDepth 100000 in
set_option maxHeartbeats 4000000 in
theorem mx_14 {X : mC} {d s n0 k n : Nat} {w0 w : mW}  (hmax : s < 900000) (h0 : w0.length = s + 1) (hn0 : n0 = w0.length) (hB : NB X RX9 cX9_init d 10 962 1 n0 (fun v w9 => v = none ∧ Gn w0 w9 s 10 ∧ MdAt w9 s 0 sv0 [] (-1) (-1) none (fun _ => 0) 0 (fun _ => 0) 0) none "<init>") (hl_0 : w.length = (s + 11)) (hw_0 : mLowW w.length w) (f0 : w[s]? = some (mO 10 [.int 0, .int 0, .int (-1), .int (-1), .int 0, .ref (s + 1), .ref (s + 2), .ref (s + 3), .ref (s + 4), .ref (s + 5), .ref (s + 6), .ref (s + 7), .ref (s + 8), .ref (s + 9), .null, .int 0, .int 0, .int 0, .int 0, .int 0, .int 0])) (f1 : LowK w0 w s) (f2 : w[(s + 1)]? = some (mI 0 67 (fun _ => 0))) (f3 : w[(s + 2)]? = some (mI 0 67 (fun _ => 0))) (f4 : w[(s + 3)]? = some (mI 0 67 (fun _ => 0))) (f5 : w[(s + 4)]? = some (mI 0 67 (fun _ => 0))) (f6 : w[(s + 5)]? = some (mI 0 536 (fun _ => 0))) (f7 : w[(s + 6)]? = some (mI 0 60 (fun _ => 0))) (f8 : w[(s + 7)]? = some (mI 0 40 (fun _ => 0))) (f9 : w[(s + 8)]? = some (mI 0 8 (fun _ => 0))) (f10 : w[(s + 9)]? = some (mI 0 41 (wdP 41))) (f11 : w[(s + 10)]? = some (mI 0 9 (waP 9)))  (hk9 : k ≤ 10) (hn9 : n ≤ 962) (kk : ∀ (X : mC) (w' : mW), NB X RX9 cX9_init d 10 962 1 n0 (fun v w9 => v = none ∧ Gn w0 w9 s 10 ∧ MdAt w9 s 0 sv0 [] (-1) (-1) none (fun _ => 0) 0 (fun _ => 0) 0) none "<init>" → w'.length = (s + 11) → mLowW w'.length w' → w'[s]? = some (mO 10 [.int 0, .int 0, .int (-1), .int (-1), .int 0, .ref (s + 1), .ref (s + 2), .ref (s + 3), .ref (s + 4), .ref (s + 5), .ref (s + 6), .ref (s + 7), .ref (s + 8), .ref (s + 9), .ref (s + 10), .int 0, .int 0, .int 0, .int 0, .int 0, .int 0]) → LowK w0 w' s → w'[(s + 1)]? = some (mI 0 67 (upd (fun _ => 0) 1 3)) → w'[(s + 2)]? = some (mI 0 67 (fun _ => 0)) → w'[(s + 3)]? = some (mI 0 67 (fun _ => 0)) → w'[(s + 4)]? = some (mI 0 67 (fun _ => 0)) → w'[(s + 5)]? = some (mI 0 536 (fun _ => 0)) → w'[(s + 6)]? = some (mI 0 60 (fun _ => 0)) → w'[(s + 7)]? = some (mI 0 40 (fun _ => 0)) → w'[(s + 8)]? = some (mI 0 8 (fun _ => 0)) → w'[(s + 9)]? = some (mI 0 41 (wdP 41)) → w'[(s + 10)]? = some (mI 0 9 (waP 9)) → Wp X k n w' [(0, .ref s)] [] 389) : Wp X k n w [(0, .ref s)] [.ref (s + 10), .ref s] 379 := by
  obtain ⟨hC, hnl, hE, hR, hN, hNm⟩ := id hB
  refine n_putI' hC hNm pX9_init_379 f0 (Nat.le_of_ble_eq_true rfl) (fun _ => rfl) (fun _ => rfl) (fun w_1 ew_1 => ?_)
  replace ew_1 : w_1 = (w).set (s) (mO 10 [.int 0, .int 0, .int (-1), .int (-1), .int 0, .ref (s + 1), .ref (s + 2), .ref (s + 3), .ref (s + 4), .ref (s + 5), .ref (s + 6), .ref (s + 7), .ref (s + 8), .ref (s + 9), .ref (s + 10), .int 0, .int 0, .int 0, .int 0, .int 0, .int 0]) := ew_1
  have hl_1 : w_1.length = (s + 11) := by rw [ew_1, List.length_set, hl_0]
  have hw_1 : mLowW w_1.length w_1 := by rw [hl_1, ew_1]; exact mLowW.set (by rw [← hl_0]; exact hw_0) ⟨trivial, trivial, trivial, trivial, trivial, (Or.inl (show (s + 1) < (s + 11) by omega)), (Or.inl (show (s + 2) < (s + 11) by omega)), (Or.inl (show (s + 3) < (s + 11) by omega)), (Or.inl (show (s + 4) < (s + 11) by omega)), (Or.inl (show (s + 5) < (s + 11) by omega)), (Or.inl (show (s + 6) < (s + 11) by omega)), (Or.inl (show (s + 7) < (s + 11) by omega)), (Or.inl (show (s + 8) < (s + 11) by omega)), (Or.inl (show (s + 9) < (s + 11) by omega)), (Or.inl (show (s + 10) < (s + 11) by omega)), trivial, trivial, trivial, trivial, trivial, trivial, trivial⟩
  have hf1_s : w_1[s]? = some (mO 10 [.int 0, .int 0, .int (-1), .int (-1), .int 0, .ref (s + 1), .ref (s + 2), .ref (s + 3), .ref (s + 4), .ref (s + 5), .ref (s + 6), .ref (s + 7), .ref (s + 8), .ref (s + 9), .ref (s + 10), .int 0, .int 0, .int 0, .int 0, .int 0, .int 0]) := by rw [ew_1]; exact List.getElem?_set_self (lt_of_get f0)
  have hf1_low : LowK w0 w_1 s := LowK.mono f1 (fun k h8 h9 => by rw [ew_1, List.getElem?_set_ne (by omega)])
  have hf1__s___1_ : w_1[(s + 1)]? = some (mI 0 67 (fun _ => 0)) := by rw [ew_1, List.getElem?_set_ne (by omega)]; exact f2
  have hf1__s___2_ : w_1[(s + 2)]? = some (mI 0 67 (fun _ => 0)) := by rw [ew_1, List.getElem?_set_ne (by omega)]; exact f3
  have hf1__s___3_ : w_1[(s + 3)]? = some (mI 0 67 (fun _ => 0)) := by rw [ew_1, List.getElem?_set_ne (by omega)]; exact f4
  have hf1__s___4_ : w_1[(s + 4)]? = some (mI 0 67 (fun _ => 0)) := by rw [ew_1, List.getElem?_set_ne (by omega)]; exact f5
  have hf1__s___5_ : w_1[(s + 5)]? = some (mI 0 536 (fun _ => 0)) := by rw [ew_1, List.getElem?_set_ne (by omega)]; exact f6
  have hf1__s___6_ : w_1[(s + 6)]? = some (mI 0 60 (fun _ => 0)) := by rw [ew_1, List.getElem?_set_ne (by omega)]; exact f7
  have hf1__s___7_ : w_1[(s + 7)]? = some (mI 0 40 (fun _ => 0)) := by rw [ew_1, List.getElem?_set_ne (by omega)]; exact f8
  have hf1__s___8_ : w_1[(s + 8)]? = some (mI 0 8 (fun _ => 0)) := by rw [ew_1, List.getElem?_set_ne (by omega)]; exact f9
  have hf1__s___9_ : w_1[(s + 9)]? = some (mI 0 41 (wdP 41)) := by rw [ew_1, List.getElem?_set_ne (by omega)]; exact f10
  have hf1__s___10_ : w_1[(s + 10)]? = some (mI 0 9 (waP 9)) := by rw [ew_1, List.getElem?_set_ne (by omega)]; exact f11
  refine r_aload_n hC dX9_init_382 rfl (j := 0) rfl ?_
  refine r_get hC gX9_init_383 hf1_s (v := .ref (s + 1)) rfl ?_
  refine r_iconst hC dX9_init_386 (v := 1) (by decide) ?_
  refine r_iconst hC dX9_init_387 (v := 3) (by decide) ?_
  refine r_iast' hC dX9_init_388 (j := 1) hf1__s___1_ ⟨by decide, by decide, by decide⟩ (fun w_2 ew_2 => ?_)
  replace ew_2 : w_2 = (w_1).set ((s + 1)) (mI 0 67 (upd (fun _ => 0) 1 3)) := ew_2
  have hl_2 : w_2.length = (s + 11) := by rw [ew_2, List.length_set, hl_1]
  have hw_2 : mLowW w_2.length w_2 := by rw [hl_2, ew_2]; exact mLowW.set (by rw [← hl_1]; exact hw_1) trivial
  have hf2_s : w_2[s]? = some (mO 10 [.int 0, .int 0, .int (-1), .int (-1), .int 0, .ref (s + 1), .ref (s + 2), .ref (s + 3), .ref (s + 4), .ref (s + 5), .ref (s + 6), .ref (s + 7), .ref (s + 8), .ref (s + 9), .ref (s + 10), .int 0, .int 0, .int 0, .int 0, .int 0, .int 0]) := by rw [ew_2, List.getElem?_set_ne (by omega)]; exact hf1_s
  have hf2_low : LowK w0 w_2 s := LowK.mono hf1_low (fun k h8 h9 => by rw [ew_2, List.getElem?_set_ne (by omega)])
  have hf2__s___1_ : w_2[(s + 1)]? = some (mI 0 67 (upd (fun _ => 0) 1 3)) := by rw [ew_2]; exact List.getElem?_set_self (lt_of_get hf1__s___1_)
  have hf2__s___2_ : w_2[(s + 2)]? = some (mI 0 67 (fun _ => 0)) := by rw [ew_2, List.getElem?_set_ne (by omega)]; exact hf1__s___2_
  have hf2__s___3_ : w_2[(s + 3)]? = some (mI 0 67 (fun _ => 0)) := by rw [ew_2, List.getElem?_set_ne (by omega)]; exact hf1__s___3_
  have hf2__s___4_ : w_2[(s + 4)]? = some (mI 0 67 (fun _ => 0)) := by rw [ew_2, List.getElem?_set_ne (by omega)]; exact hf1__s___4_
  have hf2__s___5_ : w_2[(s + 5)]? = some (mI 0 536 (fun _ => 0)) := by rw [ew_2, List.getElem?_set_ne (by omega)]; exact hf1__s___5_
  have hf2__s___6_ : w_2[(s + 6)]? = some (mI 0 60 (fun _ => 0)) := by rw [ew_2, List.getElem?_set_ne (by omega)]; exact hf1__s___6_
  have hf2__s___7_ : w_2[(s + 7)]? = some (mI 0 40 (fun _ => 0)) := by rw [ew_2, List.getElem?_set_ne (by omega)]; exact hf1__s___7_
  have hf2__s___8_ : w_2[(s + 8)]? = some (mI 0 8 (fun _ => 0)) := by rw [ew_2, List.getElem?_set_ne (by omega)]; exact hf1__s___8_
  have hf2__s___9_ : w_2[(s + 9)]? = some (mI 0 41 (wdP 41)) := by rw [ew_2, List.getElem?_set_ne (by omega)]; exact hf1__s___9_
  have hf2__s___10_ : w_2[(s + 10)]? = some (mI 0 9 (waP 9)) := by rw [ew_2, List.getElem?_set_ne (by omega)]; exact hf1__s___10_
  
  exact kk X w_2 hB hl_2 hw_2 hf2_s hf2_low hf2__s___1_ hf2__s___2_ hf2__s___3_ hf2__s___4_ hf2__s___5_ hf2__s___6_ hf2__s___7_ hf2__s___8_ hf2__s___9_ hf2__s___10_
set_option maxRecDepth 100000 in
set_option maxHeartbeats 4000000 in
theorem mx_end {X : mC} {d s n0 k n : Nat} {w0 w : mW} (hmax : s < 900000) (h0 : w0.length = s + 1) (hn0 : n0 = w0.length) (hB : NB X RX9 cX9_init d 10 962 1 n0 (fun v w9 => v = none ∧ Gn w0 w9 s 10 ∧ MdAt w9 s 0 sv0 [] (-1) (-1) none (fun _ => 0) 0 (fun _ => 0) 0) none "<init>") (hl_0 : w.length = (s + 11)) (hw_0 : mLowW w.length w) (f0 : w[s]? = some (mO 10 [.int 0, .int 0, .int (-1), .int (-1), .int 0, .ref (s + 1), .ref (s + 2), .ref (s + 3), .ref (s + 4), .ref (s + 5), .ref (s + 6), .ref (s + 7), .ref (s + 8), .ref (s + 9), .ref (s + 10), .int 0, .int 0, .int 0, .int 0, .int 0, .int 0])) (f1 : LowK w0 w s) (f2 : w[(s + 1)]? = some (mI 0 67 (upd (fun _ => 0) 1 3))) (f3 : w[(s + 2)]? = some (mI 0 67 (fun _ => 0))) (f4 : w[(s + 3)]? = some (mI 0 67 (fun _ => 0))) (f5 : w[(s + 4)]? = some (mI 0 67 (fun _ => 0))) (f6 : w[(s + 5)]? = some (mI 0 536 (fun _ => 0))) (f7 : w[(s + 6)]? = some (mI 0 60 (fun _ => 0))) (f8 : w[(s + 7)]? = some (mI 0 40 (fun _ => 0))) (f9 : w[(s + 8)]? = some (mI 0 8 (fun _ => 0))) (f10 : w[(s + 9)]? = some (mI 0 41 (wdP 41))) (f11 : w[(s + 10)]? = some (mI 0 9 (waP 9))) (hk9 : k + 0 ≤ 10) (hn9 : n + 0 ≤ 962) : Wp X k n w [(0, .ref s)] [] 389 := by
  obtain ⟨hC, hnl, hE, hR, hN, hNm⟩ := id hB
  refine r_arrEq f2 enc0 ?_
  obtain ⟨w_1, ew_1⟩ : ∃ z, z = w.set (s + 1) (mI 0 67 (enc sv0)) := ⟨_, rfl⟩
  rw [← ew_1]
  replace ew_1 : w_1 = (w).set ((s + 1)) (mI 0 67 (enc sv0)) := ew_1
  have hl_1 : w_1.length = (s + 11) := by rw [ew_1, List.length_set, hl_0]
  have hw_1 : mLowW w_1.length w_1 := by rw [hl_1, ew_1]; exact mLowW.set (by rw [← hl_0]; exact hw_0) trivial
  have hf1_s : w_1[s]? = some (mO 10 [.int 0, .int 0, .int (-1), .int (-1), .int 0, .ref (s + 1), .ref (s + 2), .ref (s + 3), .ref (s + 4), .ref (s + 5), .ref (s + 6), .ref (s + 7), .ref (s + 8), .ref (s + 9), .ref (s + 10), .int 0, .int 0, .int 0, .int 0, .int 0, .int 0]) := by rw [ew_1, List.getElem?_set_ne (by omega)]; exact f0
  have hf1_low : LowK w0 w_1 s := LowK.mono f1 (fun k h8 h9 => by rw [ew_1, List.getElem?_set_ne (by omega)])
  have hf1__s___1_ : w_1[(s + 1)]? = some (mI 0 67 (enc sv0)) := by rw [ew_1]; exact List.getElem?_set_self (lt_of_get f2)
  have hf1__s___2_ : w_1[(s + 2)]? = some (mI 0 67 (fun _ => 0)) := by rw [ew_1, List.getElem?_set_ne (by omega)]; exact f3
  have hf1__s___3_ : w_1[(s + 3)]? = some (mI 0 67 (fun _ => 0)) := by rw [ew_1, List.getElem?_set_ne (by omega)]; exact f4
  have hf1__s___4_ : w_1[(s + 4)]? = some (mI 0 67 (fun _ => 0)) := by rw [ew_1, List.getElem?_set_ne (by omega)]; exact f5
  have hf1__s___5_ : w_1[(s + 5)]? = some (mI 0 536 (fun _ => 0)) := by rw [ew_1, List.getElem?_set_ne (by omega)]; exact f6
  have hf1__s___6_ : w_1[(s + 6)]? = some (mI 0 60 (fun _ => 0)) := by rw [ew_1, List.getElem?_set_ne (by omega)]; exact f7
  have hf1__s___7_ : w_1[(s + 7)]? = some (mI 0 40 (fun _ => 0)) := by rw [ew_1, List.getElem?_set_ne (by omega)]; exact f8
  have hf1__s___8_ : w_1[(s + 8)]? = some (mI 0 8 (fun _ => 0)) := by rw [ew_1, List.getElem?_set_ne (by omega)]; exact f9
  have hf1__s___9_ : w_1[(s + 9)]? = some (mI 0 41 (wdP 41)) := by rw [ew_1, List.getElem?_set_ne (by omega)]; exact f10
  have hf1__s___10_ : w_1[(s + 10)]? = some (mI 0 9 (waP 9)) := by rw [ew_1, List.getElem?_set_ne (by omega)]; exact f11
  refine r_arrEq hf1__s___9_ wdP_41 ?_
  obtain ⟨w_2, ew_2⟩ : ∃ z, z = w_1.set (s + 9) (mI 0 41 wdF) := ⟨_, rfl⟩
  rw [← ew_2]
  replace ew_2 : w_2 = (w_1).set ((s + 9)) (mI 0 41 wdF) := ew_2
  have hl_2 : w_2.length = (s + 11) := by rw [ew_2, List.length_set, hl_1]
  have hw_2 : mLowW w_2.length w_2 := by rw [hl_2, ew_2]; exact mLowW.set (by rw [← hl_1]; exact hw_1) trivial
  have hf2_s : w_2[s]? = some (mO 10 [.int 0, .int 0, .int (-1), .int (-1), .int 0, .ref (s + 1), .ref (s + 2), .ref (s + 3), .ref (s + 4), .ref (s + 5), .ref (s + 6), .ref (s + 7), .ref (s + 8), .ref (s + 9), .ref (s + 10), .int 0, .int 0, .int 0, .int 0, .int 0, .int 0]) := by rw [ew_2, List.getElem?_set_ne (by omega)]; exact hf1_s
  have hf2_low : LowK w0 w_2 s := LowK.mono hf1_low (fun k h8 h9 => by rw [ew_2, List.getElem?_set_ne (by omega)])
  have hf2__s___1_ : w_2[(s + 1)]? = some (mI 0 67 (enc sv0)) := by rw [ew_2, List.getElem?_set_ne (by omega)]; exact hf1__s___1_
  have hf2__s___2_ : w_2[(s + 2)]? = some (mI 0 67 (fun _ => 0)) := by rw [ew_2, List.getElem?_set_ne (by omega)]; exact hf1__s___2_
  have hf2__s___3_ : w_2[(s + 3)]? = some (mI 0 67 (fun _ => 0)) := by rw [ew_2, List.getElem?_set_ne (by omega)]; exact hf1__s___3_
  have hf2__s___4_ : w_2[(s + 4)]? = some (mI 0 67 (fun _ => 0)) := by rw [ew_2, List.getElem?_set_ne (by omega)]; exact hf1__s___4_
  have hf2__s___5_ : w_2[(s + 5)]? = some (mI 0 536 (fun _ => 0)) := by rw [ew_2, List.getElem?_set_ne (by omega)]; exact hf1__s___5_
  have hf2__s___6_ : w_2[(s + 6)]? = some (mI 0 60 (fun _ => 0)) := by rw [ew_2, List.getElem?_set_ne (by omega)]; exact hf1__s___6_
  have hf2__s___7_ : w_2[(s + 7)]? = some (mI 0 40 (fun _ => 0)) := by rw [ew_2, List.getElem?_set_ne (by omega)]; exact hf1__s___7_
  have hf2__s___8_ : w_2[(s + 8)]? = some (mI 0 8 (fun _ => 0)) := by rw [ew_2, List.getElem?_set_ne (by omega)]; exact hf1__s___8_
  have hf2__s___9_ : w_2[(s + 9)]? = some (mI 0 41 wdF) := by rw [ew_2]; exact List.getElem?_set_self (lt_of_get hf1__s___9_)
  have hf2__s___10_ : w_2[(s + 10)]? = some (mI 0 9 (waP 9)) := by rw [ew_2, List.getElem?_set_ne (by omega)]; exact hf1__s___10_
  refine r_arrEq hf2__s___10_ waP_9 ?_
  obtain ⟨w_3, ew_3⟩ : ∃ z, z = w_2.set (s + 10) (mI 0 9 waF) := ⟨_, rfl⟩
  rw [← ew_3]
  replace ew_3 : w_3 = (w_2).set ((s + 10)) (mI 0 9 waF) := ew_3
  have hl_3 : w_3.length = (s + 11) := by rw [ew_3, List.length_set, hl_2]
  have hw_3 : mLowW w_3.length w_3 := by rw [hl_3, ew_3]; exact mLowW.set (by rw [← hl_2]; exact hw_2) trivial
  have hf3_s : w_3[s]? = some (mO 10 [.int 0, .int 0, .int (-1), .int (-1), .int 0, .ref (s + 1), .ref (s + 2), .ref (s + 3), .ref (s + 4), .ref (s + 5), .ref (s + 6), .ref (s + 7), .ref (s + 8), .ref (s + 9), .ref (s + 10), .int 0, .int 0, .int 0, .int 0, .int 0, .int 0]) := by rw [ew_3, List.getElem?_set_ne (by omega)]; exact hf2_s
  have hf3_low : LowK w0 w_3 s := LowK.mono hf2_low (fun k h8 h9 => by rw [ew_3, List.getElem?_set_ne (by omega)])
  have hf3__s___1_ : w_3[(s + 1)]? = some (mI 0 67 (enc sv0)) := by rw [ew_3, List.getElem?_set_ne (by omega)]; exact hf2__s___1_
  have hf3__s___2_ : w_3[(s + 2)]? = some (mI 0 67 (fun _ => 0)) := by rw [ew_3, List.getElem?_set_ne (by omega)]; exact hf2__s___2_
  have hf3__s___3_ : w_3[(s + 3)]? = some (mI 0 67 (fun _ => 0)) := by rw [ew_3, List.getElem?_set_ne (by omega)]; exact hf2__s___3_
  have hf3__s___4_ : w_3[(s + 4)]? = some (mI 0 67 (fun _ => 0)) := by rw [ew_3, List.getElem?_set_ne (by omega)]; exact hf2__s___4_
  have hf3__s___5_ : w_3[(s + 5)]? = some (mI 0 536 (fun _ => 0)) := by rw [ew_3, List.getElem?_set_ne (by omega)]; exact hf2__s___5_
  have hf3__s___6_ : w_3[(s + 6)]? = some (mI 0 60 (fun _ => 0)) := by rw [ew_3, List.getElem?_set_ne (by omega)]; exact hf2__s___6_
  have hf3__s___7_ : w_3[(s + 7)]? = some (mI 0 40 (fun _ => 0)) := by rw [ew_3, List.getElem?_set_ne (by omega)]; exact hf2__s___7_
  have hf3__s___8_ : w_3[(s + 8)]? = some (mI 0 8 (fun _ => 0)) := by rw [ew_3, List.getElem?_set_ne (by omega)]; exact hf2__s___8_
  have hf3__s___9_ : w_3[(s + 9)]? = some (mI 0 41 wdF) := by rw [ew_3, List.getElem?_set_ne (by omega)]; exact hf2__s___9_
  have hf3__s___10_ : w_3[(s + 10)]? = some (mI 0 9 waF) := by rw [ew_3]; exact List.getElem?_set_self (lt_of_get hf2__s___10_)
  refine n_vret hC hE hR dX9_init_389 (by omega) (by omega) (by rw [hl_3]; omega) ?_
  exact ⟨rfl, ⟨by rw [hl_3]; omega, hw_3, hf3_low⟩, 0, 0, 0, 0, fun _ => 0, fun _ => 0, fun _ => 0, fun _ => 0, fun _ => 0, hf3_s, hf3__s___1_, hf3__s___2_, hf3__s___3_, hf3__s___4_, hf3__s___5_, hf3__s___6_, hf3__s___7_, hf3__s___8_, hf3__s___9_, hf3__s___10_, ⟨by decide, fun i y e => by simp at e⟩, fun z e => by cases e⟩
set_option maxRecDepth 100000 in
set_option maxHeartbeats 4000000 in
theorem my_14 {X : mC} {d s n0 k n : Nat} {w0 w : mW} (hmax : s < 900000) (h0 : w0.length = s + 1) (hn0 : n0 = w0.length) (hB : NB X RX9 cX9_init d 10 962 1 n0 (fun v w9 => v = none ∧ Gn w0 w9 s 10 ∧ MdAt w9 s 0 sv0 [] (-1) (-1) none (fun _ => 0) 0 (fun _ => 0) 0) none "<init>") (hl_0 : w.length = (s + 11)) (hw_0 : mLowW w.length w) (f0 : w[s]? = some (mO 10 [.int 0, .int 0, .int (-1), .int (-1), .int 0, .ref (s + 1), .ref (s + 2), .ref (s + 3), .ref (s + 4), .ref (s + 5), .ref (s + 6), .ref (s + 7), .ref (s + 8), .ref (s + 9), .null, .int 0, .int 0, .int 0, .int 0, .int 0, .int 0])) (f1 : LowK w0 w s) (f2 : w[(s + 1)]? = some (mI 0 67 (fun _ => 0))) (f3 : w[(s + 2)]? = some (mI 0 67 (fun _ => 0))) (f4 : w[(s + 3)]? = some (mI 0 67 (fun _ => 0))) (f5 : w[(s + 4)]? = some (mI 0 67 (fun _ => 0))) (f6 : w[(s + 5)]? = some (mI 0 536 (fun _ => 0))) (f7 : w[(s + 6)]? = some (mI 0 60 (fun _ => 0))) (f8 : w[(s + 7)]? = some (mI 0 40 (fun _ => 0))) (f9 : w[(s + 8)]? = some (mI 0 8 (fun _ => 0))) (f10 : w[(s + 9)]? = some (mI 0 41 (wdP 41))) (f11 : w[(s + 10)]? = some (mI 0 9 (waP 9))) (hk9 : k + 0 ≤ 10) (hn9 : n + 0 ≤ 962) : Wp X k n w [(0, .ref s)] [.ref (s + 10), .ref s] 379 := by
  exact mx_14 (d := d) (w0 := w0) hmax h0 hn0 hB hl_0 hw_0 f0 f1 f2 f3 f4 f5 f6 f7 f8 f9 f10 f11 (by omega) (by omega) (fun X w_1 hB hl_1 hw_1 g_0 g_1 g_2 g_3 g_4 g_5 g_6 g_7 g_8 g_9 g_10 g_11 => mx_end (d := d) (w0 := w0) hmax h0 hn0 hB hl_1 hw_1 g_0 g_1 g_2 g_3 g_4 g_5 g_6 g_7 g_8 g_9 g_10 g_11 (by omega) (by omega))
set_option maxRecDepth 100000 in
set_option maxHeartbeats 4000000 in
theorem my_13 {X : mC} {d s n0 k n : Nat} {w0 w : mW} (hmax : s < 900000) (h0 : w0.length = s + 1) (hn0 : n0 = w0.length) (hB : NB X RX9 cX9_init d 10 962 1 n0 (fun v w9 => v = none ∧ Gn w0 w9 s 10 ∧ MdAt w9 s 0 sv0 [] (-1) (-1) none (fun _ => 0) 0 (fun _ => 0) 0) none "<init>") (hl_0 : w.length = (s + 11)) (hw_0 : mLowW w.length w) (f0 : w[s]? = some (mO 10 [.int 0, .int 0, .int (-1), .int (-1), .int 0, .ref (s + 1), .ref (s + 2), .ref (s + 3), .ref (s + 4), .ref (s + 5), .ref (s + 6), .ref (s + 7), .ref (s + 8), .ref (s + 9), .null, .int 0, .int 0, .int 0, .int 0, .int 0, .int 0])) (f1 : LowK w0 w s) (f2 : w[(s + 1)]? = some (mI 0 67 (fun _ => 0))) (f3 : w[(s + 2)]? = some (mI 0 67 (fun _ => 0))) (f4 : w[(s + 3)]? = some (mI 0 67 (fun _ => 0))) (f5 : w[(s + 4)]? = some (mI 0 67 (fun _ => 0))) (f6 : w[(s + 5)]? = some (mI 0 536 (fun _ => 0))) (f7 : w[(s + 6)]? = some (mI 0 60 (fun _ => 0))) (f8 : w[(s + 7)]? = some (mI 0 40 (fun _ => 0))) (f9 : w[(s + 8)]? = some (mI 0 8 (fun _ => 0))) (f10 : w[(s + 9)]? = some (mI 0 41 (wdP 41))) (f11 : w[(s + 10)]? = some (mI 0 9 (fun _ => 0))) (hk9 : k + 0 ≤ 10) (hn9 : n + 0 ≤ 962) : Wp X k n w [(0, .ref s)] [.ref (s + 10), .ref s] 332 := by
  exact mx_13 (d := d) (w0 := w0) hmax h0 hn0 hB hl_0 hw_0 f0 f1 f2 f3 f4 f5 f6 f7 f8 f9 f10 f11 (by omega) (by omega) (fun X w_1 hB hl_1 hw_1 g_0 g_1 g_2 g_3 g_4 g_5 g_6 g_7 g_8 g_9 g_10 g_11 => my_14 (d := d) (w0 := w0) hmax h0 hn0 hB hl_1 hw_1 g_0 g_1 g_2 g_3 g_4 g_5 g_6 g_7 g_8 g_9 g_10 g_11 (by omega) (by omega))
set_option maxRecDepth 100000 in
set_option maxHeartbeats 4000000 in
theorem my_12 {X : mC} {d s n0 k n : Nat} {w0 w : mW} (hmax : s < 900000) (h0 : w0.length = s + 1) (hn0 : n0 = w0.length) (hB : NB X RX9 cX9_init d 10 962 1 n0 (fun v w9 => v = none ∧ Gn w0 w9 s 10 ∧ MdAt w9 s 0 sv0 [] (-1) (-1) none (fun _ => 0) 0 (fun _ => 0) 0) none "<init>") (hl_0 : w.length = (s + 10)) (hw_0 : mLowW w.length w) (f0 : w[s]? = some (mO 10 [.int 0, .int 0, .int (-1), .int (-1), .int 0, .ref (s + 1), .ref (s + 2), .ref (s + 3), .ref (s + 4), .ref (s + 5), .ref (s + 6), .ref (s + 7), .ref (s + 8), .null, .null, .int 0, .int 0, .int 0, .int 0, .int 0, .int 0])) (f1 : LowK w0 w s) (f2 : w[(s + 1)]? = some (mI 0 67 (fun _ => 0))) (f3 : w[(s + 2)]? = some (mI 0 67 (fun _ => 0))) (f4 : w[(s + 3)]? = some (mI 0 67 (fun _ => 0))) (f5 : w[(s + 4)]? = some (mI 0 67 (fun _ => 0))) (f6 : w[(s + 5)]? = some (mI 0 536 (fun _ => 0))) (f7 : w[(s + 6)]? = some (mI 0 60 (fun _ => 0))) (f8 : w[(s + 7)]? = some (mI 0 40 (fun _ => 0))) (f9 : w[(s + 8)]? = some (mI 0 8 (fun _ => 0))) (f10 : w[(s + 9)]? = some (mI 0 41 (wdP 41))) (hk9 : k + 1 ≤ 10) (hn9 : n + 9 ≤ 962) : Wp X k n w [(0, .ref s)] [.ref (s + 9), .ref s] 324 := by
  exact mx_12 (d := d) (w0 := w0) hmax h0 hn0 hB hl_0 hw_0 f0 f1 f2 f3 f4 f5 f6 f7 f8 f9 f10 (by omega) (by omega) (fun X w_1 hB hl_1 hw_1 g_0 g_1 g_2 g_3 g_4 g_5 g_6 g_7 g_8 g_9 g_10 g_11 => my_13 (d := d) (w0 := w0) hmax h0 hn0 hB hl_1 hw_1 g_0 g_1 g_2 g_3 g_4 g_5 g_6 g_7 g_8 g_9 g_10 g_11 (by omega) (by omega))
set_option maxRecDepth 100000 in
set_option maxHeartbeats 4000000 in
theorem my_11 {X : mC} {d s n0 k n : Nat} {w0 w : mW} (hmax : s < 900000) (h0 : w0.length = s + 1) (hn0 : n0 = w0.length) (hB : NB X RX9 cX9_init d 10 962 1 n0 (fun v w9 => v = none ∧ Gn w0 w9 s 10 ∧ MdAt w9 s 0 sv0 [] (-1) (-1) none (fun _ => 0) 0 (fun _ => 0) 0) none "<init>") (hl_0 : w.length = (s + 10)) (hw_0 : mLowW w.length w) (f0 : w[s]? = some (mO 10 [.int 0, .int 0, .int (-1), .int (-1), .int 0, .ref (s + 1), .ref (s + 2), .ref (s + 3), .ref (s + 4), .ref (s + 5), .ref (s + 6), .ref (s + 7), .ref (s + 8), .null, .null, .int 0, .int 0, .int 0, .int 0, .int 0, .int 0])) (f1 : LowK w0 w s) (f2 : w[(s + 1)]? = some (mI 0 67 (fun _ => 0))) (f3 : w[(s + 2)]? = some (mI 0 67 (fun _ => 0))) (f4 : w[(s + 3)]? = some (mI 0 67 (fun _ => 0))) (f5 : w[(s + 4)]? = some (mI 0 67 (fun _ => 0))) (f6 : w[(s + 5)]? = some (mI 0 536 (fun _ => 0))) (f7 : w[(s + 6)]? = some (mI 0 60 (fun _ => 0))) (f8 : w[(s + 7)]? = some (mI 0 40 (fun _ => 0))) (f9 : w[(s + 8)]? = some (mI 0 8 (fun _ => 0))) (f10 : w[(s + 9)]? = some (mI 0 41 (fun _ => 0))) (hk9 : k + 1 ≤ 10) (hn9 : n + 9 ≤ 962) : Wp X k n w [(0, .ref s)] [.ref (s + 9), .ref s] 84 := by
  exact mx_11 (d := d) (w0 := w0) hmax h0 hn0 hB hl_0 hw_0 f0 f1 f2 f3 f4 f5 f6 f7 f8 f9 f10 (by omega) (by omega) (fun X w_1 hB hl_1 hw_1 g_0 g_1 g_2 g_3 g_4 g_5 g_6 g_7 g_8 g_9 g_10 => my_12 (d := d) (w0 := w0) hmax h0 hn0 hB hl_1 hw_1 g_0 g_1 g_2 g_3 g_4 g_5 g_6 g_7 g_8 g_9 g_10 (by omega) (by omega))
set_option maxRecDepth 100000 in
set_option maxHeartbeats 4000000 in
theorem my_10 {X : mC} {d s n0 k n : Nat} {w0 w : mW} (hmax : s < 900000) (h0 : w0.length = s + 1) (hn0 : n0 = w0.length) (hB : NB X RX9 cX9_init d 10 962 1 n0 (fun v w9 => v = none ∧ Gn w0 w9 s 10 ∧ MdAt w9 s 0 sv0 [] (-1) (-1) none (fun _ => 0) 0 (fun _ => 0) 0) none "<init>") (hl_0 : w.length = (s + 9)) (hw_0 : mLowW w.length w) (f0 : w[s]? = some (mO 10 [.int 0, .int 0, .int (-1), .int (-1), .int 0, .ref (s + 1), .ref (s + 2), .ref (s + 3), .ref (s + 4), .ref (s + 5), .ref (s + 6), .ref (s + 7), .ref (s + 8), .null, .null, .int 0, .int 0, .int 0, .int 0, .int 0, .int 0])) (f1 : LowK w0 w s) (f2 : w[(s + 1)]? = some (mI 0 67 (fun _ => 0))) (f3 : w[(s + 2)]? = some (mI 0 67 (fun _ => 0))) (f4 : w[(s + 3)]? = some (mI 0 67 (fun _ => 0))) (f5 : w[(s + 4)]? = some (mI 0 67 (fun _ => 0))) (f6 : w[(s + 5)]? = some (mI 0 536 (fun _ => 0))) (f7 : w[(s + 6)]? = some (mI 0 60 (fun _ => 0))) (f8 : w[(s + 7)]? = some (mI 0 40 (fun _ => 0))) (f9 : w[(s + 8)]? = some (mI 0 8 (fun _ => 0))) (hk9 : k + 2 ≤ 10) (hn9 : n + 50 ≤ 962) : Wp X k n w [(0, .ref s)] [] 79 := by
  exact mx_10 (d := d) (w0 := w0) hmax h0 hn0 hB hl_0 hw_0 f0 f1 f2 f3 f4 f5 f6 f7 f8 f9 (by omega) (by omega) (fun X w_1 hB hl_1 hw_1 g_0 g_1 g_2 g_3 g_4 g_5 g_6 g_7 g_8 g_9 g_10 => my_11 (d := d) (w0 := w0) hmax h0 hn0 hB hl_1 hw_1 g_0 g_1 g_2 g_3 g_4 g_5 g_6 g_7 g_8 g_9 g_10 (by omega) (by omega))
set_option maxRecDepth 100000 in
set_option maxHeartbeats 4000000 in
theorem my_9 {X : mC} {d s n0 k n : Nat} {w0 w : mW} (hmax : s < 900000) (h0 : w0.length = s + 1) (hn0 : n0 = w0.length) (hB : NB X RX9 cX9_init d 10 962 1 n0 (fun v w9 => v = none ∧ Gn w0 w9 s 10 ∧ MdAt w9 s 0 sv0 [] (-1) (-1) none (fun _ => 0) 0 (fun _ => 0) 0) none "<init>") (hl_0 : w.length = (s + 8)) (hw_0 : mLowW w.length w) (f0 : w[s]? = some (mO 10 [.int 0, .int 0, .int (-1), .int (-1), .int 0, .ref (s + 1), .ref (s + 2), .ref (s + 3), .ref (s + 4), .ref (s + 5), .ref (s + 6), .ref (s + 7), .null, .null, .null, .int 0, .int 0, .int 0, .int 0, .int 0, .int 0])) (f1 : LowK w0 w s) (f2 : w[(s + 1)]? = some (mI 0 67 (fun _ => 0))) (f3 : w[(s + 2)]? = some (mI 0 67 (fun _ => 0))) (f4 : w[(s + 3)]? = some (mI 0 67 (fun _ => 0))) (f5 : w[(s + 4)]? = some (mI 0 67 (fun _ => 0))) (f6 : w[(s + 5)]? = some (mI 0 536 (fun _ => 0))) (f7 : w[(s + 6)]? = some (mI 0 60 (fun _ => 0))) (f8 : w[(s + 7)]? = some (mI 0 40 (fun _ => 0))) (hk9 : k + 3 ≤ 10) (hn9 : n + 58 ≤ 962) : Wp X k n w [(0, .ref s)] [] 71 := by
  exact mx_9 (d := d) (w0 := w0) hmax h0 hn0 hB hl_0 hw_0 f0 f1 f2 f3 f4 f5 f6 f7 f8 (by omega) (by omega) (fun X w_1 hB hl_1 hw_1 g_0 g_1 g_2 g_3 g_4 g_5 g_6 g_7 g_8 g_9 => my_10 (d := d) (w0 := w0) hmax h0 hn0 hB hl_1 hw_1 g_0 g_1 g_2 g_3 g_4 g_5 g_6 g_7 g_8 g_9 (by omega) (by omega))
set_option maxRecDepth 100000 in
set_option maxHeartbeats 4000000 in
theorem my_8 {X : mC} {d s n0 k n : Nat} {w0 w : mW} (hmax : s < 900000) (h0 : w0.length = s + 1) (hn0 : n0 = w0.length) (hB : NB X RX9 cX9_init d 10 962 1 n0 (fun v w9 => v = none ∧ Gn w0 w9 s 10 ∧ MdAt w9 s 0 sv0 [] (-1) (-1) none (fun _ => 0) 0 (fun _ => 0) 0) none "<init>") (hl_0 : w.length = (s + 7)) (hw_0 : mLowW w.length w) (f0 : w[s]? = some (mO 10 [.int 0, .int 0, .int (-1), .int (-1), .int 0, .ref (s + 1), .ref (s + 2), .ref (s + 3), .ref (s + 4), .ref (s + 5), .ref (s + 6), .null, .null, .null, .null, .int 0, .int 0, .int 0, .int 0, .int 0, .int 0])) (f1 : LowK w0 w s) (f2 : w[(s + 1)]? = some (mI 0 67 (fun _ => 0))) (f3 : w[(s + 2)]? = some (mI 0 67 (fun _ => 0))) (f4 : w[(s + 3)]? = some (mI 0 67 (fun _ => 0))) (f5 : w[(s + 4)]? = some (mI 0 67 (fun _ => 0))) (f6 : w[(s + 5)]? = some (mI 0 536 (fun _ => 0))) (f7 : w[(s + 6)]? = some (mI 0 60 (fun _ => 0))) (hk9 : k + 4 ≤ 10) (hn9 : n + 98 ≤ 962) : Wp X k n w [(0, .ref s)] [] 63 := by
  exact mx_8 (d := d) (w0 := w0) hmax h0 hn0 hB hl_0 hw_0 f0 f1 f2 f3 f4 f5 f6 f7 (by omega) (by omega) (fun X w_1 hB hl_1 hw_1 g_0 g_1 g_2 g_3 g_4 g_5 g_6 g_7 g_8 => my_9 (d := d) (w0 := w0) hmax h0 hn0 hB hl_1 hw_1 g_0 g_1 g_2 g_3 g_4 g_5 g_6 g_7 g_8 (by omega) (by omega))
set_option maxRecDepth 100000 in
set_option maxHeartbeats 4000000 in
theorem my_7 {X : mC} {d s n0 k n : Nat} {w0 w : mW} (hmax : s < 900000) (h0 : w0.length = s + 1) (hn0 : n0 = w0.length) (hB : NB X RX9 cX9_init d 10 962 1 n0 (fun v w9 => v = none ∧ Gn w0 w9 s 10 ∧ MdAt w9 s 0 sv0 [] (-1) (-1) none (fun _ => 0) 0 (fun _ => 0) 0) none "<init>") (hl_0 : w.length = (s + 6)) (hw_0 : mLowW w.length w) (f0 : w[s]? = some (mO 10 [.int 0, .int 0, .int (-1), .int (-1), .int 0, .ref (s + 1), .ref (s + 2), .ref (s + 3), .ref (s + 4), .ref (s + 5), .null, .null, .null, .null, .null, .int 0, .int 0, .int 0, .int 0, .int 0, .int 0])) (f1 : LowK w0 w s) (f2 : w[(s + 1)]? = some (mI 0 67 (fun _ => 0))) (f3 : w[(s + 2)]? = some (mI 0 67 (fun _ => 0))) (f4 : w[(s + 3)]? = some (mI 0 67 (fun _ => 0))) (f5 : w[(s + 4)]? = some (mI 0 67 (fun _ => 0))) (f6 : w[(s + 5)]? = some (mI 0 536 (fun _ => 0))) (hk9 : k + 5 ≤ 10) (hn9 : n + 158 ≤ 962) : Wp X k n w [(0, .ref s)] [] 55 := by
  exact mx_7 (d := d) (w0 := w0) hmax h0 hn0 hB hl_0 hw_0 f0 f1 f2 f3 f4 f5 f6 (by omega) (by omega) (fun X w_1 hB hl_1 hw_1 g_0 g_1 g_2 g_3 g_4 g_5 g_6 g_7 => my_8 (d := d) (w0 := w0) hmax h0 hn0 hB hl_1 hw_1 g_0 g_1 g_2 g_3 g_4 g_5 g_6 g_7 (by omega) (by omega))
set_option maxRecDepth 100000 in
set_option maxHeartbeats 4000000 in
theorem my_6 {X : mC} {d s n0 k n : Nat} {w0 w : mW} (hmax : s < 900000) (h0 : w0.length = s + 1) (hn0 : n0 = w0.length) (hB : NB X RX9 cX9_init d 10 962 1 n0 (fun v w9 => v = none ∧ Gn w0 w9 s 10 ∧ MdAt w9 s 0 sv0 [] (-1) (-1) none (fun _ => 0) 0 (fun _ => 0) 0) none "<init>") (hl_0 : w.length = (s + 5)) (hw_0 : mLowW w.length w) (f0 : w[s]? = some (mO 10 [.int 0, .int 0, .int (-1), .int (-1), .int 0, .ref (s + 1), .ref (s + 2), .ref (s + 3), .ref (s + 4), .null, .null, .null, .null, .null, .null, .int 0, .int 0, .int 0, .int 0, .int 0, .int 0])) (f1 : LowK w0 w s) (f2 : w[(s + 1)]? = some (mI 0 67 (fun _ => 0))) (f3 : w[(s + 2)]? = some (mI 0 67 (fun _ => 0))) (f4 : w[(s + 3)]? = some (mI 0 67 (fun _ => 0))) (f5 : w[(s + 4)]? = some (mI 0 67 (fun _ => 0))) (hk9 : k + 6 ≤ 10) (hn9 : n + 694 ≤ 962) : Wp X k n w [(0, .ref s)] [] 46 := by
  exact mx_6 (d := d) (w0 := w0) hmax h0 hn0 hB hl_0 hw_0 f0 f1 f2 f3 f4 f5 (by omega) (by omega) (fun X w_1 hB hl_1 hw_1 g_0 g_1 g_2 g_3 g_4 g_5 g_6 => my_7 (d := d) (w0 := w0) hmax h0 hn0 hB hl_1 hw_1 g_0 g_1 g_2 g_3 g_4 g_5 g_6 (by omega) (by omega))
set_option maxRecDepth 100000 in
set_option maxHeartbeats 4000000 in
theorem my_5 {X : mC} {d s n0 k n : Nat} {w0 w : mW} (hmax : s < 900000) (h0 : w0.length = s + 1) (hn0 : n0 = w0.length) (hB : NB X RX9 cX9_init d 10 962 1 n0 (fun v w9 => v = none ∧ Gn w0 w9 s 10 ∧ MdAt w9 s 0 sv0 [] (-1) (-1) none (fun _ => 0) 0 (fun _ => 0) 0) none "<init>") (hl_0 : w.length = (s + 4)) (hw_0 : mLowW w.length w) (f0 : w[s]? = some (mO 10 [.int 0, .int 0, .int (-1), .int (-1), .int 0, .ref (s + 1), .ref (s + 2), .ref (s + 3), .null, .null, .null, .null, .null, .null, .null, .int 0, .int 0, .int 0, .int 0, .int 0, .int 0])) (f1 : LowK w0 w s) (f2 : w[(s + 1)]? = some (mI 0 67 (fun _ => 0))) (f3 : w[(s + 2)]? = some (mI 0 67 (fun _ => 0))) (f4 : w[(s + 3)]? = some (mI 0 67 (fun _ => 0))) (hk9 : k + 7 ≤ 10) (hn9 : n + 761 ≤ 962) : Wp X k n w [(0, .ref s)] [] 38 := by
  exact mx_5 (d := d) (w0 := w0) hmax h0 hn0 hB hl_0 hw_0 f0 f1 f2 f3 f4 (by omega) (by omega) (fun X w_1 hB hl_1 hw_1 g_0 g_1 g_2 g_3 g_4 g_5 => my_6 (d := d) (w0 := w0) hmax h0 hn0 hB hl_1 hw_1 g_0 g_1 g_2 g_3 g_4 g_5 (by omega) (by omega))
set_option maxRecDepth 100000 in
set_option maxHeartbeats 4000000 in
theorem my_4 {X : mC} {d s n0 k n : Nat} {w0 w : mW} (hmax : s < 900000) (h0 : w0.length = s + 1) (hn0 : n0 = w0.length) (hB : NB X RX9 cX9_init d 10 962 1 n0 (fun v w9 => v = none ∧ Gn w0 w9 s 10 ∧ MdAt w9 s 0 sv0 [] (-1) (-1) none (fun _ => 0) 0 (fun _ => 0) 0) none "<init>") (hl_0 : w.length = (s + 3)) (hw_0 : mLowW w.length w) (f0 : w[s]? = some (mO 10 [.int 0, .int 0, .int (-1), .int (-1), .int 0, .ref (s + 1), .ref (s + 2), .null, .null, .null, .null, .null, .null, .null, .null, .int 0, .int 0, .int 0, .int 0, .int 0, .int 0])) (f1 : LowK w0 w s) (f2 : w[(s + 1)]? = some (mI 0 67 (fun _ => 0))) (f3 : w[(s + 2)]? = some (mI 0 67 (fun _ => 0))) (hk9 : k + 8 ≤ 10) (hn9 : n + 828 ≤ 962) : Wp X k n w [(0, .ref s)] [] 30 := by
  exact mx_4 (d := d) (w0 := w0) hmax h0 hn0 hB hl_0 hw_0 f0 f1 f2 f3 (by omega) (by omega) (fun X w_1 hB hl_1 hw_1 g_0 g_1 g_2 g_3 g_4 => my_5 (d := d) (w0 := w0) hmax h0 hn0 hB hl_1 hw_1 g_0 g_1 g_2 g_3 g_4 (by omega) (by omega))
set_option maxRecDepth 100000 in
set_option maxHeartbeats 4000000 in
theorem my_3 {X : mC} {d s n0 k n : Nat} {w0 w : mW} (hmax : s < 900000) (h0 : w0.length = s + 1) (hn0 : n0 = w0.length) (hB : NB X RX9 cX9_init d 10 962 1 n0 (fun v w9 => v = none ∧ Gn w0 w9 s 10 ∧ MdAt w9 s 0 sv0 [] (-1) (-1) none (fun _ => 0) 0 (fun _ => 0) 0) none "<init>") (hl_0 : w.length = (s + 2)) (hw_0 : mLowW w.length w) (f0 : w[s]? = some (mO 10 [.int 0, .int 0, .int (-1), .int (-1), .int 0, .ref (s + 1), .null, .null, .null, .null, .null, .null, .null, .null, .null, .int 0, .int 0, .int 0, .int 0, .int 0, .int 0])) (f1 : LowK w0 w s) (f2 : w[(s + 1)]? = some (mI 0 67 (fun _ => 0))) (hk9 : k + 9 ≤ 10) (hn9 : n + 895 ≤ 962) : Wp X k n w [(0, .ref s)] [] 22 := by
  exact mx_3 (d := d) (w0 := w0) hmax h0 hn0 hB hl_0 hw_0 f0 f1 f2 (by omega) (by omega) (fun X w_1 hB hl_1 hw_1 g_0 g_1 g_2 g_3 => my_4 (d := d) (w0 := w0) hmax h0 hn0 hB hl_1 hw_1 g_0 g_1 g_2 g_3 (by omega) (by omega))
set_option maxRecDepth 100000 in
set_option maxHeartbeats 4000000 in
theorem my_2 {X : mC} {d s n0 k n : Nat} {w0 w : mW} (hmax : s < 900000) (h0 : w0.length = s + 1) (hn0 : n0 = w0.length) (hB : NB X RX9 cX9_init d 10 962 1 n0 (fun v w9 => v = none ∧ Gn w0 w9 s 10 ∧ MdAt w9 s 0 sv0 [] (-1) (-1) none (fun _ => 0) 0 (fun _ => 0) 0) none "<init>") (hl_0 : w.length = (s + 1)) (hw_0 : mLowW w.length w) (f0 : w[s]? = some (mO 10 [.int 0, .int 0, .int (-1), .int (-1), .int 0, .null, .null, .null, .null, .null, .null, .null, .null, .null, .null, .int 0, .int 0, .int 0, .int 0, .int 0, .int 0])) (f1 : LowK w0 w s) (hk9 : k + 10 ≤ 10) (hn9 : n + 962 ≤ 962) : Wp X k n w [(0, .ref s)] [] 14 := by
  exact mx_2 (d := d) (w0 := w0) hmax h0 hn0 hB hl_0 hw_0 f0 f1 (by omega) (by omega) (fun X w_1 hB hl_1 hw_1 g_0 g_1 g_2 => my_3 (d := d) (w0 := w0) hmax h0 hn0 hB hl_1 hw_1 g_0 g_1 g_2 (by omega) (by omega))
set_option maxRecDepth 100000 in
set_option maxHeartbeats 4000000 in
theorem my_1 {X : mC} {d s n0 k n : Nat} {w0 w : mW} (hmax : s < 900000) (h0 : w0.length = s + 1) (hn0 : n0 = w0.length) (hB : NB X RX9 cX9_init d 10 962 1 n0 (fun v w9 => v = none ∧ Gn w0 w9 s 10 ∧ MdAt w9 s 0 sv0 [] (-1) (-1) none (fun _ => 0) 0 (fun _ => 0) 0) none "<init>") (hl_0 : w.length = (s + 1)) (hw_0 : mLowW w.length w) (hk : w[s]? = some (mO 10 [.int 0, .int 0, .int 0, .int 0, .int 0, .null, .null, .null, .null, .null, .null, .null, .null, .null, .null, .int 0, .int 0, .int 0, .int 0, .int 0, .int 0])) (hlow : LowK w0 w s) (hk9 : k + 10 ≤ 10) (hn9 : n + 962 ≤ 962) : Wp X k n w [(0, .ref s)] [] 4 := by
  exact mx_1 (d := d) (w0 := w0) hmax h0 hn0 hB hl_0 hw_0 hk hlow (by omega) (by omega) (fun X w_1 hB hl_1 hw_1 g_0 g_1 => my_2 (d := d) (w0 := w0) hmax h0 hn0 hB hl_1 hw_1 g_0 g_1 (by omega) (by omega))
set_option maxRecDepth 100000 in
set_option maxHeartbeats 4000000 in
theorem cn_model {d : Nat} {w : mW} {s : Nat}  (hl_0 : w.length = s + 1) (hk : w[s]? = some (mO 10 [.int 0, .int 0, .int 0, .int 0, .int 0, .null, .null, .null, .null, .null, .null, .null, .null, .null, .null, .int 0, .int 0, .int 0, .int 0, .int 0, .int 0])) (hw_0 : mLowW w.length w) (hmax : s < 900000)  : SpN d yX9_init cX9_init 1 none [.ref s] w 10 962 (fun v w9 => v = none ∧ Gn w w9 s 10 ∧ MdAt w9 s 0 sv0 [] (-1) (-1) none (fun _ => 0) 0 (fun _ => 0) 0) := by
  refine SpN.of (by decide +kernel) (Nat.le_of_ble_eq_true rfl) (fun X hC hnl hE hR hN hNm => ?_)
  have hC : Cx X RX9 cX9_init d 10 962 := hC
  have hB := NB.mk hC hnl hE hR hN hNm
  show Wp X 0 0 w [(0, .ref s)] [] 0
  obtain ⟨hC, hnl, hE, hR, hN, hNm⟩ := id hB
  refine r_aload_n hC dX9_init_0 rfl (j := 0) rfl ?_
  refine r_objI hC oX9_init_1 (Nat.le_of_ble_eq_true rfl) ?_
  exact my_1 (d := d) (w0 := w) hmax hl_0 rfl hB hl_0 hw_0 hk (fun k _ => rfl) (by omega) (by omega)
end CT2
