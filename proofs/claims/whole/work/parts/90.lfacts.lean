section LF
def hh_addPlayer : List (Nat × Nat × Nat × Nat) := [(0, 9, 12, 13), (0, 9, 15, 15)]
theorem cw_L_addPlayer : Cond.codeWith yL_addPlayer cL_addPlayer 4 (some .int) hh_addPlayer ∈ mGood := mGood_in (List.mem_of_getElem? (i := 528) (by decide +kernel)) rfl
def hh_drop : List (Nat × Nat × Nat × Nat) := [(0, 12, 15, 21), (0, 12, 19, 13), (0, 12, 23, 15), (0, 12, 27, 23)]
theorem cw_L_drop : Cond.codeWith yL_drop cL_drop 6 (some .int) hh_drop ∈ mGood := mGood_in (List.mem_of_getElem? (i := 698) (by decide +kernel)) rfl
def hh_pile : List (Nat × Nat × Nat × Nat) := [(0, 10, 13, 21), (0, 10, 17, 13), (0, 10, 21, 15)]
theorem cw_L_pile : Cond.codeWith yL_pile cL_pile 5 (some .int) hh_pile ∈ mGood := mGood_in (List.mem_of_getElem? (i := 754) (by decide +kernel)) rfl
def hh_take : List (Nat × Nat × Nat × Nat) := [(0, 10, 13, 21), (0, 10, 17, 32), (0, 10, 21, 23)]
theorem cw_L_take : Cond.codeWith yL_take cL_take 5 (some .int) hh_take ∈ mGood := mGood_in (List.mem_of_getElem? (i := 766) (by decide +kernel)) rfl
def hh_hand : List (Nat × Nat × Nat × Nat) := [(0, 9, 12, 21)]
theorem cw_L_hand : Cond.codeWith yL_hand cL_hand 4 (some .int) hh_hand ∈ mGood := mGood_in (List.mem_of_getElem? (i := 784) (by decide +kernel)) rfl
def hh_rest : List (Nat × Nat × Nat × Nat) := [(0, 9, 12, 21)]
theorem cw_L_rest : Cond.codeWith yL_rest cL_rest 4 (some .int) hh_rest ∈ mGood := mGood_in (List.mem_of_getElem? (i := 797) (by decide +kernel)) rfl
def hh_setSlope : List (Nat × Nat × Nat × Nat) := [(0, 9, 12, 13)]
theorem cw_L_setSlope : Cond.codeWith yL_setSlope cL_setSlope 4 (some .int) hh_setSlope ∈ mGood := mGood_in (List.mem_of_getElem? (i := 804) (by decide +kernel)) rfl
def hh_height : List (Nat × Nat × Nat × Nat) := [(0, 9, 12, 21)]
theorem cw_L_height : Cond.codeWith yL_height cL_height 4 (some .int) hh_height ∈ mGood := mGood_in (List.mem_of_getElem? (i := 819) (by decide +kernel)) rfl
def hh_owner : List (Nat × Nat × Nat × Nat) := [(0, 9, 12, 21), (0, 9, 15, 32)]
theorem cw_L_owner : Cond.codeWith yL_owner cL_owner 4 (some .int) hh_owner ∈ mGood := mGood_in (List.mem_of_getElem? (i := 831) (by decide +kernel)) rfl
def hh_steepness : List (Nat × Nat × Nat × Nat) := [(0, 9, 12, 21)]
theorem cw_L_steepness : Cond.codeWith yL_steepness cL_steepness 4 (some .int) hh_steepness ∈ mGood := mGood_in (List.mem_of_getElem? (i := 839) (by decide +kernel)) rfl
def hh_lowestNeighbour : List (Nat × Nat × Nat × Nat) := [(0, 9, 12, 21)]
theorem cw_L_lowestNeighbour : Cond.codeWith yL_lowestNeighbour cL_lowestNeighbour 4 (some .int) hh_lowestNeighbour ∈ mGood := mGood_in (List.mem_of_getElem? (i := 847) (by decide +kernel)) rfl
def hh_topplesIf : List (Nat × Nat × Nat × Nat) := [(0, 10, 13, 21), (0, 10, 17, 13)]
theorem cw_L_topplesIf : Cond.codeWith yL_topplesIf cL_topplesIf 5 (some .int) hh_topplesIf ∈ mGood := mGood_in (List.mem_of_getElem? (i := 855) (by decide +kernel)) rfl
def hh_topplesIfByScan : List (Nat × Nat × Nat × Nat) := [(0, 10, 13, 21), (0, 10, 17, 13)]
theorem cw_L_topplesIfByScan : Cond.codeWith yL_topplesIfByScan cL_topplesIfByScan 5 (some .int) hh_topplesIfByScan ∈ mGood := mGood_in (List.mem_of_getElem? (i := 867) (by decide +kernel)) rfl
def hh_isPeak : List (Nat × Nat × Nat × Nat) := [(0, 16, 19, 21)]
theorem cw_L_isPeak : Cond.codeWith yL_isPeak cL_isPeak 4 (some .int) hh_isPeak ∈ mGood := mGood_in (List.mem_of_getElem? (i := 874) (by decide +kernel)) rfl
def hh_peakAt : List (Nat × Nat × Nat × Nat) := [(0, 9, 12, 32)]
theorem cw_L_peakAt : Cond.codeWith yL_peakAt cL_peakAt 4 (some .int) hh_peakAt ∈ mGood := mGood_in (List.mem_of_getElem? (i := 882) (by decide +kernel)) rfl
def hh_crowns : List (Nat × Nat × Nat × Nat) := [(0, 9, 12, 21)]
theorem cw_L_crowns : Cond.codeWith yL_crowns cL_crowns 4 (some .int) hh_crowns ∈ mGood := mGood_in (List.mem_of_getElem? (i := 894) (by decide +kernel)) rfl
def hh_score : List (Nat × Nat × Nat × Nat) := [(0, 9, 12, 21)]
theorem cw_L_score : Cond.codeWith yL_score cL_score 4 (some .int) hh_score ∈ mGood := mGood_in (List.mem_of_getElem? (i := 905) (by decide +kernel)) rfl
def hh_playerAtRank : List (Nat × Nat × Nat × Nat) := [(0, 9, 12, 32)]
theorem cw_L_playerAtRank : Cond.codeWith yL_playerAtRank cL_playerAtRank 4 (some .int) hh_playerAtRank ∈ mGood := mGood_in (List.mem_of_getElem? (i := 916) (by decide +kernel)) rfl
def hh_crownShare : List (Nat × Nat × Nat × Nat) := [(0, 9, 12, 21), (0, 9, 15, 81)]
theorem cw_L_crownShare : Cond.codeWith yL_crownShare cL_crownShare 4 (some .int) hh_crownShare ∈ mGood := mGood_in (List.mem_of_getElem? (i := 933) (by decide +kernel)) rfl
def hh_append : List (Nat × Nat × Nat × Nat) := [(0, 9, 12, 13), (0, 9, 15, 15)]
theorem cw_L_append : Cond.codeWith yL_append cL_append 4 (some .int) hh_append ∈ mGood := mGood_in (List.mem_of_getElem? (i := 957) (by decide +kernel)) rfl
def hh_run : List (Nat × Nat × Nat × Nat) := [(0, 8, 11, 13), (0, 8, 14, 15)]
theorem cw_L_run : Cond.codeWith yL_run cL_run 3 (some .int) hh_run ∈ mGood := mGood_in (List.mem_of_getElem? (i := 1064) (by decide +kernel)) rfl
def hh_errorPosition : List (Nat × Nat × Nat × Nat) := [(0, 8, 11, 32)]
theorem cw_L_errorPosition : Cond.codeWith yL_errorPosition cL_errorPosition 3 (some .int) hh_errorPosition ∈ mGood := mGood_in (List.mem_of_getElem? (i := 1335) (by decide +kernel)) rfl
def hh_failedCommand : List (Nat × Nat × Nat × Nat) := [(0, 8, 11, 32)]
theorem cw_L_failedCommand : Cond.codeWith yL_failedCommand cL_failedCommand 3 (some .int) hh_failedCommand ∈ mGood := mGood_in (List.mem_of_getElem? (i := 1343) (by decide +kernel)) rfl
def hh_describeRow : List (Nat × Nat × Nat × Nat) := [(0, 9, 12, 21)]
theorem cw_L_describeRow : Cond.codeWith yL_describeRow cL_describeRow 4 (some .int) hh_describeRow ∈ mGood := mGood_in (List.mem_of_getElem? (i := 1351) (by decide +kernel)) rfl
def hh_lineAt : List (Nat × Nat × Nat × Nat) := [(0, 9, 12, 21)]
theorem cw_L_lineAt : Cond.codeWith yL_lineAt cL_lineAt 4 (some .int) hh_lineAt ∈ mGood := mGood_in (List.mem_of_getElem? (i := 1364) (by decide +kernel)) rfl
def hh_meanAvalanche : List (Nat × Nat × Nat × Nat) := [(0, 7, 10, 81)]
theorem cw_L_meanAvalanche : Cond.codeWith yL_meanAvalanche cL_meanAvalanche 3 (some .int) hh_meanAvalanche ∈ mGood := mGood_in (List.mem_of_getElem? (i := 1373) (by decide +kernel)) rfl
def hh_undo : List (Nat × Nat × Nat × Nat) := [(0, 8, 11, 15)]
theorem cw_L_undo : Cond.codeWith yL_undo cL_undo 3 (some .int) hh_undo ∈ mGood := mGood_in (List.mem_of_getElem? (i := 1381) (by decide +kernel)) rfl
def hh_restore : List (Nat × Nat × Nat × Nat) := [(0, 8, 11, 15)]
theorem cw_L_restore : Cond.codeWith yL_restore cL_restore 3 (some .int) hh_restore ∈ mGood := mGood_in (List.mem_of_getElem? (i := 1389) (by decide +kernel)) rfl
theorem kcL_13 : Cond.classLink RL 13 "java/lang/IllegalArgumentException" ∈ mGood := mGood_in (List.mem_of_getElem? (i := 529) (by decide +kernel)) rfl
theorem kcL_15 : Cond.classLink RL 15 "java/lang/IllegalStateException" ∈ mGood := mGood_in (List.mem_of_getElem? (i := 530) (by decide +kernel)) rfl
theorem kcL_21 : Cond.classLink RL 21 "java/lang/IndexOutOfBoundsException" ∈ mGood := mGood_in (List.mem_of_getElem? (i := 699) (by decide +kernel)) rfl
theorem kcL_23 : Cond.classLink RL 23 "java/lang/UnsupportedOperationException" ∈ mGood := mGood_in (List.mem_of_getElem? (i := 720) (by decide +kernel)) rfl
theorem kcL_32 : Cond.classLink RL 32 "java/util/NoSuchElementException" ∈ mGood := mGood_in (List.mem_of_getElem? (i := 767) (by decide +kernel)) rfl
theorem kcL_81 : Cond.classLink RL 81 "java/lang/ArithmeticException" ∈ mGood := mGood_in (List.mem_of_getElem? (i := 934) (by decide +kernel)) rfl
theorem ca_ArithmeticException : Cond.castable "java/lang/ArithmeticException" "java/lang/ArithmeticException" ∈ mNests := mNests_in (List.mem_of_getElem? (i := 946) (by decide +kernel)) rfl
theorem ca_IllegalArgumentException : Cond.castable "java/lang/IllegalArgumentException" "java/lang/IllegalArgumentException" ∈ mNests := mNests_in (List.mem_of_getElem? (i := 625) (by decide +kernel)) rfl
theorem ca_IllegalStateException : Cond.castable "java/lang/IllegalStateException" "java/lang/IllegalStateException" ∈ mNests := mNests_in (List.mem_of_getElem? (i := 642) (by decide +kernel)) rfl
theorem ca_IndexOutOfBoundsException : Cond.castable "java/lang/IndexOutOfBoundsException" "java/lang/IndexOutOfBoundsException" ∈ mNests := mNests_in (List.mem_of_getElem? (i := 552) (by decide +kernel)) rfl
theorem ca_UnsupportedOperationException : Cond.castable "java/lang/UnsupportedOperationException" "java/lang/UnsupportedOperationException" ∈ mNests := mNests_in (List.mem_of_getElem? (i := 678) (by decide +kernel)) rfl
theorem ca_NoSuchElementException : Cond.castable "java/util/NoSuchElementException" "java/util/NoSuchElementException" ∈ mNests := mNests_in (List.mem_of_getElem? (i := 660) (by decide +kernel)) rfl
theorem sk_L_addPlayer : Cond.static yL_addPlayer ∈ mGood := mGood_in (List.mem_of_getElem? (i := 527) (by decide +kernel)) rfl
theorem ml_L_118 : Cond.methodLink RL 118 yL_addPlayer ∈ mGood := mGood_in (List.mem_of_getElem? (i := 526) (by decide +kernel)) rfl
theorem ini_L : Cond.initialized RL ∈ mGood := mGood_in (List.mem_of_getElem? (i := 58) (by decide +kernel)) rfl
theorem wL_law_248 : mCallH RL cL_law 248 yL_addPlayer cL_addPlayer 4 (some .int) hh_addPlayer 3 := ⟨118, ml_L_118, sk_L_addPlayer, ini_L, cw_L_addPlayer, by decide +kernel, by decide +kernel, by decide, dL_law_248⟩
theorem sk_L_drop : Cond.static yL_drop ∈ mGood := mGood_in (List.mem_of_getElem? (i := 697) (by decide +kernel)) rfl
theorem ml_L_127 : Cond.methodLink RL 127 yL_drop ∈ mGood := mGood_in (List.mem_of_getElem? (i := 696) (by decide +kernel)) rfl
theorem wL_law_316 : mCallH RL cL_law 316 yL_drop cL_drop 6 (some .int) hh_drop 5 := ⟨127, ml_L_127, sk_L_drop, ini_L, cw_L_drop, by decide +kernel, by decide +kernel, by decide, dL_law_316⟩
theorem sk_L_pile : Cond.static yL_pile ∈ mGood := mGood_in (List.mem_of_getElem? (i := 753) (by decide +kernel)) rfl
theorem ml_L_131 : Cond.methodLink RL 131 yL_pile ∈ mGood := mGood_in (List.mem_of_getElem? (i := 752) (by decide +kernel)) rfl
theorem wL_law_390 : mCallH RL cL_law 390 yL_pile cL_pile 5 (some .int) hh_pile 4 := ⟨131, ml_L_131, sk_L_pile, ini_L, cw_L_pile, by decide +kernel, by decide +kernel, by decide, dL_law_390⟩
theorem sk_L_take : Cond.static yL_take ∈ mGood := mGood_in (List.mem_of_getElem? (i := 765) (by decide +kernel)) rfl
theorem ml_L_135 : Cond.methodLink RL 135 yL_take ∈ mGood := mGood_in (List.mem_of_getElem? (i := 764) (by decide +kernel)) rfl
theorem wL_law_458 : mCallH RL cL_law 458 yL_take cL_take 5 (some .int) hh_take 4 := ⟨135, ml_L_135, sk_L_take, ini_L, cw_L_take, by decide +kernel, by decide +kernel, by decide, dL_law_458⟩
theorem sk_L_hand : Cond.static yL_hand ∈ mGood := mGood_in (List.mem_of_getElem? (i := 783) (by decide +kernel)) rfl
theorem ml_L_146 : Cond.methodLink RL 146 yL_hand ∈ mGood := mGood_in (List.mem_of_getElem? (i := 782) (by decide +kernel)) rfl
theorem wL_law_546 : mCallH RL cL_law 546 yL_hand cL_hand 4 (some .int) hh_hand 3 := ⟨146, ml_L_146, sk_L_hand, ini_L, cw_L_hand, by decide +kernel, by decide +kernel, by decide, dL_law_546⟩
theorem sk_L_rest : Cond.static yL_rest ∈ mGood := mGood_in (List.mem_of_getElem? (i := 796) (by decide +kernel)) rfl
theorem ml_L_149 : Cond.methodLink RL 149 yL_rest ∈ mGood := mGood_in (List.mem_of_getElem? (i := 795) (by decide +kernel)) rfl
theorem wL_law_602 : mCallH RL cL_law 602 yL_rest cL_rest 4 (some .int) hh_rest 3 := ⟨149, ml_L_149, sk_L_rest, ini_L, cw_L_rest, by decide +kernel, by decide +kernel, by decide, dL_law_602⟩
theorem sk_L_setSlope : Cond.static yL_setSlope ∈ mGood := mGood_in (List.mem_of_getElem? (i := 803) (by decide +kernel)) rfl
theorem ml_L_152 : Cond.methodLink RL 152 yL_setSlope ∈ mGood := mGood_in (List.mem_of_getElem? (i := 802) (by decide +kernel)) rfl
theorem wL_law_658 : mCallH RL cL_law 658 yL_setSlope cL_setSlope 4 (some .int) hh_setSlope 3 := ⟨152, ml_L_152, sk_L_setSlope, ini_L, cw_L_setSlope, by decide +kernel, by decide +kernel, by decide, dL_law_658⟩
theorem sk_L_height : Cond.static yL_height ∈ mGood := mGood_in (List.mem_of_getElem? (i := 818) (by decide +kernel)) rfl
theorem ml_L_169 : Cond.methodLink RL 169 yL_height ∈ mGood := mGood_in (List.mem_of_getElem? (i := 817) (by decide +kernel)) rfl
theorem wL_law_781 : mCallH RL cL_law 781 yL_height cL_height 4 (some .int) hh_height 3 := ⟨169, ml_L_169, sk_L_height, ini_L, cw_L_height, by decide +kernel, by decide +kernel, by decide, dL_law_781⟩
theorem sk_L_owner : Cond.static yL_owner ∈ mGood := mGood_in (List.mem_of_getElem? (i := 830) (by decide +kernel)) rfl
theorem ml_L_172 : Cond.methodLink RL 172 yL_owner ∈ mGood := mGood_in (List.mem_of_getElem? (i := 829) (by decide +kernel)) rfl
theorem wL_law_837 : mCallH RL cL_law 837 yL_owner cL_owner 4 (some .int) hh_owner 3 := ⟨172, ml_L_172, sk_L_owner, ini_L, cw_L_owner, by decide +kernel, by decide +kernel, by decide, dL_law_837⟩
theorem sk_L_steepness : Cond.static yL_steepness ∈ mGood := mGood_in (List.mem_of_getElem? (i := 838) (by decide +kernel)) rfl
theorem ml_L_175 : Cond.methodLink RL 175 yL_steepness ∈ mGood := mGood_in (List.mem_of_getElem? (i := 837) (by decide +kernel)) rfl
theorem wL_law_893 : mCallH RL cL_law 893 yL_steepness cL_steepness 4 (some .int) hh_steepness 3 := ⟨175, ml_L_175, sk_L_steepness, ini_L, cw_L_steepness, by decide +kernel, by decide +kernel, by decide, dL_law_893⟩
theorem sk_L_lowestNeighbour : Cond.static yL_lowestNeighbour ∈ mGood := mGood_in (List.mem_of_getElem? (i := 846) (by decide +kernel)) rfl
theorem ml_L_178 : Cond.methodLink RL 178 yL_lowestNeighbour ∈ mGood := mGood_in (List.mem_of_getElem? (i := 845) (by decide +kernel)) rfl
theorem wL_law_949 : mCallH RL cL_law 949 yL_lowestNeighbour cL_lowestNeighbour 4 (some .int) hh_lowestNeighbour 3 := ⟨178, ml_L_178, sk_L_lowestNeighbour, ini_L, cw_L_lowestNeighbour, by decide +kernel, by decide +kernel, by decide, dL_law_949⟩
theorem sk_L_topplesIf : Cond.static yL_topplesIf ∈ mGood := mGood_in (List.mem_of_getElem? (i := 854) (by decide +kernel)) rfl
theorem ml_L_193 : Cond.methodLink RL 193 yL_topplesIf ∈ mGood := mGood_in (List.mem_of_getElem? (i := 853) (by decide +kernel)) rfl
theorem wL_law_1050 : mCallH RL cL_law 1050 yL_topplesIf cL_topplesIf 5 (some .int) hh_topplesIf 4 := ⟨193, ml_L_193, sk_L_topplesIf, ini_L, cw_L_topplesIf, by decide +kernel, by decide +kernel, by decide, dL_law_1050⟩
theorem sk_L_topplesIfByScan : Cond.static yL_topplesIfByScan ∈ mGood := mGood_in (List.mem_of_getElem? (i := 866) (by decide +kernel)) rfl
theorem ml_L_196 : Cond.methodLink RL 196 yL_topplesIfByScan ∈ mGood := mGood_in (List.mem_of_getElem? (i := 865) (by decide +kernel)) rfl
theorem wL_law_1118 : mCallH RL cL_law 1118 yL_topplesIfByScan cL_topplesIfByScan 5 (some .int) hh_topplesIfByScan 4 := ⟨196, ml_L_196, sk_L_topplesIfByScan, ini_L, cw_L_topplesIfByScan, by decide +kernel, by decide +kernel, by decide, dL_law_1118⟩
theorem sk_L_isPeak : Cond.static yL_isPeak ∈ mGood := mGood_in (List.mem_of_getElem? (i := 873) (by decide +kernel)) rfl
theorem ml_L_199 : Cond.methodLink RL 199 yL_isPeak ∈ mGood := mGood_in (List.mem_of_getElem? (i := 872) (by decide +kernel)) rfl
theorem wL_law_1180 : mCallH RL cL_law 1180 yL_isPeak cL_isPeak 4 (some .int) hh_isPeak 3 := ⟨199, ml_L_199, sk_L_isPeak, ini_L, cw_L_isPeak, by decide +kernel, by decide +kernel, by decide, dL_law_1180⟩
theorem sk_L_peakAt : Cond.static yL_peakAt ∈ mGood := mGood_in (List.mem_of_getElem? (i := 881) (by decide +kernel)) rfl
theorem ml_L_206 : Cond.methodLink RL 206 yL_peakAt ∈ mGood := mGood_in (List.mem_of_getElem? (i := 880) (by decide +kernel)) rfl
theorem wL_law_1256 : mCallH RL cL_law 1256 yL_peakAt cL_peakAt 4 (some .int) hh_peakAt 3 := ⟨206, ml_L_206, sk_L_peakAt, ini_L, cw_L_peakAt, by decide +kernel, by decide +kernel, by decide, dL_law_1256⟩
theorem sk_L_crowns : Cond.static yL_crowns ∈ mGood := mGood_in (List.mem_of_getElem? (i := 893) (by decide +kernel)) rfl
theorem ml_L_209 : Cond.methodLink RL 209 yL_crowns ∈ mGood := mGood_in (List.mem_of_getElem? (i := 892) (by decide +kernel)) rfl
theorem wL_law_1312 : mCallH RL cL_law 1312 yL_crowns cL_crowns 4 (some .int) hh_crowns 3 := ⟨209, ml_L_209, sk_L_crowns, ini_L, cw_L_crowns, by decide +kernel, by decide +kernel, by decide, dL_law_1312⟩
theorem sk_L_score : Cond.static yL_score ∈ mGood := mGood_in (List.mem_of_getElem? (i := 904) (by decide +kernel)) rfl
theorem ml_L_212 : Cond.methodLink RL 212 yL_score ∈ mGood := mGood_in (List.mem_of_getElem? (i := 903) (by decide +kernel)) rfl
theorem wL_law_1368 : mCallH RL cL_law 1368 yL_score cL_score 4 (some .int) hh_score 3 := ⟨212, ml_L_212, sk_L_score, ini_L, cw_L_score, by decide +kernel, by decide +kernel, by decide, dL_law_1368⟩
theorem sk_L_playerAtRank : Cond.static yL_playerAtRank ∈ mGood := mGood_in (List.mem_of_getElem? (i := 915) (by decide +kernel)) rfl
theorem ml_L_215 : Cond.methodLink RL 215 yL_playerAtRank ∈ mGood := mGood_in (List.mem_of_getElem? (i := 914) (by decide +kernel)) rfl
theorem wL_law_1424 : mCallH RL cL_law 1424 yL_playerAtRank cL_playerAtRank 4 (some .int) hh_playerAtRank 3 := ⟨215, ml_L_215, sk_L_playerAtRank, ini_L, cw_L_playerAtRank, by decide +kernel, by decide +kernel, by decide, dL_law_1424⟩
theorem sk_L_crownShare : Cond.static yL_crownShare ∈ mGood := mGood_in (List.mem_of_getElem? (i := 932) (by decide +kernel)) rfl
theorem ml_L_218 : Cond.methodLink RL 218 yL_crownShare ∈ mGood := mGood_in (List.mem_of_getElem? (i := 931) (by decide +kernel)) rfl
theorem wL_law_1481 : mCallH RL cL_law 1481 yL_crownShare cL_crownShare 4 (some .int) hh_crownShare 3 := ⟨218, ml_L_218, sk_L_crownShare, ini_L, cw_L_crownShare, by decide +kernel, by decide +kernel, by decide, dL_law_1481⟩
theorem sk_L_append : Cond.static yL_append ∈ mGood := mGood_in (List.mem_of_getElem? (i := 956) (by decide +kernel)) rfl
theorem ml_L_246 : Cond.methodLink RL 246 yL_append ∈ mGood := mGood_in (List.mem_of_getElem? (i := 955) (by decide +kernel)) rfl
theorem wL_law_1637 : mCallH RL cL_law 1637 yL_append cL_append 4 (some .int) hh_append 3 := ⟨246, ml_L_246, sk_L_append, ini_L, cw_L_append, by decide +kernel, by decide +kernel, by decide, dL_law_1637⟩
theorem sk_L_run : Cond.static yL_run ∈ mGood := mGood_in (List.mem_of_getElem? (i := 1063) (by decide +kernel)) rfl
theorem ml_L_250 : Cond.methodLink RL 250 yL_run ∈ mGood := mGood_in (List.mem_of_getElem? (i := 1062) (by decide +kernel)) rfl
theorem wL_law_1688 : mCallH RL cL_law 1688 yL_run cL_run 3 (some .int) hh_run 2 := ⟨250, ml_L_250, sk_L_run, ini_L, cw_L_run, by decide +kernel, by decide +kernel, by decide, dL_law_1688⟩
theorem sk_L_errorPosition : Cond.static yL_errorPosition ∈ mGood := mGood_in (List.mem_of_getElem? (i := 1334) (by decide +kernel)) rfl
theorem ml_L_254 : Cond.methodLink RL 254 yL_errorPosition ∈ mGood := mGood_in (List.mem_of_getElem? (i := 1333) (by decide +kernel)) rfl
theorem wL_law_1732 : mCallH RL cL_law 1732 yL_errorPosition cL_errorPosition 3 (some .int) hh_errorPosition 2 := ⟨254, ml_L_254, sk_L_errorPosition, ini_L, cw_L_errorPosition, by decide +kernel, by decide +kernel, by decide, dL_law_1732⟩
theorem sk_L_failedCommand : Cond.static yL_failedCommand ∈ mGood := mGood_in (List.mem_of_getElem? (i := 1342) (by decide +kernel)) rfl
theorem ml_L_257 : Cond.methodLink RL 257 yL_failedCommand ∈ mGood := mGood_in (List.mem_of_getElem? (i := 1341) (by decide +kernel)) rfl
theorem wL_law_1776 : mCallH RL cL_law 1776 yL_failedCommand cL_failedCommand 3 (some .int) hh_failedCommand 2 := ⟨257, ml_L_257, sk_L_failedCommand, ini_L, cw_L_failedCommand, by decide +kernel, by decide +kernel, by decide, dL_law_1776⟩
theorem sk_L_describeRow : Cond.static yL_describeRow ∈ mGood := mGood_in (List.mem_of_getElem? (i := 1350) (by decide +kernel)) rfl
theorem ml_L_260 : Cond.methodLink RL 260 yL_describeRow ∈ mGood := mGood_in (List.mem_of_getElem? (i := 1349) (by decide +kernel)) rfl
theorem wL_law_1826 : mCallH RL cL_law 1826 yL_describeRow cL_describeRow 4 (some .int) hh_describeRow 3 := ⟨260, ml_L_260, sk_L_describeRow, ini_L, cw_L_describeRow, by decide +kernel, by decide +kernel, by decide, dL_law_1826⟩
theorem sk_L_lineAt : Cond.static yL_lineAt ∈ mGood := mGood_in (List.mem_of_getElem? (i := 1363) (by decide +kernel)) rfl
theorem ml_L_263 : Cond.methodLink RL 263 yL_lineAt ∈ mGood := mGood_in (List.mem_of_getElem? (i := 1362) (by decide +kernel)) rfl
theorem wL_law_1882 : mCallH RL cL_law 1882 yL_lineAt cL_lineAt 4 (some .int) hh_lineAt 3 := ⟨263, ml_L_263, sk_L_lineAt, ini_L, cw_L_lineAt, by decide +kernel, by decide +kernel, by decide, dL_law_1882⟩
theorem sk_L_meanAvalanche : Cond.static yL_meanAvalanche ∈ mGood := mGood_in (List.mem_of_getElem? (i := 1372) (by decide +kernel)) rfl
theorem ml_L_266 : Cond.methodLink RL 266 yL_meanAvalanche ∈ mGood := mGood_in (List.mem_of_getElem? (i := 1371) (by decide +kernel)) rfl
theorem wL_law_1933 : mCallH RL cL_law 1933 yL_meanAvalanche cL_meanAvalanche 3 (some .int) hh_meanAvalanche 2 := ⟨266, ml_L_266, sk_L_meanAvalanche, ini_L, cw_L_meanAvalanche, by decide +kernel, by decide +kernel, by decide, dL_law_1933⟩
theorem sk_L_undo : Cond.static yL_undo ∈ mGood := mGood_in (List.mem_of_getElem? (i := 1380) (by decide +kernel)) rfl
theorem ml_L_274 : Cond.methodLink RL 274 yL_undo ∈ mGood := mGood_in (List.mem_of_getElem? (i := 1379) (by decide +kernel)) rfl
theorem wL_law_2010 : mCallH RL cL_law 2010 yL_undo cL_undo 3 (some .int) hh_undo 2 := ⟨274, ml_L_274, sk_L_undo, ini_L, cw_L_undo, by decide +kernel, by decide +kernel, by decide, dL_law_2010⟩
theorem sk_L_restore : Cond.static yL_restore ∈ mGood := mGood_in (List.mem_of_getElem? (i := 1388) (by decide +kernel)) rfl
theorem ml_L_281 : Cond.methodLink RL 281 yL_restore ∈ mGood := mGood_in (List.mem_of_getElem? (i := 1387) (by decide +kernel)) rfl
theorem wL_law_2067 : mCallH RL cL_law 2067 yL_restore cL_restore 3 (some .int) hh_restore 2 := ⟨281, ml_L_281, sk_L_restore, ini_L, cw_L_restore, by decide +kernel, by decide +kernel, by decide, dL_law_2067⟩
end LF
