def RX0 : String := "HillContest$1"
def TX0 : u_T := fun k => match k with
  | _ => ("", "", "", false)
def tyX0 : Nat → FieldType := fun k => match k with
  | _ => .int
theorem nmX0 : ∀ a, a < 0 → ∀ b, b < 0 → a ≠ b → (TX0 a).2.1 ≠ (TX0 b).2.1 := by decide +kernel
theorem tyX0_ok : ∀ k, k < 0 → parseFieldDescriptor (TX0 k).2.2.1 = some (tyX0 k) := by decide +kernel
def RX1 : String := "HillContest$Command"
def TX1 : u_T := fun k => match k with
  | 0 => ("HillContest$Command", "keyword", "LHillContest$Keyword;", false)
  | 1 => ("HillContest$Command", "first", "I", false)
  | 2 => ("HillContest$Command", "second", "I", false)
  | _ => ("HillContest$Command", "third", "I", false)
def tyX1 : Nat → FieldType := fun k => match k with
  | 0 => .object "HillContest$Keyword"
  | 1 => .int
  | 2 => .int
  | _ => .int
theorem nmX1 : ∀ a, a < 4 → ∀ b, b < 4 → a ≠ b → (TX1 a).2.1 ≠ (TX1 b).2.1 := by decide +kernel
theorem tyX1_ok : ∀ k, k < 4 → parseFieldDescriptor (TX1 k).2.2.1 = some (tyX1 k) := by decide +kernel
abbrev cX1_init : ByteArray := prog_3_method_1_code
def yX1_init : MethodName := ⟨RX1, "<init>", "()V"⟩
abbrev cX1_setNumber : ByteArray := prog_3_method_2_code
def yX1_setNumber : MethodName := ⟨RX1, "setNumber", "(II)V"⟩
def RX2 : String := "HillContest$CommandText"
def TX2 : u_T := fun k => match k with
  | 0 => ("HillContest$CommandText", "signs", "Ljava/lang/StringBuilder;", true)
  | 1 => ("HillContest$CommandText", "commands", "[LHillContest$Command;", true)
  | 2 => ("HillContest$CommandText", "count", "I", false)
  | _ => ("HillContest$CommandText", "position", "I", false)
def tyX2 : Nat → FieldType := fun k => match k with
  | 0 => .object "java/lang/StringBuilder"
  | 1 => .array (.object "HillContest$Command")
  | 2 => .int
  | _ => .int
theorem nmX2 : ∀ a, a < 4 → ∀ b, b < 4 → a ≠ b → (TX2 a).2.1 ≠ (TX2 b).2.1 := by decide +kernel
theorem tyX2_ok : ∀ k, k < 4 → parseFieldDescriptor (TX2 k).2.2.1 = some (tyX2 k) := by decide +kernel
abbrev cX2_init : ByteArray := prog_4_method_1_code
def yX2_init : MethodName := ⟨RX2, "<init>", "()V"⟩
abbrev cX2_readAll : ByteArray := prog_4_method_2_code
def yX2_readAll : MethodName := ⟨RX2, "readAll", "()Z"⟩
abbrev cX2_readCommand : ByteArray := prog_4_method_3_code
def yX2_readCommand : MethodName := ⟨RX2, "readCommand", "(LHillContest$Command;)Z"⟩
abbrev cX2_readKeyword : ByteArray := prog_4_method_4_code
def yX2_readKeyword : MethodName := ⟨RX2, "readKeyword", "(LHillContest$Command;)Z"⟩
abbrev cX2_countAlike : ByteArray := prog_4_method_5_code
def yX2_countAlike : MethodName := ⟨RX2, "countAlike", "(Ljava/lang/String;)I"⟩
abbrev cX2_readSign : ByteArray := prog_4_method_6_code
def yX2_readSign : MethodName := ⟨RX2, "readSign", "(C)Z"⟩
abbrev cX2_isDigitNext : ByteArray := prog_4_method_7_code
def yX2_isDigitNext : MethodName := ⟨RX2, "isDigitNext", "()Z"⟩
abbrev cX2_readNumber : ByteArray := prog_4_method_8_code
def yX2_readNumber : MethodName := ⟨RX2, "readNumber", "(Z)I"⟩
abbrev cX2_readDigit : ByteArray := prog_4_method_9_code
def yX2_readDigit : MethodName := ⟨RX2, "readDigit", "()I"⟩
def RX3 : String := "HillContest$Fault"
def TX3 : u_T := fun k => match k with
  | _ => ("", "", "", false)
def tyX3 : Nat → FieldType := fun k => match k with
  | _ => .int
theorem nmX3 : ∀ a, a < 0 → ∀ b, b < 0 → a ≠ b → (TX3 a).2.1 ≠ (TX3 b).2.1 := by decide +kernel
theorem tyX3_ok : ∀ k, k < 0 → parseFieldDescriptor (TX3 k).2.2.1 = some (tyX3 k) := by decide +kernel
def RX4 : String := "HillContest$Hill"
def TX4 : u_T := fun k => match k with
  | 0 => ("HillContest$Hill", "heights", "[I", true)
  | 1 => ("HillContest$Hill", "owners", "[I", true)
  | 2 => ("HillContest$Hill", "slope", "I", false)
  | 3 => ("HillContest$Hill", "isOpen", "Z", false)
  | _ => ("HillContest$Hill", "lost", "I", false)
def tyX4 : Nat → FieldType := fun k => match k with
  | 0 => .array .int
  | 1 => .array .int
  | 2 => .int
  | 3 => .boolean
  | _ => .int
theorem nmX4 : ∀ a, a < 5 → ∀ b, b < 5 → a ≠ b → (TX4 a).2.1 ≠ (TX4 b).2.1 := by decide +kernel
theorem tyX4_ok : ∀ k, k < 5 → parseFieldDescriptor (TX4 k).2.2.1 = some (tyX4 k) := by decide +kernel
abbrev cX4_init : ByteArray := prog_6_method_1_code
def yX4_init : MethodName := ⟨RX4, "<init>", "()V"⟩
abbrev cX4_copyFrom : ByteArray := prog_6_method_2_code
def yX4_copyFrom : MethodName := ⟨RX4, "copyFrom", "(LHillContest$Hill;)V"⟩
abbrev cX4_place : ByteArray := prog_6_method_3_code
def yX4_place : MethodName := ⟨RX4, "place", "(III)V"⟩
abbrev cX4_removeStone : ByteArray := prog_6_method_4_code
def yX4_removeStone : MethodName := ⟨RX4, "removeStone", "(I)V"⟩
abbrev cX4_findLowestNeighbour : ByteArray := prog_6_method_5_code
def yX4_findLowestNeighbour : MethodName := ⟨RX4, "findLowestNeighbour", "(I)I"⟩
abbrev cX4_steepnessOf : ByteArray := prog_6_method_6_code
def yX4_steepnessOf : MethodName := ⟨RX4, "steepnessOf", "(I)I"⟩
abbrev cX4_findHighestUnstable : ByteArray := prog_6_method_7_code
def yX4_findHighestUnstable : MethodName := ⟨RX4, "findHighestUnstable", "()I"⟩
abbrev cX4_topple : ByteArray := prog_6_method_8_code
def yX4_topple : MethodName := ⟨RX4, "topple", "(I)I"⟩
abbrev cX4_comeToRest : ByteArray := prog_6_method_9_code
def yX4_comeToRest : MethodName := ⟨RX4, "comeToRest", "()I"⟩
abbrev cX4_countByCells : ByteArray := prog_6_method_10_code
def yX4_countByCells : MethodName := ⟨RX4, "countByCells", "()I"⟩
abbrev cX4_countByLevels : ByteArray := prog_6_method_11_code
def yX4_countByLevels : MethodName := ⟨RX4, "countByLevels", "()I"⟩
abbrev cX4_findHighest : ByteArray := prog_6_method_12_code
def yX4_findHighest : MethodName := ⟨RX4, "findHighest", "()I"⟩
abbrev cX4_isSummit : ByteArray := prog_6_method_13_code
def yX4_isSummit : MethodName := ⟨RX4, "isSummit", "(I)Z"⟩
abbrev cX4_countPeaks : ByteArray := prog_6_method_14_code
def yX4_countPeaks : MethodName := ⟨RX4, "countPeaks", "()I"⟩
abbrev cX4_countPeaksAhead : ByteArray := prog_6_method_15_code
def yX4_countPeaksAhead : MethodName := ⟨RX4, "countPeaksAhead", "(I)I"⟩
abbrev cX4_countPeaksOf : ByteArray := prog_6_method_16_code
def yX4_countPeaksOf : MethodName := ⟨RX4, "countPeaksOf", "(I)I"⟩
abbrev cX4_sumPeaksOf : ByteArray := prog_6_method_17_code
def yX4_sumPeaksOf : MethodName := ⟨RX4, "sumPeaksOf", "(I)I"⟩
def RX5 : String := "HillContest$Keyword"
def TX5 : u_T := fun k => match k with
  | _ => ("", "", "", false)
def tyX5 : Nat → FieldType := fun k => match k with
  | _ => .int
theorem nmX5 : ∀ a, a < 0 → ∀ b, b < 0 → a ≠ b → (TX5 a).2.1 ≠ (TX5 b).2.1 := by decide +kernel
theorem tyX5_ok : ∀ k, k < 0 → parseFieldDescriptor (TX5 k).2.2.1 = some (tyX5 k) := by decide +kernel
def RX6 : String := "HillContest$State"
def TX6 : u_T := fun k => match k with
  | 0 => ("HillContest$State", "hill", "LHillContest$Hill;", true)
  | 1 => ("HillContest$State", "hands", "[I", true)
  | 2 => ("HillContest$State", "rests", "[I", true)
  | 3 => ("HillContest$State", "players", "I", false)
  | 4 => ("HillContest$State", "topples", "I", false)
  | 5 => ("HillContest$State", "avalanches", "I", false)
  | 6 => ("HillContest$State", "largest", "I", false)
  | 7 => ("HillContest$State", "placed", "I", false)
  | _ => ("HillContest$State", "taken", "I", false)
def tyX6 : Nat → FieldType := fun k => match k with
  | 0 => .object "HillContest$Hill"
  | 1 => .array .int
  | 2 => .array .int
  | 3 => .int
  | 4 => .int
  | 5 => .int
  | 6 => .int
  | 7 => .int
  | _ => .int
theorem nmX6 : ∀ a, a < 9 → ∀ b, b < 9 → a ≠ b → (TX6 a).2.1 ≠ (TX6 b).2.1 := by decide +kernel
theorem tyX6_ok : ∀ k, k < 9 → parseFieldDescriptor (TX6 k).2.2.1 = some (tyX6 k) := by decide +kernel
abbrev cX6_init : ByteArray := prog_8_method_1_code
def yX6_init : MethodName := ⟨RX6, "<init>", "()V"⟩
abbrev cX6_copyFrom : ByteArray := prog_8_method_2_code
def yX6_copyFrom : MethodName := ⟨RX6, "copyFrom", "(LHillContest$State;)V"⟩
abbrev cX6_hasPlayer : ByteArray := prog_8_method_3_code
def yX6_hasPlayer : MethodName := ⟨RX6, "hasPlayer", "(I)Z"⟩
abbrev cX6_faultOfEntry : ByteArray := prog_8_method_4_code
def yX6_faultOfEntry : MethodName := ⟨RX6, "faultOfEntry", "(I)LHillContest$Fault;"⟩
abbrev cX6_enterPlayer : ByteArray := prog_8_method_5_code
def yX6_enterPlayer : MethodName := ⟨RX6, "enterPlayer", "(I)I"⟩
abbrev cX6_faultOfDrop : ByteArray := prog_8_method_6_code
def yX6_faultOfDrop : MethodName := ⟨RX6, "faultOfDrop", "(III)LHillContest$Fault;"⟩
abbrev cX6_dropStones : ByteArray := prog_8_method_7_code
def yX6_dropStones : MethodName := ⟨RX6, "dropStones", "(III)I"⟩
abbrev cX6_faultOfPile : ByteArray := prog_8_method_8_code
def yX6_faultOfPile : MethodName := ⟨RX6, "faultOfPile", "(II)LHillContest$Fault;"⟩
abbrev cX6_pileStones : ByteArray := prog_8_method_9_code
def yX6_pileStones : MethodName := ⟨RX6, "pileStones", "(II)I"⟩
abbrev cX6_faultOfTake : ByteArray := prog_8_method_10_code
def yX6_faultOfTake : MethodName := ⟨RX6, "faultOfTake", "(II)LHillContest$Fault;"⟩
abbrev cX6_takeStone : ByteArray := prog_8_method_11_code
def yX6_takeStone : MethodName := ⟨RX6, "takeStone", "(II)I"⟩
abbrev cX6_passRound : ByteArray := prog_8_method_12_code
def yX6_passRound : MethodName := ⟨RX6, "passRound", "(I)V"⟩
abbrev cX6_countResting : ByteArray := prog_8_method_13_code
def yX6_countResting : MethodName := ⟨RX6, "countResting", "()I"⟩
abbrev cX6_faultOfSlope : ByteArray := prog_8_method_14_code
def yX6_faultOfSlope : MethodName := ⟨RX6, "faultOfSlope", "(I)LHillContest$Fault;"⟩
abbrev cX6_changeSlope : ByteArray := prog_8_method_15_code
def yX6_changeSlope : MethodName := ⟨RX6, "changeSlope", "(I)I"⟩
abbrev cX6_changeBorder : ByteArray := prog_8_method_16_code
def yX6_changeBorder : MethodName := ⟨RX6, "changeBorder", "(Z)V"⟩
abbrev cX6_countAvalanche : ByteArray := prog_8_method_17_code
def yX6_countAvalanche : MethodName := ⟨RX6, "countAvalanche", "(I)I"⟩
abbrev cX6_countPlayersAhead : ByteArray := prog_8_method_18_code
def yX6_countPlayersAhead : MethodName := ⟨RX6, "countPlayersAhead", "(I)I"⟩
abbrev cX6_isAhead : ByteArray := prog_8_method_19_code
def yX6_isAhead : MethodName := ⟨RX6, "isAhead", "(II)Z"⟩
def RX7 : String := "HillContest$Trial"
def TX7 : u_T := fun k => match k with
  | 0 => ("HillContest$Trial", "hill", "LHillContest$Hill;", true)
  | 1 => ("HillContest$Trial", "queue", "[I", true)
  | _ => ("HillContest$Trial", "size", "I", false)
def tyX7 : Nat → FieldType := fun k => match k with
  | 0 => .object "HillContest$Hill"
  | 1 => .array .int
  | _ => .int
theorem nmX7 : ∀ a, a < 3 → ∀ b, b < 3 → a ≠ b → (TX7 a).2.1 ≠ (TX7 b).2.1 := by decide +kernel
theorem tyX7_ok : ∀ k, k < 3 → parseFieldDescriptor (TX7 k).2.2.1 = some (tyX7 k) := by decide +kernel
abbrev cX7_init : ByteArray := prog_9_method_1_code
def yX7_init : MethodName := ⟨RX7, "<init>", "()V"⟩
abbrev cX7_countByScan : ByteArray := prog_9_method_2_code
def yX7_countByScan : MethodName := ⟨RX7, "countByScan", "(LHillContest$Hill;II)I"⟩
abbrev cX7_countByQueue : ByteArray := prog_9_method_3_code
def yX7_countByQueue : MethodName := ⟨RX7, "countByQueue", "(LHillContest$Hill;II)I"⟩
abbrev cX7_begin : ByteArray := prog_9_method_4_code
def yX7_begin : MethodName := ⟨RX7, "begin", "(LHillContest$Hill;II)V"⟩
abbrev cX7_fillQueue : ByteArray := prog_9_method_5_code
def yX7_fillQueue : MethodName := ⟨RX7, "fillQueue", "()V"⟩
abbrev cX7_removeFirst : ByteArray := prog_9_method_6_code
def yX7_removeFirst : MethodName := ⟨RX7, "removeFirst", "()I"⟩
abbrev cX7_refreshAround : ByteArray := prog_9_method_7_code
def yX7_refreshAround : MethodName := ⟨RX7, "refreshAround", "(I)V"⟩
abbrev cX7_refresh : ByteArray := prog_9_method_8_code
def yX7_refresh : MethodName := ⟨RX7, "refresh", "(I)V"⟩
abbrev cX7_remove : ByteArray := prog_9_method_9_code
def yX7_remove : MethodName := ⟨RX7, "remove", "(I)V"⟩
abbrev cX7_insert : ByteArray := prog_9_method_10_code
def yX7_insert : MethodName := ⟨RX7, "insert", "(I)V"⟩
abbrev cX7_comesBefore : ByteArray := prog_9_method_11_code
def yX7_comesBefore : MethodName := ⟨RX7, "comesBefore", "(II)Z"⟩
def RX8 : String := "HillContest"
def TX8 : u_T := fun k => match k with
  | 0 => ("HillContest", "now", "LHillContest$State;", true)
  | 1 => ("HillContest", "beforeRun", "LHillContest$State;", true)
  | 2 => ("HillContest", "snapshot", "LHillContest$State;", true)
  | 3 => ("HillContest", "hasSnapshot", "Z", false)
  | 4 => ("HillContest", "history", "[LHillContest$State;", true)
  | 5 => ("HillContest", "oldestInHistory", "I", false)
  | 6 => ("HillContest", "undoable", "I", false)
  | 7 => ("HillContest", "trial", "LHillContest$Trial;", true)
  | 8 => ("HillContest", "commandText", "LHillContest$CommandText;", true)
  | 9 => ("HillContest", "lastErrorPosition", "I", false)
  | 10 => ("HillContest", "lastFailedCommand", "I", false)
  | _ => ("HillContest", "line", "Ljava/lang/StringBuilder;", true)
def tyX8 : Nat → FieldType := fun k => match k with
  | 0 => .object "HillContest$State"
  | 1 => .object "HillContest$State"
  | 2 => .object "HillContest$State"
  | 3 => .boolean
  | 4 => .array (.object "HillContest$State")
  | 5 => .int
  | 6 => .int
  | 7 => .object "HillContest$Trial"
  | 8 => .object "HillContest$CommandText"
  | 9 => .int
  | 10 => .int
  | _ => .object "java/lang/StringBuilder"
theorem nmX8 : ∀ a, a < 12 → ∀ b, b < 12 → a ≠ b → (TX8 a).2.1 ≠ (TX8 b).2.1 := by decide +kernel
theorem tyX8_ok : ∀ k, k < 12 → parseFieldDescriptor (TX8 k).2.2.1 = some (tyX8 k) := by decide +kernel
abbrev cX8_init : ByteArray := prog_1_method_1_code
def yX8_init : MethodName := ⟨RX8, "<init>", "()V"⟩
abbrev cX8_addPlayer : ByteArray := prog_1_method_2_code
def yX8_addPlayer : MethodName := ⟨RX8, "addPlayer", "(I)I"⟩
abbrev cX8_drop : ByteArray := prog_1_method_3_code
def yX8_drop : MethodName := ⟨RX8, "drop", "(III)I"⟩
abbrev cX8_pile : ByteArray := prog_1_method_4_code
def yX8_pile : MethodName := ⟨RX8, "pile", "(II)I"⟩
abbrev cX8_take : ByteArray := prog_1_method_5_code
def yX8_take : MethodName := ⟨RX8, "take", "(II)I"⟩
abbrev cX8_skip : ByteArray := prog_1_method_6_code
def yX8_skip : MethodName := ⟨RX8, "skip", "()I"⟩
abbrev cX8_playerCount : ByteArray := prog_1_method_7_code
def yX8_playerCount : MethodName := ⟨RX8, "playerCount", "()I"⟩
abbrev cX8_hand : ByteArray := prog_1_method_8_code
def yX8_hand : MethodName := ⟨RX8, "hand", "(I)I"⟩
abbrev cX8_rest : ByteArray := prog_1_method_9_code
def yX8_rest : MethodName := ⟨RX8, "rest", "(I)I"⟩
abbrev cX8_setSlope : ByteArray := prog_1_method_10_code
def yX8_setSlope : MethodName := ⟨RX8, "setSlope", "(I)I"⟩
abbrev cX8_setBorder : ByteArray := prog_1_method_11_code
def yX8_setBorder : MethodName := ⟨RX8, "setBorder", "(Z)Z"⟩
abbrev cX8_criticalSlope : ByteArray := prog_1_method_12_code
def yX8_criticalSlope : MethodName := ⟨RX8, "criticalSlope", "()I"⟩
abbrev cX8_isBorderOpen : ByteArray := prog_1_method_13_code
def yX8_isBorderOpen : MethodName := ⟨RX8, "isBorderOpen", "()Z"⟩
abbrev cX8_height : ByteArray := prog_1_method_14_code
def yX8_height : MethodName := ⟨RX8, "height", "(I)I"⟩
abbrev cX8_owner : ByteArray := prog_1_method_15_code
def yX8_owner : MethodName := ⟨RX8, "owner", "(I)I"⟩
abbrev cX8_steepness : ByteArray := prog_1_method_16_code
def yX8_steepness : MethodName := ⟨RX8, "steepness", "(I)I"⟩
abbrev cX8_lowestNeighbour : ByteArray := prog_1_method_17_code
def yX8_lowestNeighbour : MethodName := ⟨RX8, "lowestNeighbour", "(I)I"⟩
abbrev cX8_stonesOnHill : ByteArray := prog_1_method_18_code
def yX8_stonesOnHill : MethodName := ⟨RX8, "stonesOnHill", "()I"⟩
abbrev cX8_stonesByLevels : ByteArray := prog_1_method_19_code
def yX8_stonesByLevels : MethodName := ⟨RX8, "stonesByLevels", "()I"⟩
abbrev cX8_highestCell : ByteArray := prog_1_method_20_code
def yX8_highestCell : MethodName := ⟨RX8, "highestCell", "()I"⟩
abbrev cX8_topplesIf : ByteArray := prog_1_method_21_code
def yX8_topplesIf : MethodName := ⟨RX8, "topplesIf", "(II)I"⟩
abbrev cX8_topplesIfByScan : ByteArray := prog_1_method_22_code
def yX8_topplesIfByScan : MethodName := ⟨RX8, "topplesIfByScan", "(II)I"⟩
abbrev cX8_isPeak : ByteArray := prog_1_method_23_code
def yX8_isPeak : MethodName := ⟨RX8, "isPeak", "(I)Z"⟩
abbrev cX8_peakCount : ByteArray := prog_1_method_24_code
def yX8_peakCount : MethodName := ⟨RX8, "peakCount", "()I"⟩
abbrev cX8_peakAt : ByteArray := prog_1_method_25_code
def yX8_peakAt : MethodName := ⟨RX8, "peakAt", "(I)I"⟩
abbrev cX8_crowns : ByteArray := prog_1_method_26_code
def yX8_crowns : MethodName := ⟨RX8, "crowns", "(I)I"⟩
abbrev cX8_score : ByteArray := prog_1_method_27_code
def yX8_score : MethodName := ⟨RX8, "score", "(I)I"⟩
abbrev cX8_playerAtRank : ByteArray := prog_1_method_28_code
def yX8_playerAtRank : MethodName := ⟨RX8, "playerAtRank", "(I)I"⟩
abbrev cX8_crownShare : ByteArray := prog_1_method_29_code
def yX8_crownShare : MethodName := ⟨RX8, "crownShare", "(I)F"⟩
abbrev cX8_toppleTotal : ByteArray := prog_1_method_30_code
def yX8_toppleTotal : MethodName := ⟨RX8, "toppleTotal", "()I"⟩
abbrev cX8_avalancheCount : ByteArray := prog_1_method_31_code
def yX8_avalancheCount : MethodName := ⟨RX8, "avalancheCount", "()I"⟩
abbrev cX8_largestAvalanche : ByteArray := prog_1_method_32_code
def yX8_largestAvalanche : MethodName := ⟨RX8, "largestAvalanche", "()I"⟩
abbrev cX8_placedTotal : ByteArray := prog_1_method_33_code
def yX8_placedTotal : MethodName := ⟨RX8, "placedTotal", "()I"⟩
abbrev cX8_lostTotal : ByteArray := prog_1_method_34_code
def yX8_lostTotal : MethodName := ⟨RX8, "lostTotal", "()I"⟩
abbrev cX8_takenTotal : ByteArray := prog_1_method_35_code
def yX8_takenTotal : MethodName := ⟨RX8, "takenTotal", "()I"⟩
abbrev cX8_append : ByteArray := prog_1_method_36_code
def yX8_append : MethodName := ⟨RX8, "append", "(C)I"⟩
abbrev cX8_run : ByteArray := prog_1_method_37_code
def yX8_run : MethodName := ⟨RX8, "run", "()I"⟩
abbrev cX8_errorPosition : ByteArray := prog_1_method_38_code
def yX8_errorPosition : MethodName := ⟨RX8, "errorPosition", "()I"⟩
abbrev cX8_failedCommand : ByteArray := prog_1_method_39_code
def yX8_failedCommand : MethodName := ⟨RX8, "failedCommand", "()I"⟩
abbrev cX8_describeRow : ByteArray := prog_1_method_40_code
def yX8_describeRow : MethodName := ⟨RX8, "describeRow", "(I)I"⟩
abbrev cX8_lineAt : ByteArray := prog_1_method_41_code
def yX8_lineAt : MethodName := ⟨RX8, "lineAt", "(I)C"⟩
abbrev cX8_meanAvalanche : ByteArray := prog_1_method_42_code
def yX8_meanAvalanche : MethodName := ⟨RX8, "meanAvalanche", "()D"⟩
abbrev cX8_isConsistent : ByteArray := prog_1_method_43_code
def yX8_isConsistent : MethodName := ⟨RX8, "isConsistent", "()Z"⟩
abbrev cX8_undo : ByteArray := prog_1_method_44_code
def yX8_undo : MethodName := ⟨RX8, "undo", "()I"⟩
abbrev cX8_save : ByteArray := prog_1_method_45_code
def yX8_save : MethodName := ⟨RX8, "save", "()I"⟩
abbrev cX8_restore : ByteArray := prog_1_method_46_code
def yX8_restore : MethodName := ⟨RX8, "restore", "()I"⟩
abbrev cX8_throwIfAny : ByteArray := prog_1_method_47_code
def yX8_throwIfAny : MethodName := ⟨RX8, "throwIfAny", "(LHillContest$Fault;)V"⟩
abbrev cX8_requirePlayer : ByteArray := prog_1_method_48_code
def yX8_requirePlayer : MethodName := ⟨RX8, "requirePlayer", "(I)V"⟩
abbrev cX8_requireCell : ByteArray := prog_1_method_49_code
def yX8_requireCell : MethodName := ⟨RX8, "requireCell", "(I)V"⟩
abbrev cX8_requireStones : ByteArray := prog_1_method_50_code
def yX8_requireStones : MethodName := ⟨RX8, "requireStones", "(I)V"⟩
abbrev cX8_isCell : ByteArray := prog_1_method_51_code
def yX8_isCell : MethodName := ⟨RX8, "isCell", "(I)Z"⟩
abbrev cX8_isPlaceable : ByteArray := prog_1_method_52_code
def yX8_isPlaceable : MethodName := ⟨RX8, "isPlaceable", "(I)Z"⟩
abbrev cX8_keepForUndo : ByteArray := prog_1_method_53_code
def yX8_keepForUndo : MethodName := ⟨RX8, "keepForUndo", "(LHillContest$State;)V"⟩
abbrev cX8_faultOf : ByteArray := prog_1_method_54_code
def yX8_faultOf : MethodName := ⟨RX8, "faultOf", "(LHillContest$Command;)LHillContest$Fault;"⟩
abbrev cX8_carryOut : ByteArray := prog_1_method_55_code
def yX8_carryOut : MethodName := ⟨RX8, "carryOut", "(LHillContest$Command;)V"⟩
abbrev cX8_doTrialsAgree : ByteArray := prog_1_method_56_code
def yX8_doTrialsAgree : MethodName := ⟨RX8, "doTrialsAgree", "(I)Z"⟩
abbrev cX8_writeCell : ByteArray := prog_1_method_57_code
def yX8_writeCell : MethodName := ⟨RX8, "writeCell", "(I)V"⟩
def RX9 : String := "HillContestModel"
def TX9 : u_T := fun k => match k with
  | 0 => ("HillContestModel", "thrown", "I", false)
  | 1 => ("HillContestModel", "changes", "I", false)
  | 2 => ("HillContestModel", "errorAt", "I", false)
  | 3 => ("HillContestModel", "failedAt", "I", false)
  | 4 => ("HillContestModel", "isSaved", "Z", false)
  | 5 => ("HillContestModel", "v", "[I", true)
  | 6 => ("HillContestModel", "before", "[I", true)
  | 7 => ("HillContestModel", "saved", "[I", true)
  | 8 => ("HillContestModel", "kept", "[I", true)
  | 9 => ("HillContestModel", "past", "[I", true)
  | 10 => ("HillContestModel", "text", "[I", true)
  | 11 => ("HillContestModel", "line", "[I", true)
  | 12 => ("HillContestModel", "isLeft", "[I", true)
  | 13 => ("HillContestModel", "words", "[I", true)
  | 14 => ("HillContestModel", "wordAt", "[I", true)
  | 15 => ("HillContestModel", "textN", "I", false)
  | 16 => ("HillContestModel", "here", "I", false)
  | 17 => ("HillContestModel", "end", "I", false)
  | 18 => ("HillContestModel", "lineN", "I", false)
  | 19 => ("HillContestModel", "isWrong", "Z", false)
  | _ => ("HillContestModel", "isDoing", "Z", false)
def tyX9 : Nat → FieldType := fun k => match k with
  | 0 => .int
  | 1 => .int
  | 2 => .int
  | 3 => .int
  | 4 => .boolean
  | 5 => .array .int
  | 6 => .array .int
  | 7 => .array .int
  | 8 => .array .int
  | 9 => .array .int
  | 10 => .array .int
  | 11 => .array .int
  | 12 => .array .int
  | 13 => .array .int
  | 14 => .array .int
  | 15 => .int
  | 16 => .int
  | 17 => .int
  | 18 => .int
  | 19 => .boolean
  | _ => .boolean
theorem nmX9 : ∀ a, a < 21 → ∀ b, b < 21 → a ≠ b → (TX9 a).2.1 ≠ (TX9 b).2.1 := by decide +kernel
theorem tyX9_ok : ∀ k, k < 21 → parseFieldDescriptor (TX9 k).2.2.1 = some (tyX9 k) := by decide +kernel
abbrev cX9_init : ByteArray := prog_11_method_1_code
def yX9_init : MethodName := ⟨RX9, "<init>", "()V"⟩
abbrev cX9_thrown : ByteArray := prog_11_method_2_code
def yX9_thrown : MethodName := ⟨RX9, "thrown", "()I"⟩
abbrev cX9_fail : ByteArray := prog_11_method_3_code
def yX9_fail : MethodName := ⟨RX9, "fail", "(I)I"⟩
abbrev cX9_isIn : ByteArray := prog_11_method_4_code
def yX9_isIn : MethodName := ⟨RX9, "isIn", "(III)Z"⟩
abbrev cX9_lays : ByteArray := prog_11_method_5_code
def yX9_lays : MethodName := ⟨RX9, "lays", "([I[I)V"⟩
abbrev cX9_begins : ByteArray := prog_11_method_6_code
def yX9_begins : MethodName := ⟨RX9, "begins", "()V"⟩
abbrev cX9_ends : ByteArray := prog_11_method_7_code
def yX9_ends : MethodName := ⟨RX9, "ends", "(I)I"⟩
abbrev cX9_isPlayer : ByteArray := prog_11_method_8_code
def yX9_isPlayer : MethodName := ⟨RX9, "isPlayer", "(I)Z"⟩
abbrev cX9_isCell : ByteArray := prog_11_method_9_code
def yX9_isCell : MethodName := ⟨RX9, "isCell", "(I)Z"⟩
abbrev cX9_stones : ByteArray := prog_11_method_10_code
def yX9_stones : MethodName := ⟨RX9, "stones", "()I"⟩
abbrev cX9_high : ByteArray := prog_11_method_11_code
def yX9_high : MethodName := ⟨RX9, "high", "(I)I"⟩
abbrev cX9_isEdge : ByteArray := prog_11_method_12_code
def yX9_isEdge : MethodName := ⟨RX9, "isEdge", "(I)Z"⟩
abbrev cX9_lower : ByteArray := prog_11_method_13_code
def yX9_lower : MethodName := ⟨RX9, "lower", "(II)I"⟩
abbrev cX9_lowest : ByteArray := prog_11_method_14_code
def yX9_lowest : MethodName := ⟨RX9, "lowest", "(I)I"⟩
abbrev cX9_steep : ByteArray := prog_11_method_15_code
def yX9_steep : MethodName := ⟨RX9, "steep", "(I)I"⟩
abbrev cX9_next : ByteArray := prog_11_method_16_code
def yX9_next : MethodName := ⟨RX9, "next", "()I"⟩
abbrev cX9_topples : ByteArray := prog_11_method_17_code
def yX9_topples : MethodName := ⟨RX9, "topples", "(I)V"⟩
abbrev cX9_rests : ByteArray := prog_11_method_18_code
def yX9_rests : MethodName := ⟨RX9, "rests", "()I"⟩
abbrev cX9_adds : ByteArray := prog_11_method_19_code
def yX9_adds : MethodName := ⟨RX9, "adds", "(I)I"⟩
abbrev cX9_addPlayer : ByteArray := prog_11_method_20_code
def yX9_addPlayer : MethodName := ⟨RX9, "addPlayer", "(I)I"⟩
abbrev cX9_heaps : ByteArray := prog_11_method_21_code
def yX9_heaps : MethodName := ⟨RX9, "heaps", "(III)I"⟩
abbrev cX9_waits : ByteArray := prog_11_method_22_code
def yX9_waits : MethodName := ⟨RX9, "waits", "(I)I"⟩
abbrev cX9_drops : ByteArray := prog_11_method_23_code
def yX9_drops : MethodName := ⟨RX9, "drops", "(III)I"⟩
abbrev cX9_drop : ByteArray := prog_11_method_24_code
def yX9_drop : MethodName := ⟨RX9, "drop", "(III)I"⟩
abbrev cX9_piles : ByteArray := prog_11_method_25_code
def yX9_piles : MethodName := ⟨RX9, "piles", "(II)I"⟩
abbrev cX9_pile : ByteArray := prog_11_method_26_code
def yX9_pile : MethodName := ⟨RX9, "pile", "(II)I"⟩
abbrev cX9_takes : ByteArray := prog_11_method_27_code
def yX9_takes : MethodName := ⟨RX9, "takes", "(II)I"⟩
abbrev cX9_take : ByteArray := prog_11_method_28_code
def yX9_take : MethodName := ⟨RX9, "take", "(II)I"⟩
abbrev cX9_skip : ByteArray := prog_11_method_29_code
def yX9_skip : MethodName := ⟨RX9, "skip", "()I"⟩
abbrev cX9_slopes : ByteArray := prog_11_method_30_code
def yX9_slopes : MethodName := ⟨RX9, "slopes", "(I)I"⟩
abbrev cX9_setSlope : ByteArray := prog_11_method_31_code
def yX9_setSlope : MethodName := ⟨RX9, "setSlope", "(I)I"⟩
abbrev cX9_opens : ByteArray := prog_11_method_32_code
def yX9_opens : MethodName := ⟨RX9, "opens", "(I)I"⟩
abbrev cX9_setBorder : ByteArray := prog_11_method_33_code
def yX9_setBorder : MethodName := ⟨RX9, "setBorder", "(Z)Z"⟩
abbrev cX9_playerCount : ByteArray := prog_11_method_34_code
def yX9_playerCount : MethodName := ⟨RX9, "playerCount", "()I"⟩
abbrev cX9_hand : ByteArray := prog_11_method_35_code
def yX9_hand : MethodName := ⟨RX9, "hand", "(I)I"⟩
abbrev cX9_rest : ByteArray := prog_11_method_36_code
def yX9_rest : MethodName := ⟨RX9, "rest", "(I)I"⟩
abbrev cX9_criticalSlope : ByteArray := prog_11_method_37_code
def yX9_criticalSlope : MethodName := ⟨RX9, "criticalSlope", "()I"⟩
abbrev cX9_isBorderOpen : ByteArray := prog_11_method_38_code
def yX9_isBorderOpen : MethodName := ⟨RX9, "isBorderOpen", "()Z"⟩
abbrev cX9_height : ByteArray := prog_11_method_39_code
def yX9_height : MethodName := ⟨RX9, "height", "(I)I"⟩
abbrev cX9_owner : ByteArray := prog_11_method_40_code
def yX9_owner : MethodName := ⟨RX9, "owner", "(I)I"⟩
abbrev cX9_steepness : ByteArray := prog_11_method_41_code
def yX9_steepness : MethodName := ⟨RX9, "steepness", "(I)I"⟩
abbrev cX9_lowestNeighbour : ByteArray := prog_11_method_42_code
def yX9_lowestNeighbour : MethodName := ⟨RX9, "lowestNeighbour", "(I)I"⟩
abbrev cX9_stonesOnHill : ByteArray := prog_11_method_43_code
def yX9_stonesOnHill : MethodName := ⟨RX9, "stonesOnHill", "()I"⟩
abbrev cX9_stonesByLevels : ByteArray := prog_11_method_44_code
def yX9_stonesByLevels : MethodName := ⟨RX9, "stonesByLevels", "()I"⟩
abbrev cX9_highestCell : ByteArray := prog_11_method_45_code
def yX9_highestCell : MethodName := ⟨RX9, "highestCell", "()I"⟩
abbrev cX9_topplesIf : ByteArray := prog_11_method_46_code
def yX9_topplesIf : MethodName := ⟨RX9, "topplesIf", "(II)I"⟩
abbrev cX9_topplesIfByScan : ByteArray := prog_11_method_47_code
def yX9_topplesIfByScan : MethodName := ⟨RX9, "topplesIfByScan", "(II)I"⟩
abbrev cX9_isTop : ByteArray := prog_11_method_48_code
def yX9_isTop : MethodName := ⟨RX9, "isTop", "(I)Z"⟩
abbrev cX9_isPeak : ByteArray := prog_11_method_49_code
def yX9_isPeak : MethodName := ⟨RX9, "isPeak", "(I)Z"⟩
abbrev cX9_peaks : ByteArray := prog_11_method_50_code
def yX9_peaks : MethodName := ⟨RX9, "peaks", "()I"⟩
abbrev cX9_peakCount : ByteArray := prog_11_method_51_code
def yX9_peakCount : MethodName := ⟨RX9, "peakCount", "()I"⟩
abbrev cX9_peakAt : ByteArray := prog_11_method_52_code
def yX9_peakAt : MethodName := ⟨RX9, "peakAt", "(I)I"⟩
abbrev cX9_owned : ByteArray := prog_11_method_53_code
def yX9_owned : MethodName := ⟨RX9, "owned", "(IZ)I"⟩
abbrev cX9_crowns : ByteArray := prog_11_method_54_code
def yX9_crowns : MethodName := ⟨RX9, "crowns", "(I)I"⟩
abbrev cX9_score : ByteArray := prog_11_method_55_code
def yX9_score : MethodName := ⟨RX9, "score", "(I)I"⟩
abbrev cX9_playerAtRank : ByteArray := prog_11_method_56_code
def yX9_playerAtRank : MethodName := ⟨RX9, "playerAtRank", "(I)I"⟩
abbrev cX9_crownShare : ByteArray := prog_11_method_57_code
def yX9_crownShare : MethodName := ⟨RX9, "crownShare", "(I)F"⟩
abbrev cX9_tells : ByteArray := prog_11_method_58_code
def yX9_tells : MethodName := ⟨RX9, "tells", "(I)I"⟩
abbrev cX9_toppleTotal : ByteArray := prog_11_method_59_code
def yX9_toppleTotal : MethodName := ⟨RX9, "toppleTotal", "()I"⟩
abbrev cX9_avalancheCount : ByteArray := prog_11_method_60_code
def yX9_avalancheCount : MethodName := ⟨RX9, "avalancheCount", "()I"⟩
abbrev cX9_largestAvalanche : ByteArray := prog_11_method_61_code
def yX9_largestAvalanche : MethodName := ⟨RX9, "largestAvalanche", "()I"⟩
abbrev cX9_placedTotal : ByteArray := prog_11_method_62_code
def yX9_placedTotal : MethodName := ⟨RX9, "placedTotal", "()I"⟩
abbrev cX9_lostTotal : ByteArray := prog_11_method_63_code
def yX9_lostTotal : MethodName := ⟨RX9, "lostTotal", "()I"⟩
abbrev cX9_takenTotal : ByteArray := prog_11_method_64_code
def yX9_takenTotal : MethodName := ⟨RX9, "takenTotal", "()I"⟩
abbrev cX9_append : ByteArray := prog_11_method_65_code
def yX9_append : MethodName := ⟨RX9, "append", "(C)I"⟩
abbrev cX9_sign : ByteArray := prog_11_method_66_code
def yX9_sign : MethodName := ⟨RX9, "sign", "()I"⟩
abbrev cX9_mark : ByteArray := prog_11_method_67_code
def yX9_mark : MethodName := ⟨RX9, "mark", "(I)V"⟩
abbrev cX9_digits : ByteArray := prog_11_method_68_code
def yX9_digits : MethodName := ⟨RX9, "digits", "(I)I"⟩
abbrev cX9_behind : ByteArray := prog_11_method_69_code
def yX9_behind : MethodName := ⟨RX9, "behind", "(I)I"⟩
abbrev cX9_word : ByteArray := prog_11_method_70_code
def yX9_word : MethodName := ⟨RX9, "word", "()I"⟩
abbrev cX9_does : ByteArray := prog_11_method_71_code
def yX9_does : MethodName := ⟨RX9, "does", "(IIII)I"⟩
abbrev cX9_command : ByteArray := prog_11_method_72_code
def yX9_command : MethodName := ⟨RX9, "command", "()V"⟩
abbrev cX9_commands : ByteArray := prog_11_method_73_code
def yX9_commands : MethodName := ⟨RX9, "commands", "()I"⟩
abbrev cX9_run : ByteArray := prog_11_method_74_code
def yX9_run : MethodName := ⟨RX9, "run", "()I"⟩
abbrev cX9_errorPosition : ByteArray := prog_11_method_75_code
def yX9_errorPosition : MethodName := ⟨RX9, "errorPosition", "()I"⟩
abbrev cX9_failedCommand : ByteArray := prog_11_method_76_code
def yX9_failedCommand : MethodName := ⟨RX9, "failedCommand", "()I"⟩
abbrev cX9_writes : ByteArray := prog_11_method_77_code
def yX9_writes : MethodName := ⟨RX9, "writes", "(I)V"⟩
abbrev cX9_writesNumber : ByteArray := prog_11_method_78_code
def yX9_writesNumber : MethodName := ⟨RX9, "writesNumber", "(I)V"⟩
abbrev cX9_describeRow : ByteArray := prog_11_method_79_code
def yX9_describeRow : MethodName := ⟨RX9, "describeRow", "(I)I"⟩
abbrev cX9_lineAt : ByteArray := prog_11_method_80_code
def yX9_lineAt : MethodName := ⟨RX9, "lineAt", "(I)C"⟩
abbrev cX9_meanAvalanche : ByteArray := prog_11_method_81_code
def yX9_meanAvalanche : MethodName := ⟨RX9, "meanAvalanche", "()D"⟩
abbrev cX9_isConsistent : ByteArray := prog_11_method_82_code
def yX9_isConsistent : MethodName := ⟨RX9, "isConsistent", "()Z"⟩
abbrev cX9_undo : ByteArray := prog_11_method_83_code
def yX9_undo : MethodName := ⟨RX9, "undo", "()I"⟩
abbrev cX9_save : ByteArray := prog_11_method_84_code
def yX9_save : MethodName := ⟨RX9, "save", "()I"⟩
abbrev cX9_restore : ByteArray := prog_11_method_85_code
def yX9_restore : MethodName := ⟨RX9, "restore", "()I"⟩
def RJx145de : String := "java/io/Serializable"
def TJx145de : u_T := fun k => match k with
  | _ => ("", "", "", false)
def tyJx145de : Nat → FieldType := fun k => match k with
  | _ => .int
theorem nmJx145de : ∀ a, a < 0 → ∀ b, b < 0 → a ≠ b → (TJx145de a).2.1 ≠ (TJx145de b).2.1 := by decide +kernel
theorem tyJx145de_ok : ∀ k, k < 0 → parseFieldDescriptor (TJx145de k).2.2.1 = some (tyJx145de k) := by decide +kernel
def RJ5 : String := "java/lang/AbstractStringBuilder"
def TJ5 : u_T := fun k => match k with
  | _ => ("", "", "", false)
def tyJ5 : Nat → FieldType := fun k => match k with
  | _ => .int
theorem nmJ5 : ∀ a, a < 0 → ∀ b, b < 0 → a ≠ b → (TJ5 a).2.1 ≠ (TJ5 b).2.1 := by decide +kernel
theorem tyJ5_ok : ∀ k, k < 0 → parseFieldDescriptor (TJ5 k).2.2.1 = some (tyJ5 k) := by decide +kernel
abbrev cJ5_init_d00df : ByteArray := prog_13_method_2_code
def yJ5_init_d00df : MethodName := ⟨RJ5, "<init>", "(I)V"⟩
abbrev cJ5_length_8abf5 : ByteArray := prog_13_method_6_code
def yJ5_length_8abf5 : MethodName := ⟨RJ5, "length", "()I"⟩
abbrev cJ5_ensureCapacityInternal_d00df : ByteArray := prog_13_method_9_code
def yJ5_ensureCapacityInternal_d00df : MethodName := ⟨RJ5, "ensureCapacityInternal", "(I)V"⟩
abbrev cJ5_newCapacity_0f7a4 : ByteArray := prog_13_method_10_code
def yJ5_newCapacity_0f7a4 : MethodName := ⟨RJ5, "newCapacity", "(I)I"⟩
abbrev cJ5_inflate_da8c8 : ByteArray := prog_13_method_11_code
def yJ5_inflate_da8c8 : MethodName := ⟨RJ5, "inflate", "()V"⟩
abbrev cJ5_setLength_d00df : ByteArray := prog_13_method_13_code
def yJ5_setLength_d00df : MethodName := ⟨RJ5, "setLength", "(I)V"⟩
abbrev cJ5_charAt_5068e : ByteArray := prog_13_method_14_code
def yJ5_charAt_5068e : MethodName := ⟨RJ5, "charAt", "(I)C"⟩
abbrev cJ5_append_cf1ce : ByteArray := prog_13_method_22_code
def yJ5_append_cf1ce : MethodName := ⟨RJ5, "append", "(Ljava/lang/String;)Ljava/lang/AbstractStringBuilder;"⟩
abbrev cJ5_appendNull_278bc : ByteArray := prog_13_method_26_code
def yJ5_appendNull_278bc : MethodName := ⟨RJ5, "appendNull", "()Ljava/lang/AbstractStringBuilder;"⟩
abbrev cJ5_append_3fe6f : ByteArray := prog_13_method_31_code
def yJ5_append_3fe6f : MethodName := ⟨RJ5, "append", "(C)Ljava/lang/AbstractStringBuilder;"⟩
abbrev cJ5_append_c97b9 : ByteArray := prog_13_method_32_code
def yJ5_append_c97b9 : MethodName := ⟨RJ5, "append", "(I)Ljava/lang/AbstractStringBuilder;"⟩
abbrev cJ5_getValue_6d5f1 : ByteArray := prog_13_method_64_code
def yJ5_getValue_6d5f1 : MethodName := ⟨RJ5, "getValue", "()[B"⟩
abbrev cJ5_isLatin1_aae02 : ByteArray := prog_13_method_68_code
def yJ5_isLatin1_aae02 : MethodName := ⟨RJ5, "isLatin1", "()Z"⟩
abbrev cJ5_inflateIfNeededFor_a7421 : ByteArray := prog_13_method_71_code
def yJ5_inflateIfNeededFor_a7421 : MethodName := ⟨RJ5, "inflateIfNeededFor", "(Ljava/lang/String;)V"⟩
abbrev cJ5_putStringAt_47b60 : ByteArray := prog_13_method_73_code
def yJ5_putStringAt_47b60 : MethodName := ⟨RJ5, "putStringAt", "(ILjava/lang/String;)V"⟩
def RJx2cfe8 : String := "java/lang/Appendable"
def TJx2cfe8 : u_T := fun k => match k with
  | _ => ("", "", "", false)
def tyJx2cfe8 : Nat → FieldType := fun k => match k with
  | _ => .int
theorem nmJx2cfe8 : ∀ a, a < 0 → ∀ b, b < 0 → a ≠ b → (TJx2cfe8 a).2.1 ≠ (TJx2cfe8 b).2.1 := by decide +kernel
theorem tyJx2cfe8_ok : ∀ k, k < 0 → parseFieldDescriptor (TJx2cfe8 k).2.2.1 = some (tyJx2cfe8 k) := by decide +kernel
def RJx00060 : String := "java/lang/ArrayIndexOutOfBoundsException"
def TJx00060 : u_T := fun k => match k with
  | 0 => ("java/lang/Throwable", "backtrace", "Ljava/lang/Object;", false)
  | 1 => ("java/lang/Throwable", "detailMessage", "Ljava/lang/String;", false)
  | 2 => ("java/lang/Throwable", "cause", "Ljava/lang/Throwable;", false)
  | 3 => ("java/lang/Throwable", "stackTrace", "[Ljava/lang/StackTraceElement;", false)
  | 4 => ("java/lang/Throwable", "depth", "I", false)
  | _ => ("java/lang/Throwable", "suppressedExceptions", "Ljava/util/List;", false)
def tyJx00060 : Nat → FieldType := fun k => match k with
  | 0 => .object "java/lang/Object"
  | 1 => .object "java/lang/String"
  | 2 => .object "java/lang/Throwable"
  | 3 => .array (.object "java/lang/StackTraceElement")
  | 4 => .int
  | _ => .object "java/util/List"
theorem nmJx00060 : ∀ a, a < 6 → ∀ b, b < 6 → a ≠ b → (TJx00060 a).2.1 ≠ (TJx00060 b).2.1 := by decide +kernel
theorem tyJx00060_ok : ∀ k, k < 6 → parseFieldDescriptor (TJx00060 k).2.2.1 = some (tyJx00060 k) := by decide +kernel
abbrev cJx00060_init_a7421 : ByteArray := prog_16_method_2_code
def yJx00060_init_a7421 : MethodName := ⟨RJx00060, "<init>", "(Ljava/lang/String;)V"⟩
abbrev cJx00060_init_d00df : ByteArray := prog_16_method_3_code
def yJx00060_init_d00df : MethodName := ⟨RJx00060, "<init>", "(I)V"⟩
def RJx9f9b0 : String := "java/lang/CharSequence"
def TJx9f9b0 : u_T := fun k => match k with
  | _ => ("", "", "", false)
def tyJx9f9b0 : Nat → FieldType := fun k => match k with
  | _ => .int
theorem nmJx9f9b0 : ∀ a, a < 0 → ∀ b, b < 0 → a ≠ b → (TJx9f9b0 a).2.1 ≠ (TJx9f9b0 b).2.1 := by decide +kernel
theorem tyJx9f9b0_ok : ∀ k, k < 0 → parseFieldDescriptor (TJx9f9b0 k).2.2.1 = some (tyJx9f9b0 k) := by decide +kernel
def RJx8e188 : String := "java/lang/Cloneable"
def TJx8e188 : u_T := fun k => match k with
  | _ => ("", "", "", false)
def tyJx8e188 : Nat → FieldType := fun k => match k with
  | _ => .int
theorem nmJx8e188 : ∀ a, a < 0 → ∀ b, b < 0 → a ≠ b → (TJx8e188 a).2.1 ≠ (TJx8e188 b).2.1 := by decide +kernel
theorem tyJx8e188_ok : ∀ k, k < 0 → parseFieldDescriptor (TJx8e188 k).2.2.1 = some (tyJx8e188 k) := by decide +kernel
def RJxb160c : String := "java/lang/Comparable"
def TJxb160c : u_T := fun k => match k with
  | _ => ("", "", "", false)
def tyJxb160c : Nat → FieldType := fun k => match k with
  | _ => .int
theorem nmJxb160c : ∀ a, a < 0 → ∀ b, b < 0 → a ≠ b → (TJxb160c a).2.1 ≠ (TJxb160c b).2.1 := by decide +kernel
theorem tyJxb160c_ok : ∀ k, k < 0 → parseFieldDescriptor (TJxb160c k).2.2.1 = some (tyJxb160c k) := by decide +kernel
def RJx29ce0 : String := "java/lang/Enum"
def TJx29ce0 : u_T := fun k => match k with
  | _ => ("", "", "", false)
def tyJx29ce0 : Nat → FieldType := fun k => match k with
  | _ => .int
theorem nmJx29ce0 : ∀ a, a < 0 → ∀ b, b < 0 → a ≠ b → (TJx29ce0 a).2.1 ≠ (TJx29ce0 b).2.1 := by decide +kernel
theorem tyJx29ce0_ok : ∀ k, k < 0 → parseFieldDescriptor (TJx29ce0 k).2.2.1 = some (tyJx29ce0 k) := by decide +kernel
abbrev cJx29ce0_ordinal_8abf5 : ByteArray := prog_20_method_2_code
def yJx29ce0_ordinal_8abf5 : MethodName := ⟨RJx29ce0, "ordinal", "()I"⟩
def RJ6 : String := "java/lang/Integer"
def TJ6 : u_T := fun k => match k with
  | _ => ("", "", "", false)
def tyJ6 : Nat → FieldType := fun k => match k with
  | _ => .int
theorem nmJ6 : ∀ a, a < 0 → ∀ b, b < 0 → a ≠ b → (TJ6 a).2.1 ≠ (TJ6 b).2.1 := by decide +kernel
theorem tyJ6_ok : ∀ k, k < 0 → parseFieldDescriptor (TJ6 k).2.2.1 = some (tyJ6 k) := by decide +kernel
abbrev cJ6_getChars_ba4f3 : ByteArray := prog_25_method_12_code
def yJ6_getChars_ba4f3 : MethodName := ⟨RJ6, "getChars", "(II[B)I"⟩
abbrev cJ6_stringSize_0f7a4 : ByteArray := prog_25_method_13_code
def yJ6_stringSize_0f7a4 : MethodName := ⟨RJ6, "stringSize", "(I)I"⟩
def RJ9 : String := "java/lang/Math"
def TJ9 : u_T := fun k => match k with
  | _ => ("", "", "", false)
def tyJ9 : Nat → FieldType := fun k => match k with
  | _ => .int
theorem nmJ9 : ∀ a, a < 0 → ∀ b, b < 0 → a ≠ b → (TJ9 a).2.1 ≠ (TJ9 b).2.1 := by decide +kernel
theorem tyJ9_ok : ∀ k, k < 0 → parseFieldDescriptor (TJ9 k).2.2.1 = some (tyJ9 k) := by decide +kernel
abbrev cJ9_max_7cf53 : ByteArray := prog_26_method_65_code
def yJ9_max_7cf53 : MethodName := ⟨RJ9, "max", "(II)I"⟩
abbrev cJ9_min_7cf53 : ByteArray := prog_26_method_69_code
def yJ9_min_7cf53 : MethodName := ⟨RJ9, "min", "(II)I"⟩
def RJxd2413 : String := "java/lang/Number"
def TJxd2413 : u_T := fun k => match k with
  | _ => ("", "", "", false)
def tyJxd2413 : Nat → FieldType := fun k => match k with
  | _ => .int
theorem nmJxd2413 : ∀ a, a < 0 → ∀ b, b < 0 → a ≠ b → (TJxd2413 a).2.1 ≠ (TJxd2413 b).2.1 := by decide +kernel
theorem tyJxd2413_ok : ∀ k, k < 0 → parseFieldDescriptor (TJxd2413 k).2.2.1 = some (tyJxd2413 k) := by decide +kernel
def RJ0 : String := "java/lang/String"
def TJ0 : u_T := fun k => match k with
  | 0 => ("java/lang/String", "value", "[B", true)
  | 1 => ("java/lang/String", "coder", "B", true)
  | 2 => ("java/lang/String", "hash", "I", false)
  | _ => ("java/lang/String", "hashIsZero", "Z", false)
def tyJ0 : Nat → FieldType := fun k => match k with
  | 0 => .array .byte
  | 1 => .byte
  | 2 => .int
  | _ => .boolean
theorem nmJ0 : ∀ a, a < 4 → ∀ b, b < 4 → a ≠ b → (TJ0 a).2.1 ≠ (TJ0 b).2.1 := by decide +kernel
theorem tyJ0_ok : ∀ k, k < 4 → parseFieldDescriptor (TJ0 k).2.2.1 = some (tyJ0 k) := by decide +kernel
abbrev cJ0_init_81219 : ByteArray := prog_29_method_53_code
def yJ0_init_81219 : MethodName := ⟨RJ0, "<init>", "(Ljava/lang/StringBuilder;)V"⟩
abbrev cJ0_length_8abf5 : ByteArray := prog_29_method_54_code
def yJ0_length_8abf5 : MethodName := ⟨RJ0, "length", "()I"⟩
abbrev cJ0_charAt_5068e : ByteArray := prog_29_method_56_code
def yJ0_charAt_5068e : MethodName := ⟨RJ0, "charAt", "(I)C"⟩
abbrev cJ0_getBytes_840e7 : ByteArray := prog_29_method_147_code
def yJ0_getBytes_840e7 : MethodName := ⟨RJ0, "getBytes", "([BIB)V"⟩
abbrev cJ0_init_db425 : ByteArray := prog_29_method_150_code
def yJ0_init_db425 : MethodName := ⟨RJ0, "<init>", "(Ljava/lang/AbstractStringBuilder;Ljava/lang/Void;)V"⟩
abbrev cJ0_coder_7d493 : ByteArray := prog_29_method_152_code
def yJ0_coder_7d493 : MethodName := ⟨RJ0, "coder", "()B"⟩
abbrev cJ0_isLatin1_aae02 : ByteArray := prog_29_method_154_code
def yJ0_isLatin1_aae02 : MethodName := ⟨RJ0, "isLatin1", "()Z"⟩
abbrev cJ0_checkIndex_df160 : ByteArray := prog_29_method_155_code
def yJ0_checkIndex_df160 : MethodName := ⟨RJ0, "checkIndex", "(II)V"⟩
abbrev cJ0_checkBoundsOffCount_cabcc : ByteArray := prog_29_method_157_code
def yJ0_checkBoundsOffCount_cabcc : MethodName := ⟨RJ0, "checkBoundsOffCount", "(III)I"⟩
abbrev cJ0_checkBoundsBeginEnd_23922 : ByteArray := prog_29_method_158_code
def yJ0_checkBoundsBeginEnd_23922 : MethodName := ⟨RJ0, "checkBoundsBeginEnd", "(III)V"⟩
def RJ4 : String := "java/lang/StringBuilder"
def TJ4 : u_T := fun k => match k with
  | 0 => ("java/lang/AbstractStringBuilder", "value", "[B", false)
  | 1 => ("java/lang/AbstractStringBuilder", "coder", "B", false)
  | 2 => ("java/lang/AbstractStringBuilder", "maybeLatin1", "Z", false)
  | _ => ("java/lang/AbstractStringBuilder", "count", "I", false)
def tyJ4 : Nat → FieldType := fun k => match k with
  | 0 => .array .byte
  | 1 => .byte
  | 2 => .boolean
  | _ => .int
theorem nmJ4 : ∀ a, a < 4 → ∀ b, b < 4 → a ≠ b → (TJ4 a).2.1 ≠ (TJ4 b).2.1 := by decide +kernel
theorem tyJ4_ok : ∀ k, k < 4 → parseFieldDescriptor (TJ4 k).2.2.1 = some (tyJ4 k) := by decide +kernel
abbrev cJ4_init_da8c8 : ByteArray := prog_30_method_1_code
def yJ4_init_da8c8 : MethodName := ⟨RJ4, "<init>", "()V"⟩
abbrev cJ4_append_15ec4 : ByteArray := prog_30_method_7_code
def yJ4_append_15ec4 : MethodName := ⟨RJ4, "append", "(Ljava/lang/String;)Ljava/lang/StringBuilder;"⟩
abbrev cJ4_append_cf468 : ByteArray := prog_30_method_14_code
def yJ4_append_cf468 : MethodName := ⟨RJ4, "append", "(C)Ljava/lang/StringBuilder;"⟩
abbrev cJ4_append_bf812 : ByteArray := prog_30_method_15_code
def yJ4_append_bf812 : MethodName := ⟨RJ4, "append", "(I)Ljava/lang/StringBuilder;"⟩
abbrev cJ4_toString_0e30d : ByteArray := prog_30_method_42_code
def yJ4_toString_0e30d : MethodName := ⟨RJ4, "toString", "()Ljava/lang/String;"⟩
abbrev cJ4_charAt_5068e : ByteArray := prog_30_method_88_code
def yJ4_charAt_5068e : MethodName := ⟨RJ4, "charAt", "(I)C"⟩
abbrev cJ4_setLength_d00df : ByteArray := prog_30_method_89_code
def yJ4_setLength_d00df : MethodName := ⟨RJ4, "setLength", "(I)V"⟩
abbrev cJ4_length_8abf5 : ByteArray := prog_30_method_93_code
def yJ4_length_8abf5 : MethodName := ⟨RJ4, "length", "()I"⟩
def RJx7c733 : String := "java/lang/StringIndexOutOfBoundsException"
def TJx7c733 : u_T := fun k => match k with
  | 0 => ("java/lang/Throwable", "backtrace", "Ljava/lang/Object;", false)
  | 1 => ("java/lang/Throwable", "detailMessage", "Ljava/lang/String;", false)
  | 2 => ("java/lang/Throwable", "cause", "Ljava/lang/Throwable;", false)
  | 3 => ("java/lang/Throwable", "stackTrace", "[Ljava/lang/StackTraceElement;", false)
  | 4 => ("java/lang/Throwable", "depth", "I", false)
  | _ => ("java/lang/Throwable", "suppressedExceptions", "Ljava/util/List;", false)
def tyJx7c733 : Nat → FieldType := fun k => match k with
  | 0 => .object "java/lang/Object"
  | 1 => .object "java/lang/String"
  | 2 => .object "java/lang/Throwable"
  | 3 => .array (.object "java/lang/StackTraceElement")
  | 4 => .int
  | _ => .object "java/util/List"
theorem nmJx7c733 : ∀ a, a < 6 → ∀ b, b < 6 → a ≠ b → (TJx7c733 a).2.1 ≠ (TJx7c733 b).2.1 := by decide +kernel
theorem tyJx7c733_ok : ∀ k, k < 6 → parseFieldDescriptor (TJx7c733 k).2.2.1 = some (tyJx7c733 k) := by decide +kernel
abbrev cJx7c733_init_d00df : ByteArray := prog_31_method_3_code
def yJx7c733_init_d00df : MethodName := ⟨RJx7c733, "<init>", "(I)V"⟩
def RJ1 : String := "java/lang/StringLatin1"
def TJ1 : u_T := fun k => match k with
  | _ => ("", "", "", false)
def tyJ1 : Nat → FieldType := fun k => match k with
  | _ => .int
theorem nmJ1 : ∀ a, a < 0 → ∀ b, b < 0 → a ≠ b → (TJ1 a).2.1 ≠ (TJ1 b).2.1 := by decide +kernel
theorem tyJ1_ok : ∀ k, k < 0 → parseFieldDescriptor (TJ1 k).2.2.1 = some (tyJ1 k) := by decide +kernel
abbrev cJ1_charAt_3b067 : ByteArray := prog_32_method_2_code
def yJ1_charAt_3b067 : MethodName := ⟨RJ1, "charAt", "([BI)C"⟩
abbrev cJ1_canEncode_fc78d : ByteArray := prog_32_method_3_code
def yJ1_canEncode_fc78d : MethodName := ⟨RJ1, "canEncode", "(C)Z"⟩
abbrev cJ1_fillNull_b72d1 : ByteArray := prog_32_method_48_code
def yJ1_fillNull_b72d1 : MethodName := ⟨RJ1, "fillNull", "([BII)V"⟩
abbrev cJ1_inflate_0e8fd : ByteArray := prog_32_method_50_code
def yJ1_inflate_0e8fd : MethodName := ⟨RJ1, "inflate", "([BI[BII)V"⟩
def RJ2 : String := "java/lang/StringUTF16"
def TJ2 : u_T := fun k => match k with
  | _ => ("", "", "", false)
def tyJ2 : Nat → FieldType := fun k => match k with
  | _ => .int
theorem nmJ2 : ∀ a, a < 0 → ∀ b, b < 0 → a ≠ b → (TJ2 a).2.1 ≠ (TJ2 b).2.1 := by decide +kernel
theorem tyJ2_ok : ∀ k, k < 0 → parseFieldDescriptor (TJ2 k).2.2.1 = some (tyJ2 k) := by decide +kernel
abbrev cJ2_newBytesFor_77867 : ByteArray := prog_33_method_2_code
def yJ2_newBytesFor_77867 : MethodName := ⟨RJ2, "newBytesFor", "(I)[B"⟩
abbrev cJ2_newBytesLength_0f7a4 : ByteArray := prog_33_method_3_code
def yJ2_newBytesLength_0f7a4 : MethodName := ⟨RJ2, "newBytesLength", "(I)I"⟩
abbrev cJ2_putChar_b72d1 : ByteArray := prog_33_method_4_code
def yJ2_putChar_b72d1 : MethodName := ⟨RJ2, "putChar", "([BII)V"⟩
abbrev cJ2_getChar_3b067 : ByteArray := prog_33_method_5_code
def yJ2_getChar_3b067 : MethodName := ⟨RJ2, "getChar", "([BI)C"⟩
abbrev cJ2_length_9d52b : ByteArray := prog_33_method_6_code
def yJ2_length_9d52b : MethodName := ⟨RJ2, "length", "([B)I"⟩
abbrev cJ2_coderFromArrayLen_85cad : ByteArray := prog_33_method_15_code
def yJ2_coderFromArrayLen_85cad : MethodName := ⟨RJ2, "coderFromArrayLen", "([BI)B"⟩
abbrev cJ2_compress_39247 : ByteArray := prog_33_method_17_code
def yJ2_compress_39247 : MethodName := ⟨RJ2, "compress", "([BII)[B"⟩
abbrev cJ2_compress_5af95 : ByteArray := prog_33_method_22_code
def yJ2_compress_5af95 : MethodName := ⟨RJ2, "compress", "([BI[BII)I"⟩
abbrev cJ2_fillNull_b72d1 : ByteArray := prog_33_method_70_code
def yJ2_fillNull_b72d1 : MethodName := ⟨RJ2, "fillNull", "([BII)V"⟩
abbrev cJ2_putCharSB_b72d1 : ByteArray := prog_33_method_71_code
def yJ2_putCharSB_b72d1 : MethodName := ⟨RJ2, "putCharSB", "([BII)V"⟩
abbrev cJ2_getChars_46870 : ByteArray := prog_33_method_77_code
def yJ2_getChars_46870 : MethodName := ⟨RJ2, "getChars", "(III[B)I"⟩
abbrev cJ2_putCharsAt_cd4e5 : ByteArray := prog_33_method_81_code
def yJ2_putCharsAt_cd4e5 : MethodName := ⟨RJ2, "putCharsAt", "([BICCCC)I"⟩
abbrev cJ2_charAt_3b067 : ByteArray := prog_33_method_83_code
def yJ2_charAt_3b067 : MethodName := ⟨RJ2, "charAt", "([BI)C"⟩
abbrev cJ2_inflate_0e8fd : ByteArray := prog_33_method_86_code
def yJ2_inflate_0e8fd : MethodName := ⟨RJ2, "inflate", "([BI[BII)V"⟩
abbrev cJ2_getChars_ba4f3 : ByteArray := prog_33_method_89_code
def yJ2_getChars_ba4f3 : MethodName := ⟨RJ2, "getChars", "(II[B)I"⟩
abbrev cJ2_checkIndex_2214a : ByteArray := prog_33_method_91_code
def yJ2_checkIndex_2214a : MethodName := ⟨RJ2, "checkIndex", "(I[B)V"⟩
abbrev cJ2_checkBoundsBeginEnd_d044e : ByteArray := prog_33_method_93_code
def yJ2_checkBoundsBeginEnd_d044e : MethodName := ⟨RJ2, "checkBoundsBeginEnd", "(II[B)V"⟩
abbrev cJ2_checkBoundsOffCount_d044e : ByteArray := prog_33_method_94_code
def yJ2_checkBoundsOffCount_d044e : MethodName := ⟨RJ2, "checkBoundsOffCount", "(II[B)V"⟩
def RJ10 : String := "java/lang/System"
def TJ10 : u_T := fun k => match k with
  | _ => ("", "", "", false)
def tyJ10 : Nat → FieldType := fun k => match k with
  | _ => .int
theorem nmJ10 : ∀ a, a < 0 → ∀ b, b < 0 → a ≠ b → (TJ10 a).2.1 ≠ (TJ10 b).2.1 := by decide +kernel
theorem tyJ10_ok : ∀ k, k < 0 → parseFieldDescriptor (TJ10 k).2.2.1 = some (tyJ10 k) := by decide +kernel
def RJxfd54e : String := "java/lang/constant/Constable"
def TJxfd54e : u_T := fun k => match k with
  | _ => ("", "", "", false)
def tyJxfd54e : Nat → FieldType := fun k => match k with
  | _ => .int
theorem nmJxfd54e : ∀ a, a < 0 → ∀ b, b < 0 → a ≠ b → (TJxfd54e a).2.1 ≠ (TJxfd54e b).2.1 := by decide +kernel
theorem tyJxfd54e_ok : ∀ k, k < 0 → parseFieldDescriptor (TJxfd54e k).2.2.1 = some (tyJxfd54e k) := by decide +kernel
def RJx3cf43 : String := "java/lang/constant/ConstantDesc"
def TJx3cf43 : u_T := fun k => match k with
  | _ => ("", "", "", false)
def tyJx3cf43 : Nat → FieldType := fun k => match k with
  | _ => .int
theorem nmJx3cf43 : ∀ a, a < 0 → ∀ b, b < 0 → a ≠ b → (TJx3cf43 a).2.1 ≠ (TJx3cf43 b).2.1 := by decide +kernel
theorem tyJx3cf43_ok : ∀ k, k < 0 → parseFieldDescriptor (TJx3cf43 k).2.2.1 = some (tyJx3cf43 k) := by decide +kernel
def RJ7 : String := "java/util/Arrays"
def TJ7 : u_T := fun k => match k with
  | _ => ("", "", "", false)
def tyJ7 : Nat → FieldType := fun k => match k with
  | _ => .int
theorem nmJ7 : ∀ a, a < 0 → ∀ b, b < 0 → a ≠ b → (TJ7 a).2.1 ≠ (TJ7 b).2.1 := by decide +kernel
theorem tyJ7_ok : ∀ k, k < 0 → parseFieldDescriptor (TJ7 k).2.2.1 = some (tyJ7 k) := by decide +kernel
abbrev cJ7_rangeCheck_23922 : ByteArray := prog_39_method_30_code
def yJ7_rangeCheck_23922 : MethodName := ⟨RJ7, "rangeCheck", "(III)V"⟩
abbrev cJ7_fill_eb02e : ByteArray := prog_39_method_110_code
def yJ7_fill_eb02e : MethodName := ⟨RJ7, "fill", "([BIIB)V"⟩
abbrev cJ7_copyOf_9075b : ByteArray := prog_39_method_121_code
def yJ7_copyOf_9075b : MethodName := ⟨RJ7, "copyOf", "([BI)[B"⟩
abbrev cJ7_checkLength_df160 : ByteArray := prog_39_method_131_code
def yJ7_checkLength_df160 : MethodName := ⟨RJ7, "checkLength", "(II)V"⟩
abbrev cJ7_copyOfRange_39247 : ByteArray := prog_39_method_132_code
def yJ7_copyOfRange_39247 : MethodName := ⟨RJ7, "copyOfRange", "([BII)[B"⟩
abbrev cJ7_copyOfRangeByte_39247 : ByteArray := prog_39_method_133_code
def yJ7_copyOfRangeByte_39247 : MethodName := ⟨RJ7, "copyOfRangeByte", "([BII)[B"⟩
def RJ8 : String := "jdk/internal/util/ArraysSupport"
def TJ8 : u_T := fun k => match k with
  | _ => ("", "", "", false)
def tyJ8 : Nat → FieldType := fun k => match k with
  | _ => .int
theorem nmJ8 : ∀ a, a < 0 → ∀ b, b < 0 → a ≠ b → (TJ8 a).2.1 ≠ (TJ8 b).2.1 := by decide +kernel
theorem tyJ8_ok : ∀ k, k < 0 → parseFieldDescriptor (TJ8 k).2.2.1 = some (tyJ8 k) := by decide +kernel
abbrev cJ8_newLength_cabcc : ByteArray := prog_41_method_27_code
def yJ8_newLength_cabcc : MethodName := ⟨RJ8, "newLength", "(III)I"⟩
abbrev cJ8_hugeLength_7cf53 : ByteArray := prog_41_method_28_code
def yJ8_hugeLength_7cf53 : MethodName := ⟨RJ8, "hugeLength", "(II)I"⟩
def RJ3 : String := "jdk/internal/util/Preconditions"
def TJ3 : u_T := fun k => match k with
  | _ => ("", "", "", false)
def tyJ3 : Nat → FieldType := fun k => match k with
  | _ => .int
theorem nmJ3 : ∀ a, a < 0 → ∀ b, b < 0 → a ≠ b → (TJ3 a).2.1 ≠ (TJ3 b).2.1 := by decide +kernel
theorem tyJ3_ok : ∀ k, k < 0 → parseFieldDescriptor (TJ3 k).2.2.1 = some (tyJ3 k) := by decide +kernel
abbrev cJ3_checkIndex_8e157 : ByteArray := prog_42_method_11_code
def yJ3_checkIndex_8e157 : MethodName := ⟨RJ3, "checkIndex", "(IILjava/util/function/BiFunction;)I"⟩
abbrev cJ3_checkFromToIndex_8c36e : ByteArray := prog_42_method_12_code
def yJ3_checkFromToIndex_8c36e : MethodName := ⟨RJ3, "checkFromToIndex", "(IIILjava/util/function/BiFunction;)I"⟩
abbrev cJ3_checkFromIndexSize_8c36e : ByteArray := prog_42_method_13_code
def yJ3_checkFromIndexSize_8c36e : MethodName := ⟨RJ3, "checkFromIndexSize", "(IIILjava/util/function/BiFunction;)I"⟩
def RL : String := "HillContestLaw"
abbrev cL_addPlayer : ByteArray := method_3_code
def yL_addPlayer : MethodName := ⟨RL, "addPlayer", "(LHillContest;I[J)I"⟩
abbrev cL_drop : ByteArray := method_4_code
def yL_drop : MethodName := ⟨RL, "drop", "(LHillContest;III[J)I"⟩
abbrev cL_pile : ByteArray := method_5_code
def yL_pile : MethodName := ⟨RL, "pile", "(LHillContest;II[J)I"⟩
abbrev cL_take : ByteArray := method_6_code
def yL_take : MethodName := ⟨RL, "take", "(LHillContest;II[J)I"⟩
abbrev cL_hand : ByteArray := method_7_code
def yL_hand : MethodName := ⟨RL, "hand", "(LHillContest;I[J)I"⟩
abbrev cL_rest : ByteArray := method_8_code
def yL_rest : MethodName := ⟨RL, "rest", "(LHillContest;I[J)I"⟩
abbrev cL_setSlope : ByteArray := method_9_code
def yL_setSlope : MethodName := ⟨RL, "setSlope", "(LHillContest;I[J)I"⟩
abbrev cL_height : ByteArray := method_10_code
def yL_height : MethodName := ⟨RL, "height", "(LHillContest;I[J)I"⟩
abbrev cL_owner : ByteArray := method_11_code
def yL_owner : MethodName := ⟨RL, "owner", "(LHillContest;I[J)I"⟩
abbrev cL_steepness : ByteArray := method_12_code
def yL_steepness : MethodName := ⟨RL, "steepness", "(LHillContest;I[J)I"⟩
abbrev cL_lowestNeighbour : ByteArray := method_13_code
def yL_lowestNeighbour : MethodName := ⟨RL, "lowestNeighbour", "(LHillContest;I[J)I"⟩
abbrev cL_topplesIf : ByteArray := method_14_code
def yL_topplesIf : MethodName := ⟨RL, "topplesIf", "(LHillContest;II[J)I"⟩
abbrev cL_topplesIfByScan : ByteArray := method_15_code
def yL_topplesIfByScan : MethodName := ⟨RL, "topplesIfByScan", "(LHillContest;II[J)I"⟩
abbrev cL_isPeak : ByteArray := method_16_code
def yL_isPeak : MethodName := ⟨RL, "isPeak", "(LHillContest;I[J)I"⟩
abbrev cL_peakAt : ByteArray := method_17_code
def yL_peakAt : MethodName := ⟨RL, "peakAt", "(LHillContest;I[J)I"⟩
abbrev cL_crowns : ByteArray := method_18_code
def yL_crowns : MethodName := ⟨RL, "crowns", "(LHillContest;I[J)I"⟩
abbrev cL_score : ByteArray := method_19_code
def yL_score : MethodName := ⟨RL, "score", "(LHillContest;I[J)I"⟩
abbrev cL_playerAtRank : ByteArray := method_20_code
def yL_playerAtRank : MethodName := ⟨RL, "playerAtRank", "(LHillContest;I[J)I"⟩
abbrev cL_crownShare : ByteArray := method_21_code
def yL_crownShare : MethodName := ⟨RL, "crownShare", "(LHillContest;I[D)I"⟩
abbrev cL_append : ByteArray := method_22_code
def yL_append : MethodName := ⟨RL, "append", "(LHillContest;C[J)I"⟩
abbrev cL_run : ByteArray := method_23_code
def yL_run : MethodName := ⟨RL, "run", "(LHillContest;[J)I"⟩
abbrev cL_errorPosition : ByteArray := method_24_code
def yL_errorPosition : MethodName := ⟨RL, "errorPosition", "(LHillContest;[J)I"⟩
abbrev cL_failedCommand : ByteArray := method_25_code
def yL_failedCommand : MethodName := ⟨RL, "failedCommand", "(LHillContest;[J)I"⟩
abbrev cL_describeRow : ByteArray := method_26_code
def yL_describeRow : MethodName := ⟨RL, "describeRow", "(LHillContest;I[J)I"⟩
abbrev cL_lineAt : ByteArray := method_27_code
def yL_lineAt : MethodName := ⟨RL, "lineAt", "(LHillContest;I[J)I"⟩
abbrev cL_meanAvalanche : ByteArray := method_28_code
def yL_meanAvalanche : MethodName := ⟨RL, "meanAvalanche", "(LHillContest;[D)I"⟩
abbrev cL_undo : ByteArray := method_29_code
def yL_undo : MethodName := ⟨RL, "undo", "(LHillContest;[J)I"⟩
abbrev cL_restore : ByteArray := method_30_code
def yL_restore : MethodName := ⟨RL, "restore", "(LHillContest;[J)I"⟩
abbrev cL_law : ByteArray := code
def yL_law : MethodName := ⟨RL, "law", "([I)Z"⟩
abbrev vwCl : List vw_C := [(RJ0, TJ0, 4), (RJ4, TJ4, 4), (RJx00060, TJx00060, 6), (RJx7c733, TJx7c733, 6), (RX1, TX1, 4), (RX2, TX2, 4), (RX4, TX4, 5), (RX6, TX6, 9), (RX7, TX7, 3), (RX8, TX8, 12), (RX9, TX9, 21)]
