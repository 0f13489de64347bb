section MG
def mNB : List Int32 := [1, 5, 25, 25, 0, 2, 6, 25, 1, 3, 7, 25, 2, 4, 8, 25, 3, 9, 25, 25, 0, 6, 10, 25, 1, 5, 7, 11, 2, 6, 8, 12, 3, 7, 9, 13, 4, 8, 14, 25, 5, 11, 15, 25, 6, 10, 12, 16, 7, 11, 13, 17, 8, 12, 14, 18, 9, 13, 19, 25, 10, 16, 20, 25, 11, 15, 17, 21, 12, 16, 18, 22, 13, 17, 19, 23, 14, 18, 24, 25, 15, 21, 25, 25, 16, 20, 22, 25, 17, 21, 23, 25, 18, 22, 24, 25, 19, 23, 25, 25]
def mSM : List Int32 := [1, 2, 3, 4, 6, 5, 0, 0]
def mD1 : List Int32 := [48, 49, 50, 51, 52, 53, 54, 55, 56, 57, 48, 49, 50, 51, 52, 53, 54, 55, 56, 57, 48, 49, 50, 51, 52, 53, 54, 55, 56, 57, 48, 49, 50, 51, 52, 53, 54, 55, 56, 57, 48, 49, 50, 51, 52, 53, 54, 55, 56, 57, 48, 49, 50, 51, 52, 53, 54, 55, 56, 57, 48, 49, 50, 51, 52, 53, 54, 55, 56, 57, 48, 49, 50, 51, 52, 53, 54, 55, 56, 57, 48, 49, 50, 51, 52, 53, 54, 55, 56, 57, 48, 49, 50, 51, 52, 53, 54, 55, 56, 57]
def mD10 : List Int32 := [48, 48, 48, 48, 48, 48, 48, 48, 48, 48, 49, 49, 49, 49, 49, 49, 49, 49, 49, 49, 50, 50, 50, 50, 50, 50, 50, 50, 50, 50, 51, 51, 51, 51, 51, 51, 51, 51, 51, 51, 52, 52, 52, 52, 52, 52, 52, 52, 52, 52, 53, 53, 53, 53, 53, 53, 53, 53, 53, 53, 54, 54, 54, 54, 54, 54, 54, 54, 54, 54, 55, 55, 55, 55, 55, 55, 55, 55, 55, 55, 56, 56, 56, 56, 56, 56, 56, 56, 56, 56, 57, 57, 57, 57, 57, 57, 57, 57, 57, 57]
def mSt30 : List Int32 := [112, 108, 97, 121, 101, 114]
def mSt31 : List Int32 := [100, 114, 111, 112]
def mSt32 : List Int32 := [112, 105, 108, 101]
def mSt33 : List Int32 := [116, 97, 107, 101]
def mSt34 : List Int32 := [115, 107, 105, 112]
def mSt35 : List Int32 := [115, 108, 111, 112, 101]
def mSt36 : List Int32 := [111, 112, 101, 110]
def mSt37 : List Int32 := [99, 108, 111, 115, 101]
def mSt40 : List Int32 := [32, 110]
def mSt41 : List Int32 := [32, 100, 32, 110, 32, 100]
def mSt42 : List Int32 := [32, 110, 32, 100]
def mSt43 : List Int32 := [32, 100, 32, 110]
def mSt44 : List Int32 := []
def mSt45 : List Int32 := [32, 100]
abbrev tArr (l : List Int32) : Nat → Value := fun j => .int (l.getD j 0)
def gZs : List (String × String × String × Value) := [("HillContest", "NEIGHBOURS", "[I", .ref 1000000),
  ("HillContest", "KEYWORDS", "[LHillContest$Keyword;", .ref 1000001),
  ("HillContest$1", "$SwitchMap$HillContest$Keyword", "[I", .ref 1000002),
  ("java/lang/Integer", "DigitOnes", "[B", .ref 1000003),
  ("java/lang/Integer", "DigitTens", "[B", .ref 1000004),
  ("HillContest$Fault", "NO_FAULT", "LHillContest$Fault;", .ref 1000010),
  ("HillContest$Fault", "INDEX", "LHillContest$Fault;", .ref 1000011),
  ("HillContest$Fault", "ARGUMENT", "LHillContest$Fault;", .ref 1000012),
  ("HillContest$Fault", "STATE", "LHillContest$Fault;", .ref 1000013),
  ("HillContest$Fault", "ELEMENT", "LHillContest$Fault;", .ref 1000014),
  ("HillContest$Fault", "OPERATION", "LHillContest$Fault;", .ref 1000015),
  ("HillContest$Keyword", "PLAYER", "LHillContest$Keyword;", .ref 1000020),
  ("HillContest$Keyword", "DROP", "LHillContest$Keyword;", .ref 1000021),
  ("HillContest$Keyword", "PILE", "LHillContest$Keyword;", .ref 1000022),
  ("HillContest$Keyword", "TAKE", "LHillContest$Keyword;", .ref 1000023),
  ("HillContest$Keyword", "SKIP", "LHillContest$Keyword;", .ref 1000024),
  ("HillContest$Keyword", "SLOPE", "LHillContest$Keyword;", .ref 1000025),
  ("HillContest$Keyword", "OPEN", "LHillContest$Keyword;", .ref 1000026),
  ("HillContest$Keyword", "CLOSE", "LHillContest$Keyword;", .ref 1000027),
  ("java/lang/String", "COMPACT_STRINGS", "Z", .int 1)]
def gTs : List (FieldType × Nat × Nat × (Nat → Value)) := [(.int, 1000000, 100, tArr mNB),
  (.object "HillContest$Keyword", 1000001, 8, fun j => .ref (1000020 + j)),
  (.int, 1000002, 8, tArr mSM),
  (.byte, 1000003, 100, tArr mD1),
  (.byte, 1000004, 100, tArr mD10),
  (.byte, 1000050, 6, tArr mSt30),
  (.byte, 1000051, 4, tArr mSt31),
  (.byte, 1000052, 4, tArr mSt32),
  (.byte, 1000053, 4, tArr mSt33),
  (.byte, 1000054, 4, tArr mSt34),
  (.byte, 1000055, 5, tArr mSt35),
  (.byte, 1000056, 4, tArr mSt36),
  (.byte, 1000057, 5, tArr mSt37),
  (.byte, 1000060, 2, tArr mSt40),
  (.byte, 1000061, 6, tArr mSt41),
  (.byte, 1000062, 4, tArr mSt42),
  (.byte, 1000063, 4, tArr mSt43),
  (.byte, 1000064, 0, tArr mSt44),
  (.byte, 1000065, 2, tArr mSt45)]
def gOs : List (String × Nat) := [("HillContest$Fault", 1000010), ("HillContest$Fault", 1000011), ("HillContest$Fault", 1000012), ("HillContest$Fault", 1000013), ("HillContest$Fault", 1000014), ("HillContest$Fault", 1000015), ("HillContest$Keyword", 1000020), ("HillContest$Keyword", 1000021), ("HillContest$Keyword", 1000022), ("HillContest$Keyword", 1000023), ("HillContest$Keyword", 1000024), ("HillContest$Keyword", 1000025), ("HillContest$Keyword", 1000026), ("HillContest$Keyword", 1000027), ("java/lang/String", 1000030), ("java/lang/String", 1000031), ("java/lang/String", 1000032), ("java/lang/String", 1000033), ("java/lang/String", 1000034), ("java/lang/String", 1000035), ("java/lang/String", 1000036), ("java/lang/String", 1000037), ("java/lang/String", 1000040), ("java/lang/String", 1000041), ("java/lang/String", 1000042), ("java/lang/String", 1000043), ("java/lang/String", 1000044), ("java/lang/String", 1000045)]
def gFs : List (String × String × String × Value × Nat) := [("java/lang/Enum", "ordinal", "I", .int 0, 1000020),
  ("HillContest$Keyword", "word", "Ljava/lang/String;", .ref 1000030, 1000020),
  ("HillContest$Keyword", "form", "Ljava/lang/String;", .ref 1000040, 1000020),
  ("java/lang/Enum", "ordinal", "I", .int 1, 1000021),
  ("HillContest$Keyword", "word", "Ljava/lang/String;", .ref 1000031, 1000021),
  ("HillContest$Keyword", "form", "Ljava/lang/String;", .ref 1000041, 1000021),
  ("java/lang/Enum", "ordinal", "I", .int 2, 1000022),
  ("HillContest$Keyword", "word", "Ljava/lang/String;", .ref 1000032, 1000022),
  ("HillContest$Keyword", "form", "Ljava/lang/String;", .ref 1000042, 1000022),
  ("java/lang/Enum", "ordinal", "I", .int 3, 1000023),
  ("HillContest$Keyword", "word", "Ljava/lang/String;", .ref 1000033, 1000023),
  ("HillContest$Keyword", "form", "Ljava/lang/String;", .ref 1000043, 1000023),
  ("java/lang/Enum", "ordinal", "I", .int 4, 1000024),
  ("HillContest$Keyword", "word", "Ljava/lang/String;", .ref 1000034, 1000024),
  ("HillContest$Keyword", "form", "Ljava/lang/String;", .ref 1000044, 1000024),
  ("java/lang/Enum", "ordinal", "I", .int 5, 1000025),
  ("HillContest$Keyword", "word", "Ljava/lang/String;", .ref 1000035, 1000025),
  ("HillContest$Keyword", "form", "Ljava/lang/String;", .ref 1000045, 1000025),
  ("java/lang/Enum", "ordinal", "I", .int 6, 1000026),
  ("HillContest$Keyword", "word", "Ljava/lang/String;", .ref 1000036, 1000026),
  ("HillContest$Keyword", "form", "Ljava/lang/String;", .ref 1000044, 1000026),
  ("java/lang/Enum", "ordinal", "I", .int 7, 1000027),
  ("HillContest$Keyword", "word", "Ljava/lang/String;", .ref 1000037, 1000027),
  ("HillContest$Keyword", "form", "Ljava/lang/String;", .ref 1000044, 1000027),
  ("java/lang/String", "coder", "B", .int 0, 1000030),
  ("java/lang/String", "value", "[B", .ref 1000050, 1000030),
  ("java/lang/String", "coder", "B", .int 0, 1000031),
  ("java/lang/String", "value", "[B", .ref 1000051, 1000031),
  ("java/lang/String", "coder", "B", .int 0, 1000032),
  ("java/lang/String", "value", "[B", .ref 1000052, 1000032),
  ("java/lang/String", "coder", "B", .int 0, 1000033),
  ("java/lang/String", "value", "[B", .ref 1000053, 1000033),
  ("java/lang/String", "coder", "B", .int 0, 1000034),
  ("java/lang/String", "value", "[B", .ref 1000054, 1000034),
  ("java/lang/String", "coder", "B", .int 0, 1000035),
  ("java/lang/String", "value", "[B", .ref 1000055, 1000035),
  ("java/lang/String", "coder", "B", .int 0, 1000036),
  ("java/lang/String", "value", "[B", .ref 1000056, 1000036),
  ("java/lang/String", "coder", "B", .int 0, 1000037),
  ("java/lang/String", "value", "[B", .ref 1000057, 1000037),
  ("java/lang/String", "coder", "B", .int 0, 1000040),
  ("java/lang/String", "value", "[B", .ref 1000060, 1000040),
  ("java/lang/String", "coder", "B", .int 0, 1000041),
  ("java/lang/String", "value", "[B", .ref 1000061, 1000041),
  ("java/lang/String", "coder", "B", .int 0, 1000042),
  ("java/lang/String", "value", "[B", .ref 1000062, 1000042),
  ("java/lang/String", "coder", "B", .int 0, 1000043),
  ("java/lang/String", "value", "[B", .ref 1000063, 1000043),
  ("java/lang/String", "coder", "B", .int 0, 1000044),
  ("java/lang/String", "value", "[B", .ref 1000064, 1000044),
  ("java/lang/String", "coder", "B", .int 0, 1000045),
  ("java/lang/String", "value", "[B", .ref 1000065, 1000045)]
def gRs : List (String × Nat × String × Nat) := [("HillContest", 323, "no such player or cell", 1001323),
  ("HillContest", 328, "the number is out of its range", 1001328),
  ("HillContest", 333, "too many players or stones, or the player rests", 1001333),
  ("HillContest", 338, "there are no stones on the cell", 1001338),
  ("HillContest", 345, "the player does not have these stones", 1001345),
  ("HillContest", 351, "no such player", 1001351),
  ("HillContest", 356, "no such cell", 1001356),
  ("HillContest", 147, "the cell belongs to nobody", 1001147),
  ("HillContest", 361, "the number of stones is not from 1 to 9", 1001361),
  ("HillContest", 187, "no peak has this rank", 1001187),
  ("HillContest", 198, "no player has this rank", 1001198),
  ("HillContest", 202, "there are no peaks", 1001202),
  ("HillContest", 225, "the code of the character is not from 32 to 126", 1001225),
  ("HillContest", 236, "the command text is full", 1001236),
  ("HillContest", 253, "the text is not a command text", 1001253),
  ("HillContest", 275, "a command fails", 1001275),
  ("HillContest", 281, "no error position was set", 1001281),
  ("HillContest", 283, "no command has failed", 1001283),
  ("HillContest", 287, "no such row", 1001287),
  ("HillContest", 293, "no such index in the line", 1001293),
  ("HillContest", 299, "there was no avalanche", 1001299),
  ("HillContest", 310, "there is no change to undo", 1001310),
  ("HillContest", 318, "there is no snapshot", 1001318)]
def gCs : List (String × String) := [("java/lang/StringBuilder", "java/lang/IllegalArgumentException"),
  ("java/lang/IndexOutOfBoundsException", "java/lang/IllegalArgumentException"),
  ("java/lang/IllegalStateException", "java/lang/IllegalArgumentException"),
  ("java/util/NoSuchElementException", "java/lang/IllegalArgumentException"),
  ("java/lang/UnsupportedOperationException", "java/lang/IllegalArgumentException"),
  ("java/lang/ArrayIndexOutOfBoundsException", "java/lang/IllegalArgumentException"),
  ("java/lang/ArithmeticException", "java/lang/IllegalArgumentException"),
  ("java/lang/StringIndexOutOfBoundsException", "java/lang/IllegalArgumentException"),
  ("java/lang/String", "java/lang/IllegalArgumentException"),
  ("java/lang/StringBuilder", "java/lang/IllegalStateException"),
  ("java/lang/IndexOutOfBoundsException", "java/lang/IllegalStateException"),
  ("java/lang/IllegalArgumentException", "java/lang/IllegalStateException"),
  ("java/util/NoSuchElementException", "java/lang/IllegalStateException"),
  ("java/lang/UnsupportedOperationException", "java/lang/IllegalStateException"),
  ("java/lang/ArrayIndexOutOfBoundsException", "java/lang/IllegalStateException"),
  ("java/lang/ArithmeticException", "java/lang/IllegalStateException"),
  ("java/lang/StringIndexOutOfBoundsException", "java/lang/IllegalStateException"),
  ("java/lang/String", "java/lang/IllegalStateException"),
  ("java/lang/StringBuilder", "java/lang/IndexOutOfBoundsException"),
  ("java/lang/IllegalArgumentException", "java/lang/IndexOutOfBoundsException"),
  ("java/lang/IllegalStateException", "java/lang/IndexOutOfBoundsException"),
  ("java/util/NoSuchElementException", "java/lang/IndexOutOfBoundsException"),
  ("java/lang/UnsupportedOperationException", "java/lang/IndexOutOfBoundsException"),
  ("java/lang/ArithmeticException", "java/lang/IndexOutOfBoundsException"),
  ("java/lang/String", "java/lang/IndexOutOfBoundsException"),
  ("java/lang/StringBuilder", "java/lang/UnsupportedOperationException"),
  ("java/lang/IndexOutOfBoundsException", "java/lang/UnsupportedOperationException"),
  ("java/lang/IllegalArgumentException", "java/lang/UnsupportedOperationException"),
  ("java/lang/IllegalStateException", "java/lang/UnsupportedOperationException"),
  ("java/util/NoSuchElementException", "java/lang/UnsupportedOperationException"),
  ("java/lang/ArrayIndexOutOfBoundsException", "java/lang/UnsupportedOperationException"),
  ("java/lang/ArithmeticException", "java/lang/UnsupportedOperationException"),
  ("java/lang/StringIndexOutOfBoundsException", "java/lang/UnsupportedOperationException"),
  ("java/lang/String", "java/lang/UnsupportedOperationException"),
  ("java/lang/StringBuilder", "java/util/NoSuchElementException"),
  ("java/lang/IndexOutOfBoundsException", "java/util/NoSuchElementException"),
  ("java/lang/IllegalArgumentException", "java/util/NoSuchElementException"),
  ("java/lang/IllegalStateException", "java/util/NoSuchElementException"),
  ("java/lang/UnsupportedOperationException", "java/util/NoSuchElementException"),
  ("java/lang/ArrayIndexOutOfBoundsException", "java/util/NoSuchElementException"),
  ("java/lang/ArithmeticException", "java/util/NoSuchElementException"),
  ("java/lang/StringIndexOutOfBoundsException", "java/util/NoSuchElementException"),
  ("java/lang/String", "java/util/NoSuchElementException"),
  ("java/lang/StringBuilder", "java/lang/ArithmeticException"),
  ("java/lang/IndexOutOfBoundsException", "java/lang/ArithmeticException"),
  ("java/lang/IllegalArgumentException", "java/lang/ArithmeticException"),
  ("java/lang/IllegalStateException", "java/lang/ArithmeticException"),
  ("java/util/NoSuchElementException", "java/lang/ArithmeticException"),
  ("java/lang/UnsupportedOperationException", "java/lang/ArithmeticException"),
  ("java/lang/ArrayIndexOutOfBoundsException", "java/lang/ArithmeticException"),
  ("java/lang/StringIndexOutOfBoundsException", "java/lang/ArithmeticException"),
  ("java/lang/String", "java/lang/ArithmeticException"),
  ("java/lang/StringBuilder", "HillContest$State"),
  ("java/lang/IndexOutOfBoundsException", "HillContest$State"),
  ("java/lang/IllegalArgumentException", "HillContest$State"),
  ("java/lang/IllegalStateException", "HillContest$State"),
  ("java/util/NoSuchElementException", "HillContest$State"),
  ("java/lang/UnsupportedOperationException", "HillContest$State"),
  ("java/lang/ArrayIndexOutOfBoundsException", "HillContest$State"),
  ("java/lang/ArithmeticException", "HillContest$State"),
  ("java/lang/StringIndexOutOfBoundsException", "HillContest$State"),
  ("java/lang/String", "HillContest$State"),
  ("java/lang/Throwable", "HillContest$State"),
  ("java/lang/StringBuilder", "HillContest$Command"),
  ("java/lang/IndexOutOfBoundsException", "HillContest$Command"),
  ("java/lang/IllegalArgumentException", "HillContest$Command"),
  ("java/lang/IllegalStateException", "HillContest$Command"),
  ("java/util/NoSuchElementException", "HillContest$Command"),
  ("java/lang/UnsupportedOperationException", "HillContest$Command"),
  ("java/lang/ArrayIndexOutOfBoundsException", "HillContest$Command"),
  ("java/lang/ArithmeticException", "HillContest$Command"),
  ("java/lang/StringIndexOutOfBoundsException", "HillContest$Command"),
  ("java/lang/String", "HillContest$Command"),
  ("java/lang/Throwable", "HillContest$Command")]
/-- handles of constants that differ pairwise -/
def gIs : List Nat := [1000010, 1000011, 1000012, 1000013, 1000014, 1000015, 1000020, 1000021, 1000022, 1000023, 1000024, 1000025, 1000026, 1000027]
/-- the formatter that is only handed on: null, or some object -/
def Gsf (ad : Nat → Nat) (A : Nat → Prop) (U : State) (H : Heap) : Prop := va_Z "jdk/internal/util/Preconditions" "SIOOBE_FORMATTER" "Ljava/util/function/BiFunction;" .null A U H ∨ va_Z "jdk/internal/util/Preconditions" "SIOOBE_FORMATTER" "Ljava/util/function/BiFunction;" (.ref (ad 1000070)) A U H
theorem Gsf.moved {ad : Nat → Nat} {A : Nat → Prop} {u U : State} {H : Heap} (h : Gsf ad A u H) (hv : u.vm.Alike U.vm) : Gsf ad A U H := h.imp (fun z => z.moved hv) (fun z => z.moved hv)
theorem Gsf.kept {ad : Nat → Nat} {A : Nat → Prop} {U : State} {H H1 : Heap} (h : Gsf ad A U H) (hq : ∀ a : Nat, a < H.size → ¬ A a → H1[a]? = H[a]?) : Gsf ad A U H1 := h.imp (fun z => z.kept hq) (fun z => z.kept hq)
theorem Gsf.narrow {ad : Nat → Nat} {A B : Nat → Prop} {U : State} {H : Heap} (h : Gsf ad A U H) (hq : ∀ q, B q → A q) : Gsf ad B U H := h.imp (fun z => z.narrow hq) (fun z => z.narrow hq)
/-- what every method may use of the statics: their values, constant arrays, constant objects and their fields, texts, nest mates' words, and what a throw needs -/
def Gl (ad : Nat → Nat) (A : Nat → Prop) (U : State) (H : Heap) : Prop :=
  (∀ x ∈ gZs, va_Z x.1 x.2.1 x.2.2.1 (trV ad x.2.2.2) A U H) ∧
  (∀ x ∈ gTs, va_T x.1 (ad x.2.1) x.2.2.1 (fun j => trV ad (x.2.2.2 j)) A U H) ∧
  (∀ x ∈ gOs, va_O x.1 (ad x.2) A U H) ∧
  (∀ x ∈ gFs, va_OF x.1 x.2.1 x.2.2.1 (trV ad x.2.2.2.1) (ad x.2.2.2.2) A U H) ∧
  (∀ x ∈ gRs, vk_R x.1 x.2.1 x.2.2.1 (ad x.2.2.2) U) ∧
  (∀ i j, i ∈ gIs → j ∈ gIs → ad i = ad j → i = j) ∧
  (∀ w ∈ mNests, va_Nw w U) ∧ (∀ x ∈ gCs, va_Nc x.1 x.2 U) ∧
  vx_Zq Bundle.tN "UNASSIGNED_STACK" Bundle.steD A U H ∧ vx_Zq Bundle.tN "SUPPRESSED_SENTINEL" Bundle.listD A U H ∧ Gsf ad A U H
theorem Gl.warm {ad : Nat → Nat} {A : Nat → Prop} {s U : State} {H : Heap} (h : Gl ad A s H) (hW : s.WarmedH U.vm) : Gl ad A U H :=
  ⟨fun x hx => (h.1 x hx).moved hW.alike, fun x hx => (h.2.1 x hx).moved hW.alike, fun x hx => (h.2.2.1 x hx).moved hW.alike, fun x hx => (h.2.2.2.1 x hx).moved hW.alike, fun x hx => (h.2.2.2.2.1 x hx).warm hW, h.2.2.2.2.2.1, fun w hw => mNest_warm (List.mem_filter.mp hw).2 hW (h.2.2.2.2.2.2.1 w hw), fun x hx => (h.2.2.2.2.2.2.2.1 x hx).moved hW.alike, h.2.2.2.2.2.2.2.2.1.moved hW.alike, h.2.2.2.2.2.2.2.2.2.1.moved hW.alike, h.2.2.2.2.2.2.2.2.2.2.moved hW.alike⟩
theorem Gl.same {ad : Nat → Nat} {A : Nat → Prop} {s U : State} {H : Heap} (h : Gl ad A s H) (hv : U.vm = s.vm) : Gl ad A U H := by
  have ha : s.vm.Alike U.vm := by rw [hv]; exact Vm.Alike.refl _
  exact ⟨fun x hx => (h.1 x hx).moved ha, fun x hx => (h.2.1 x hx).moved ha, fun x hx => (h.2.2.1 x hx).moved ha, fun x hx => (h.2.2.2.1 x hx).moved ha, fun x hx => (h.2.2.2.2.1 x hx).same hv, h.2.2.2.2.2.1, fun w hw => mNest_same (List.mem_filter.mp hw).2 hv.symm (h.2.2.2.2.2.2.1 w hw), fun x hx => (h.2.2.2.2.2.2.2.1 x hx).moved ha, h.2.2.2.2.2.2.2.2.1.moved ha, h.2.2.2.2.2.2.2.2.2.1.moved ha, h.2.2.2.2.2.2.2.2.2.2.moved ha⟩
theorem Gl.kept {ad : Nat → Nat} {A : Nat → Prop} {U : State} {H H1 : Heap} (h : Gl ad A U H) (hq : ∀ a : Nat, a < H.size → ¬ A a → H1[a]? = H[a]?) : Gl ad A U H1 :=
  ⟨fun x hx => (h.1 x hx).kept hq, fun x hx => (h.2.1 x hx).kept hq, fun x hx => (h.2.2.1 x hx).kept hq, fun x hx => (h.2.2.2.1 x hx).kept hq, h.2.2.2.2.1, h.2.2.2.2.2.1, h.2.2.2.2.2.2.1, h.2.2.2.2.2.2.2.1, h.2.2.2.2.2.2.2.2.1.kept hq, h.2.2.2.2.2.2.2.2.2.1.kept hq, h.2.2.2.2.2.2.2.2.2.2.kept hq⟩
theorem Gl.narrow {ad : Nat → Nat} {A B : Nat → Prop} {U : State} {H : Heap} (h : Gl ad A U H) (hq : ∀ q, B q → A q) : Gl ad B U H :=
  ⟨fun x hx => (h.1 x hx).narrow hq, fun x hx => (h.2.1 x hx).narrow hq, fun x hx => (h.2.2.1 x hx).narrow hq, fun x hx => (h.2.2.2.1 x hx).narrow hq, h.2.2.2.2.1, h.2.2.2.2.2.1, h.2.2.2.2.2.2.1, h.2.2.2.2.2.2.2.1, h.2.2.2.2.2.2.2.2.1.narrow hq, h.2.2.2.2.2.2.2.2.2.1.narrow hq, h.2.2.2.2.2.2.2.2.2.2.narrow hq⟩
/-- the static facts of a callee, out of the caller's -/
theorem Gl.call {ad : Nat → Nat} {A B : Nat → Prop} {s U : State} {H : Heap} {locs : List Loc} (h : Gl ad A s s.heap) (hS : va_S A s.heap H locs) (hU : U.heap = H) (hW : s.WarmedH U.vm) (hB : ∀ q, B q → A q) : Gl ad B U U.heap := by
  rw [hU]
  exact (((h.warm hW).kept hS.2.1).narrow hB)
end MG
