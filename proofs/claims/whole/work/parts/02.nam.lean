def RL : String := "TaughtClocksLaw"
def RX0 : String := "TaughtClocks$BestRing"
def TX0 : u_T := fun k => match k with
  | 0 => ("TaughtClocks$BestRing", "choices", "LTaughtClocks$Choices;", true)
  | 1 => ("TaughtClocks$BestRing", "order", "[I", true)
  | _ => ("TaughtClocks$BestRing", "best", "LTaughtClocks$Least;", true)
def tyX0 : Nat → FieldType := fun k => match k with
  | 0 => .object "TaughtClocks$Choices"
  | 1 => .array .int
  | _ => .object "TaughtClocks$Least"
abbrev wsX00 : List Cond := u_ws RX0 TX0 3
theorem nmX0 : ∀ a, a < 3 → ∀ b, b < 3 → a ≠ b → (TX0 a).2.1 ≠ (TX0 b).2.1 := by decide +kernel
theorem tyX0_ok : ∀ k, k < 3 → parseFieldDescriptor (TX0 k).2.2.1 = some (tyX0 k) := by decide +kernel
abbrev cX0_init : ByteArray := prog_2_method_1_code
def yX0_init : MethodName := ⟨RX0, "<init>", "()V"⟩
abbrev cX0_seek : ByteArray := prog_2_method_2_code
def yX0_seek : MethodName := ⟨RX0, "seek", "(LTaughtClocks$Standing;LTaughtClocks$Standing;)V"⟩
abbrev cX0_orderAsChosen : ByteArray := prog_2_method_3_code
def yX0_orderAsChosen : MethodName := ⟨RX0, "orderAsChosen", "(I)V"⟩
abbrev cX0_comesAt : ByteArray := prog_2_method_4_code
def yX0_comesAt : MethodName := ⟨RX0, "comesAt", "(I)I"⟩
def RX1 : String := "TaughtClocks$BestTwos"
def TX1 : u_T := fun k => match k with
  | 0 => ("TaughtClocks$BestTwos", "choices", "LTaughtClocks$Choices;", true)
  | 1 => ("TaughtClocks$BestTwos", "mates", "[I", true)
  | _ => ("TaughtClocks$BestTwos", "best", "LTaughtClocks$Least;", true)
def tyX1 : Nat → FieldType := fun k => match k with
  | 0 => .object "TaughtClocks$Choices"
  | 1 => .array .int
  | _ => .object "TaughtClocks$Least"
abbrev wsX10 : List Cond := u_ws RX1 TX1 3
theorem nmX1 : ∀ a, a < 3 → ∀ b, b < 3 → a ≠ b → (TX1 a).2.1 ≠ (TX1 b).2.1 := by decide +kernel
theorem tyX1_ok : ∀ k, k < 3 → parseFieldDescriptor (TX1 k).2.2.1 = some (tyX1 k) := by decide +kernel
abbrev cX1_init : ByteArray := prog_3_method_1_code
def yX1_init : MethodName := ⟨RX1, "<init>", "()V"⟩
abbrev cX1_seek : ByteArray := prog_3_method_2_code
def yX1_seek : MethodName := ⟨RX1, "seek", "(LTaughtClocks$Standing;)V"⟩
abbrev cX1_pairAsChosen : ByteArray := prog_3_method_3_code
def yX1_pairAsChosen : MethodName := ⟨RX1, "pairAsChosen", "(LTaughtClocks$Standing;II)I"⟩
abbrev cX1_mateOf : ByteArray := prog_3_method_4_code
def yX1_mateOf : MethodName := ⟨RX1, "mateOf", "(I)I"⟩
def RX2 : String := "TaughtClocks$Choices"
def TX2 : u_T := fun k => match k with
  | 0 => ("TaughtClocks$Choices", "chosen", "[I", true)
  | 1 => ("TaughtClocks$Choices", "bounds", "[I", true)
  | _ => ("TaughtClocks$Choices", "many", "I", false)
def tyX2 : Nat → FieldType := fun k => match k with
  | 0 => .array .int
  | 1 => .array .int
  | _ => .int
abbrev wsX20 : List Cond := u_ws RX2 TX2 3
theorem nmX2 : ∀ a, a < 3 → ∀ b, b < 3 → a ≠ b → (TX2 a).2.1 ≠ (TX2 b).2.1 := by decide +kernel
theorem tyX2_ok : ∀ k, k < 3 → parseFieldDescriptor (TX2 k).2.2.1 = some (tyX2 k) := by decide +kernel
abbrev cX2_init : ByteArray := prog_4_method_1_code
def yX2_init : MethodName := ⟨RX2, "<init>", "()V"⟩
abbrev cX2_clear : ByteArray := prog_4_method_2_code
def yX2_clear : MethodName := ⟨RX2, "clear", "()V"⟩
abbrev cX2_addBound : ByteArray := prog_4_method_3_code
def yX2_addBound : MethodName := ⟨RX2, "addBound", "(I)V"⟩
abbrev cX2_choice : ByteArray := prog_4_method_4_code
def yX2_choice : MethodName := ⟨RX2, "choice", "(I)I"⟩
abbrev cX2_advance : ByteArray := prog_4_method_5_code
def yX2_advance : MethodName := ⟨RX2, "advance", "()Z"⟩
abbrev cX2_free : ByteArray := prog_4_method_6_code
def yX2_free : MethodName := ⟨RX2, "free", "(II)I"⟩
def RX3 : String := "TaughtClocks$Cure"
def TX3 : u_T := fun k => match k with
  | 0 => ("TaughtClocks$Cure", "lessons", "I", false)
  | 1 => ("TaughtClocks$Cure", "first", "I", false)
  | _ => ("TaughtClocks$Cure", "second", "I", false)
def tyX3 : Nat → FieldType := fun k => match k with
  | 0 => .int
  | 1 => .int
  | _ => .int
abbrev wsX30 : List Cond := u_ws RX3 TX3 3
theorem nmX3 : ∀ a, a < 3 → ∀ b, b < 3 → a ≠ b → (TX3 a).2.1 ≠ (TX3 b).2.1 := by decide +kernel
theorem tyX3_ok : ∀ k, k < 3 → parseFieldDescriptor (TX3 k).2.2.1 = some (tyX3 k) := by decide +kernel
abbrev cX3_init : ByteArray := prog_5_method_1_code
def yX3_init : MethodName := ⟨RX3, "<init>", "()V"⟩
abbrev cX3_seek : ByteArray := prog_5_method_2_code
def yX3_seek : MethodName := ⟨RX3, "seek", "(LTaughtClocks$Standing;I)V"⟩
abbrev cX3_seekTwo : ByteArray := prog_5_method_3_code
def yX3_seekTwo : MethodName := ⟨RX3, "seekTwo", "(LTaughtClocks$Standing;I)V"⟩
abbrev cX3_oneLesson : ByteArray := prog_5_method_4_code
def yX3_oneLesson : MethodName := ⟨RX3, "oneLesson", "(LTaughtClocks$Standing;I)I"⟩
def RX4 : String := "TaughtClocks$House"
def TX4 : u_T := fun k => match k with
  | 0 => ("TaughtClocks$House", "kinds", "[I", true)
  | 1 => ("TaughtClocks$House", "firstWrong", "[I", true)
  | 2 => ("TaughtClocks$House", "firstGain", "[I", true)
  | 3 => ("TaughtClocks$House", "wallBits", "[I", true)
  | 4 => ("TaughtClocks$House", "lessonDays", "[I", true)
  | 5 => ("TaughtClocks$House", "teachers", "[I", true)
  | 6 => ("TaughtClocks$House", "pupils", "[I", true)
  | 7 => ("TaughtClocks$House", "clocks", "I", false)
  | 8 => ("TaughtClocks$House", "walls", "I", false)
  | 9 => ("TaughtClocks$House", "lessons", "I", false)
  | 10 => ("TaughtClocks$House", "numbers", "[I", true)
  | _ => ("TaughtClocks$House", "told", "I", false)
def tyX4 : Nat → FieldType := fun k => match k with
  | 0 => .array .int
  | 1 => .array .int
  | 2 => .array .int
  | 3 => .array .int
  | 4 => .array .int
  | 5 => .array .int
  | 6 => .array .int
  | 7 => .int
  | 8 => .int
  | 9 => .int
  | 10 => .array .int
  | _ => .int
abbrev wsX40 : List Cond := u_ws RX4 TX4 12
theorem nmX4 : ∀ a, a < 12 → ∀ b, b < 12 → a ≠ b → (TX4 a).2.1 ≠ (TX4 b).2.1 := by decide +kernel
theorem tyX4_ok : ∀ k, k < 12 → parseFieldDescriptor (TX4 k).2.2.1 = some (tyX4 k) := by decide +kernel
abbrev cX4_init : ByteArray := prog_6_method_1_code
def yX4_init : MethodName := ⟨RX4, "<init>", "()V"⟩
abbrev cX4_readFrom : ByteArray := prog_6_method_2_code
def yX4_readFrom : MethodName := ⟨RX4, "readFrom", "(LTaughtClocks$Text;)I"⟩
abbrev cX4_readNumbers : ByteArray := prog_6_method_3_code
def yX4_readNumbers : MethodName := ⟨RX4, "readNumbers", "(LTaughtClocks$Text;I)I"⟩
abbrev cX4_takeItem : ByteArray := prog_6_method_4_code
def yX4_takeItem : MethodName := ⟨RX4, "takeItem", "(I)Z"⟩
abbrev cX4_takeClock : ByteArray := prog_6_method_5_code
def yX4_takeClock : MethodName := ⟨RX4, "takeClock", "(III)Z"⟩
abbrev cX4_takeWall : ByteArray := prog_6_method_6_code
def yX4_takeWall : MethodName := ⟨RX4, "takeWall", "(II)Z"⟩
abbrev cX4_takeLesson : ByteArray := prog_6_method_7_code
def yX4_takeLesson : MethodName := ⟨RX4, "takeLesson", "(III)Z"⟩
abbrev cX4_hasClock : ByteArray := prog_6_method_8_code
def yX4_hasClock : MethodName := ⟨RX4, "hasClock", "(I)Z"⟩
abbrev cX4_hasBoth : ByteArray := prog_6_method_9_code
def yX4_hasBoth : MethodName := ⟨RX4, "hasBoth", "(II)Z"⟩
abbrev cX4_hasWall : ByteArray := prog_6_method_10_code
def yX4_hasWall : MethodName := ⟨RX4, "hasWall", "(II)Z"⟩
abbrev cX4_wallsOf : ByteArray := prog_6_method_11_code
def yX4_wallsOf : MethodName := ⟨RX4, "wallsOf", "(I)I"⟩
abbrev cX4_kindOf : ByteArray := prog_6_method_12_code
def yX4_kindOf : MethodName := ⟨RX4, "kindOf", "(I)I"⟩
def RX5 : String := "TaughtClocks$Least"
def TX5 : u_T := fun k => match k with
  | 0 => ("TaughtClocks$Least", "row", "[I", true)
  | _ => ("TaughtClocks$Least", "sum", "I", false)
def tyX5 : Nat → FieldType := fun k => match k with
  | 0 => .array .int
  | _ => .int
abbrev wsX50 : List Cond := u_ws RX5 TX5 2
theorem nmX5 : ∀ a, a < 2 → ∀ b, b < 2 → a ≠ b → (TX5 a).2.1 ≠ (TX5 b).2.1 := by decide +kernel
theorem tyX5_ok : ∀ k, k < 2 → parseFieldDescriptor (TX5 k).2.2.1 = some (tyX5 k) := by decide +kernel
abbrev cX5_init : ByteArray := prog_7_method_1_code
def yX5_init : MethodName := ⟨RX5, "<init>", "()V"⟩
abbrev cX5_clear : ByteArray := prog_7_method_2_code
def yX5_clear : MethodName := ⟨RX5, "clear", "()V"⟩
abbrev cX5_offer : ByteArray := prog_7_method_3_code
def yX5_offer : MethodName := ⟨RX5, "offer", "(I[I)V"⟩
def RX6 : String := "TaughtClocks$Rumours"
def TX6 : u_T := fun k => match k with
  | 0 => ("TaughtClocks$Rumours", "clocks", "[I", true)
  | 1 => ("TaughtClocks$Rumours", "minutes", "[I", true)
  | _ => ("TaughtClocks$Rumours", "heard", "I", false)
def tyX6 : Nat → FieldType := fun k => match k with
  | 0 => .array .int
  | 1 => .array .int
  | _ => .int
abbrev wsX60 : List Cond := u_ws RX6 TX6 3
theorem nmX6 : ∀ a, a < 3 → ∀ b, b < 3 → a ≠ b → (TX6 a).2.1 ≠ (TX6 b).2.1 := by decide +kernel
theorem tyX6_ok : ∀ k, k < 3 → parseFieldDescriptor (TX6 k).2.2.1 = some (tyX6 k) := by decide +kernel
abbrev cX6_init : ByteArray := prog_8_method_1_code
def yX6_init : MethodName := ⟨RX6, "<init>", "()V"⟩
abbrev cX6_add : ByteArray := prog_8_method_2_code
def yX6_add : MethodName := ⟨RX6, "add", "(II)V"⟩
abbrev cX6_fit : ByteArray := prog_8_method_3_code
def yX6_fit : MethodName := ⟨RX6, "fit", "(LTaughtClocks$Standing;)Z"⟩
def RX7 : String := "TaughtClocks$Shelf"
def TX7 : u_T := fun k => match k with
  | 0 => ("TaughtClocks$Shelf", "places", "[LTaughtClocks$Standing;", true)
  | _ => ("TaughtClocks$Shelf", "held", "I", false)
def tyX7 : Nat → FieldType := fun k => match k with
  | 0 => .array (.object "TaughtClocks$Standing")
  | _ => .int
abbrev wsX70 : List Cond := u_ws RX7 TX7 2
theorem nmX7 : ∀ a, a < 2 → ∀ b, b < 2 → a ≠ b → (TX7 a).2.1 ≠ (TX7 b).2.1 := by decide +kernel
theorem tyX7_ok : ∀ k, k < 2 → parseFieldDescriptor (TX7 k).2.2.1 = some (tyX7 k) := by decide +kernel
abbrev cX7_init : ByteArray := prog_9_method_1_code
def yX7_init : MethodName := ⟨RX7, "<init>", "(LTaughtClocks$House;I)V"⟩
abbrev cX7_add : ByteArray := prog_9_method_2_code
def yX7_add : MethodName := ⟨RX7, "add", "(LTaughtClocks$Standing;)V"⟩
abbrev cX7_dropOldest : ByteArray := prog_9_method_3_code
def yX7_dropOldest : MethodName := ⟨RX7, "dropOldest", "()V"⟩
abbrev cX7_takeLatest : ByteArray := prog_9_method_4_code
def yX7_takeLatest : MethodName := ⟨RX7, "takeLatest", "(LTaughtClocks$Standing;)V"⟩
def RX8 : String := "TaughtClocks$Standing"
def TX8 : u_T := fun k => match k with
  | 0 => ("TaughtClocks$Standing", "house", "LTaughtClocks$House;", true)
  | 1 => ("TaughtClocks$Standing", "wrong", "[I", true)
  | 2 => ("TaughtClocks$Standing", "gain", "[I", true)
  | _ => ("TaughtClocks$Standing", "day", "I", false)
def tyX8 : Nat → FieldType := fun k => match k with
  | 0 => .object "TaughtClocks$House"
  | 1 => .array .int
  | 2 => .array .int
  | _ => .int
abbrev wsX80 : List Cond := u_ws RX8 TX8 4
theorem nmX8 : ∀ a, a < 4 → ∀ b, b < 4 → a ≠ b → (TX8 a).2.1 ≠ (TX8 b).2.1 := by decide +kernel
theorem tyX8_ok : ∀ k, k < 4 → parseFieldDescriptor (TX8 k).2.2.1 = some (tyX8 k) := by decide +kernel
abbrev cX8_init : ByteArray := prog_10_method_1_code
def yX8_init : MethodName := ⟨RX8, "<init>", "(LTaughtClocks$House;)V"⟩
abbrev cX8_begin : ByteArray := prog_10_method_2_code
def yX8_begin : MethodName := ⟨RX8, "begin", "()V"⟩
abbrev cX8_takeFrom : ByteArray := prog_10_method_3_code
def yX8_takeFrom : MethodName := ⟨RX8, "takeFrom", "(LTaughtClocks$Standing;)V"⟩
abbrev cX8_wrongOf : ByteArray := prog_10_method_4_code
def yX8_wrongOf : MethodName := ⟨RX8, "wrongOf", "(I)I"⟩
abbrev cX8_gainOf : ByteArray := prog_10_method_5_code
def yX8_gainOf : MethodName := ⟨RX8, "gainOf", "(I)I"⟩
abbrev cX8_makeWrong : ByteArray := prog_10_method_6_code
def yX8_makeWrong : MethodName := ⟨RX8, "makeWrong", "(II)V"⟩
abbrev cX8_makeAllSeeingWrong : ByteArray := prog_10_method_7_code
def yX8_makeAllSeeingWrong : MethodName := ⟨RX8, "makeAllSeeingWrong", "(I)V"⟩
abbrev cX8_oilOnce : ByteArray := prog_10_method_8_code
def yX8_oilOnce : MethodName := ⟨RX8, "oilOnce", "(I)V"⟩
abbrev cX8_canLearn : ByteArray := prog_10_method_9_code
def yX8_canLearn : MethodName := ⟨RX8, "canLearn", "(I)Z"⟩
abbrev cX8_learn : ByteArray := prog_10_method_10_code
def yX8_learn : MethodName := ⟨RX8, "learn", "(II)V"⟩
abbrev cX8_wrongWhenTaught : ByteArray := prog_10_method_11_code
def yX8_wrongWhenTaught : MethodName := ⟨RX8, "wrongWhenTaught", "(II)I"⟩
abbrev cX8_passDays : ByteArray := prog_10_method_12_code
def yX8_passDays : MethodName := ⟨RX8, "passDays", "(I)V"⟩
abbrev cX8_passDay : ByteArray := prog_10_method_13_code
def yX8_passDay : MethodName := ⟨RX8, "passDay", "(Z)V"⟩
abbrev cX8_learnAllTold : ByteArray := prog_10_method_14_code
def yX8_learnAllTold : MethodName := ⟨RX8, "learnAllTold", "()V"⟩
abbrev cX8_hearThroughWalls : ByteArray := prog_10_method_15_code
def yX8_hearThroughWalls : MethodName := ⟨RX8, "hearThroughWalls", "()V"⟩
abbrev cX8_drawNearer : ByteArray := prog_10_method_16_code
def yX8_drawNearer : MethodName := ⟨RX8, "drawNearer", "(II)V"⟩
abbrev cX8_minutesApart : ByteArray := prog_10_method_17_code
def yX8_minutesApart : MethodName := ⟨RX8, "minutesApart", "(II)I"⟩
abbrev cX8_middle : ByteArray := prog_10_method_18_code
def yX8_middle : MethodName := ⟨RX8, "middle", "()I"⟩
abbrev cX8_rightOnes : ByteArray := prog_10_method_19_code
def yX8_rightOnes : MethodName := ⟨RX8, "rightOnes", "()I"⟩
abbrev cX8_wrongTogether : ByteArray := prog_10_method_20_code
def yX8_wrongTogether : MethodName := ⟨RX8, "wrongTogether", "()I"⟩
abbrev cX8_isWithin : ByteArray := prog_10_method_21_code
def yX8_isWithin : MethodName := ⟨RX8, "isWithin", "(I)Z"⟩
abbrev cX8_isDull : ByteArray := prog_10_method_22_code
def yX8_isDull : MethodName := ⟨RX8, "isDull", "(I)Z"⟩
def RX9 : String := "TaughtClocks$Text"
def TX9 : u_T := fun k => match k with
  | 0 => ("TaughtClocks$Text", "letters", "[I", true)
  | _ => ("TaughtClocks$Text", "length", "I", false)
def tyX9 : Nat → FieldType := fun k => match k with
  | 0 => .array .int
  | _ => .int
abbrev wsX90 : List Cond := u_ws RX9 TX9 2
theorem nmX9 : ∀ a, a < 2 → ∀ b, b < 2 → a ≠ b → (TX9 a).2.1 ≠ (TX9 b).2.1 := by decide +kernel
theorem tyX9_ok : ∀ k, k < 2 → parseFieldDescriptor (TX9 k).2.2.1 = some (tyX9 k) := by decide +kernel
abbrev cX9_init : ByteArray := prog_11_method_1_code
def yX9_init : MethodName := ⟨RX9, "<init>", "()V"⟩
abbrev cX9_append : ByteArray := prog_11_method_2_code
def yX9_append : MethodName := ⟨RX9, "append", "(I)V"⟩
abbrev cX9_letterAt : ByteArray := prog_11_method_3_code
def yX9_letterAt : MethodName := ⟨RX9, "letterAt", "(I)I"⟩
def RX10 : String := "TaughtClocks"
def TX10 : u_T := fun k => match k with
  | 0 => ("TaughtClocks", "text", "LTaughtClocks$Text;", true)
  | 1 => ("TaughtClocks", "draft", "LTaughtClocks$House;", true)
  | 2 => ("TaughtClocks", "house", "LTaughtClocks$House;", true)
  | 3 => ("TaughtClocks", "now", "LTaughtClocks$Standing;", true)
  | 4 => ("TaughtClocks", "trial", "LTaughtClocks$Standing;", true)
  | 5 => ("TaughtClocks", "undoable", "LTaughtClocks$Shelf;", true)
  | 6 => ("TaughtClocks", "kept", "LTaughtClocks$Shelf;", true)
  | 7 => ("TaughtClocks", "rumours", "LTaughtClocks$Rumours;", true)
  | 8 => ("TaughtClocks", "cure", "LTaughtClocks$Cure;", true)
  | 9 => ("TaughtClocks", "bestRing", "LTaughtClocks$BestRing;", true)
  | _ => ("TaughtClocks", "bestTwos", "LTaughtClocks$BestTwos;", true)
def tyX10 : Nat → FieldType := fun k => match k with
  | 0 => .object "TaughtClocks$Text"
  | 1 => .object "TaughtClocks$House"
  | 2 => .object "TaughtClocks$House"
  | 3 => .object "TaughtClocks$Standing"
  | 4 => .object "TaughtClocks$Standing"
  | 5 => .object "TaughtClocks$Shelf"
  | 6 => .object "TaughtClocks$Shelf"
  | 7 => .object "TaughtClocks$Rumours"
  | 8 => .object "TaughtClocks$Cure"
  | 9 => .object "TaughtClocks$BestRing"
  | _ => .object "TaughtClocks$BestTwos"
abbrev wsX100 : List Cond := u_ws RX10 TX10 11
theorem nmX10 : ∀ a, a < 11 → ∀ b, b < 11 → a ≠ b → (TX10 a).2.1 ≠ (TX10 b).2.1 := by decide +kernel
theorem tyX10_ok : ∀ k, k < 11 → parseFieldDescriptor (TX10 k).2.2.1 = some (tyX10 k) := by decide +kernel
abbrev cX10_init : ByteArray := prog_1_method_1_code
def yX10_init : MethodName := ⟨RX10, "<init>", "()V"⟩
abbrev cX10_write : ByteArray := prog_1_method_2_code
def yX10_write : MethodName := ⟨RX10, "write", "(I)I"⟩
abbrev cX10_wipe : ByteArray := prog_1_method_3_code
def yX10_wipe : MethodName := ⟨RX10, "wipe", "()I"⟩
abbrev cX10_fault : ByteArray := prog_1_method_4_code
def yX10_fault : MethodName := ⟨RX10, "fault", "()I"⟩
abbrev cX10_lay : ByteArray := prog_1_method_5_code
def yX10_lay : MethodName := ⟨RX10, "lay", "()I"⟩
abbrev cX10_clock : ByteArray := prog_1_method_6_code
def yX10_clock : MethodName := ⟨RX10, "clock", "(II)I"⟩
abbrev cX10_wall : ByteArray := prog_1_method_7_code
def yX10_wall : MethodName := ⟨RX10, "wall", "(II)I"⟩
abbrev cX10_noon : ByteArray := prog_1_method_8_code
def yX10_noon : MethodName := ⟨RX10, "noon", "()I"⟩
abbrev cX10_pass : ByteArray := prog_1_method_9_code
def yX10_pass : MethodName := ⟨RX10, "pass", "(I)I"⟩
abbrev cX10_teach : ByteArray := prog_1_method_10_code
def yX10_teach : MethodName := ⟨RX10, "teach", "(II)I"⟩
abbrev cX10_set : ByteArray := prog_1_method_11_code
def yX10_set : MethodName := ⟨RX10, "set", "(I)I"⟩
abbrev cX10_oil : ByteArray := prog_1_method_12_code
def yX10_oil : MethodName := ⟨RX10, "oil", "(I)I"⟩
abbrev cX10_undo : ByteArray := prog_1_method_13_code
def yX10_undo : MethodName := ⟨RX10, "undo", "()I"⟩
abbrev cX10_behind : ByteArray := prog_1_method_14_code
def yX10_behind : MethodName := ⟨RX10, "behind", "(II)I"⟩
abbrev cX10_right : ByteArray := prog_1_method_15_code
def yX10_right : MethodName := ⟨RX10, "right", "(II)I"⟩
abbrev cX10_ring : ByteArray := prog_1_method_16_code
def yX10_ring : MethodName := ⟨RX10, "ring", "(I)I"⟩
abbrev cX10_dull : ByteArray := prog_1_method_17_code
def yX10_dull : MethodName := ⟨RX10, "dull", "()I"⟩
abbrev cX10_pairs : ByteArray := prog_1_method_18_code
def yX10_pairs : MethodName := ⟨RX10, "pairs", "(I)I"⟩
abbrev cX10_oils : ByteArray := prog_1_method_19_code
def yX10_oils : MethodName := ⟨RX10, "oils", "(III)I"⟩
abbrev cX10_hear : ByteArray := prog_1_method_20_code
def yX10_hear : MethodName := ⟨RX10, "hear", "(II)I"⟩
abbrev cX10_forget : ByteArray := prog_1_method_21_code
def yX10_forget : MethodName := ⟨RX10, "forget", "()I"⟩
abbrev cX10_taught : ByteArray := prog_1_method_22_code
def yX10_taught : MethodName := ⟨RX10, "taught", "(I)I"⟩
abbrev cX10_setter : ByteArray := prog_1_method_23_code
def yX10_setter : MethodName := ⟨RX10, "setter", "(I)I"⟩
abbrev cX10_child : ByteArray := prog_1_method_24_code
def yX10_child : MethodName := ⟨RX10, "child", "(I)I"⟩
abbrev cX10_draughts : ByteArray := prog_1_method_25_code
def yX10_draughts : MethodName := ⟨RX10, "draughts", "(IIII)I"⟩
abbrev cX10_year : ByteArray := prog_1_method_26_code
def yX10_year : MethodName := ⟨RX10, "year", "(III)I"⟩
abbrev cX10_keep : ByteArray := prog_1_method_27_code
def yX10_keep : MethodName := ⟨RX10, "keep", "()I"⟩
abbrev cX10_back : ByteArray := prog_1_method_28_code
def yX10_back : MethodName := ⟨RX10, "back", "()I"⟩
abbrev cX10_count : ByteArray := prog_1_method_29_code
def yX10_count : MethodName := ⟨RX10, "count", "(I)I"⟩
abbrev cX10_isHeardWhenTaught : ByteArray := prog_1_method_30_code
def yX10_isHeardWhenTaught : MethodName := ⟨RX10, "isHeardWhenTaught", "(II)Z"⟩
abbrev cX10_partInLowestTerms : ByteArray := prog_1_method_31_code
def yX10_partInLowestTerms : MethodName := ⟨RX10, "partInLowestTerms", "(III)I"⟩
abbrev cX10_draw : ByteArray := prog_1_method_32_code
def yX10_draw : MethodName := ⟨RX10, "draw", "(II)I"⟩
abbrev cX10_lessonNumber : ByteArray := prog_1_method_33_code
def yX10_lessonNumber : MethodName := ⟨RX10, "lessonNumber", "(II)I"⟩
abbrev cX10_at : ByteArray := prog_1_method_34_code
def yX10_at : MethodName := ⟨RX10, "at", "([II)I"⟩
abbrev cX10_put : ByteArray := prog_1_method_35_code
def yX10_put : MethodName := ⟨RX10, "put", "([III)V"⟩
def RX11 : String := "TaughtClocksModel"
def TX11 : u_T := fun k => match k with
  | 0 => ("TaughtClocksModel", "letters", "I", false)
  | 1 => ("TaughtClocksModel", "text", "[I", true)
  | 2 => ("TaughtClocksModel", "position", "I", false)
  | 3 => ("TaughtClocksModel", "numbers", "[I", true)
  | 4 => ("TaughtClocksModel", "faultAt", "I", false)
  | 5 => ("TaughtClocksModel", "readClocks", "I", false)
  | 6 => ("TaughtClocksModel", "readLessons", "I", false)
  | 7 => ("TaughtClocksModel", "readClock", "[I", true)
  | 8 => ("TaughtClocksModel", "readWall", "[I", true)
  | 9 => ("TaughtClocksModel", "readLesson", "[I", true)
  | 10 => ("TaughtClocksModel", "clocks", "I", false)
  | 11 => ("TaughtClocksModel", "kind", "[I", true)
  | 12 => ("TaughtClocksModel", "walls", "[I", true)
  | 13 => ("TaughtClocksModel", "lessons", "I", false)
  | 14 => ("TaughtClocksModel", "lesson", "[I", true)
  | 15 => ("TaughtClocksModel", "now", "[I", true)
  | 16 => ("TaughtClocksModel", "tried", "[I", true)
  | 17 => ("TaughtClocksModel", "second", "[I", true)
  | 18 => ("TaughtClocksModel", "backOf", "[I", true)
  | 19 => ("TaughtClocksModel", "backs", "I", false)
  | 20 => ("TaughtClocksModel", "image", "[I", true)
  | 21 => ("TaughtClocksModel", "keptMany", "I", false)
  | 22 => ("TaughtClocksModel", "sights", "I", false)
  | 23 => ("TaughtClocksModel", "sight", "[I", true)
  | 24 => ("TaughtClocksModel", "found", "[I", true)
  | 25 => ("TaughtClocksModel", "foundMany", "I", false)
  | 26 => ("TaughtClocksModel", "order", "[I", true)
  | 27 => ("TaughtClocksModel", "bestOrder", "[I", true)
  | 28 => ("TaughtClocksModel", "mate", "[I", true)
  | 29 => ("TaughtClocksModel", "bestMate", "[I", true)
  | _ => ("TaughtClocksModel", "sorted", "[I", true)
def tyX11 : Nat → FieldType := fun k => match k with
  | 0 => .int
  | 1 => .array .int
  | 2 => .int
  | 3 => .array .int
  | 4 => .int
  | 5 => .int
  | 6 => .int
  | 7 => .array .int
  | 8 => .array .int
  | 9 => .array .int
  | 10 => .int
  | 11 => .array .int
  | 12 => .array .int
  | 13 => .int
  | 14 => .array .int
  | 15 => .array .int
  | 16 => .array .int
  | 17 => .array .int
  | 18 => .array .int
  | 19 => .int
  | 20 => .array .int
  | 21 => .int
  | 22 => .int
  | 23 => .array .int
  | 24 => .array .int
  | 25 => .int
  | 26 => .array .int
  | 27 => .array .int
  | 28 => .array .int
  | 29 => .array .int
  | _ => .array .int
abbrev wsX110 : List Cond := u_ws RX11 TX11 31
theorem nmX11 : ∀ a, a < 31 → ∀ b, b < 31 → a ≠ b → (TX11 a).2.1 ≠ (TX11 b).2.1 := by decide +kernel
theorem tyX11_ok : ∀ k, k < 31 → parseFieldDescriptor (TX11 k).2.2.1 = some (tyX11 k) := by decide +kernel
abbrev cX11_init : ByteArray := prog_13_method_1_code
def yX11_init : MethodName := ⟨RX11, "<init>", "()V"⟩
abbrev cX11_layClock : ByteArray := prog_13_method_2_code
def yX11_layClock : MethodName := ⟨RX11, "layClock", "(IIII)V"⟩
abbrev cX11_layWall : ByteArray := prog_13_method_3_code
def yX11_layWall : MethodName := ⟨RX11, "layWall", "(II)V"⟩
abbrev cX11_layLesson : ByteArray := prog_13_method_4_code
def yX11_layLesson : MethodName := ⟨RX11, "layLesson", "(IIII)V"⟩
abbrev cX11_in : ByteArray := prog_13_method_5_code
def yX11_in : MethodName := ⟨RX11, "in", "(III)Z"⟩
abbrev cX11_has : ByteArray := prog_13_method_6_code
def yX11_has : MethodName := ⟨RX11, "has", "(II)Z"⟩
abbrev cX11_far : ByteArray := prog_13_method_7_code
def yX11_far : MethodName := ⟨RX11, "far", "(I)I"⟩
abbrev cX11_isClock : ByteArray := prog_13_method_8_code
def yX11_isClock : MethodName := ⟨RX11, "isClock", "(I)Z"⟩
abbrev cX11_write : ByteArray := prog_13_method_9_code
def yX11_write : MethodName := ⟨RX11, "write", "(I)I"⟩
abbrev cX11_wipe : ByteArray := prog_13_method_10_code
def yX11_wipe : MethodName := ⟨RX11, "wipe", "()I"⟩
abbrev cX11_letterAt : ByteArray := prog_13_method_11_code
def yX11_letterAt : MethodName := ⟨RX11, "letterAt", "(I)I"⟩
abbrev cX11_isRow : ByteArray := prog_13_method_12_code
def yX11_isRow : MethodName := ⟨RX11, "isRow", "(I)Z"⟩
abbrev cX11_isItem : ByteArray := prog_13_method_13_code
def yX11_isItem : MethodName := ⟨RX11, "isItem", "()Z"⟩
abbrev cX11_isRead : ByteArray := prog_13_method_14_code
def yX11_isRead : MethodName := ⟨RX11, "isRead", "()Z"⟩
abbrev cX11_fault : ByteArray := prog_13_method_15_code
def yX11_fault : MethodName := ⟨RX11, "fault", "()I"⟩
abbrev cX11_layRead : ByteArray := prog_13_method_16_code
def yX11_layRead : MethodName := ⟨RX11, "layRead", "()V"⟩
abbrev cX11_lay : ByteArray := prog_13_method_17_code
def yX11_lay : MethodName := ⟨RX11, "lay", "()I"⟩
abbrev cX11_bits : ByteArray := prog_13_method_18_code
def yX11_bits : MethodName := ⟨RX11, "bits", "(I)I"⟩
abbrev cX11_clock : ByteArray := prog_13_method_19_code
def yX11_clock : MethodName := ⟨RX11, "clock", "(II)I"⟩
abbrev cX11_wall : ByteArray := prog_13_method_20_code
def yX11_wall : MethodName := ⟨RX11, "wall", "(II)I"⟩
abbrev cX11_noonOf : ByteArray := prog_13_method_21_code
def yX11_noonOf : MethodName := ⟨RX11, "noonOf", "([I)I"⟩
abbrev cX11_noon : ByteArray := prog_13_method_22_code
def yX11_noon : MethodName := ⟨RX11, "noon", "()I"⟩
abbrev cX11_bound : ByteArray := prog_13_method_23_code
def yX11_bound : MethodName := ⟨RX11, "bound", "(I)I"⟩
abbrev cX11_isTaught : ByteArray := prog_13_method_24_code
def yX11_isTaught : MethodName := ⟨RX11, "isTaught", "([II)Z"⟩
abbrev cX11_teachOn : ByteArray := prog_13_method_25_code
def yX11_teachOn : MethodName := ⟨RX11, "teachOn", "([III)V"⟩
abbrev cX11_hearOn : ByteArray := prog_13_method_26_code
def yX11_hearOn : MethodName := ⟨RX11, "hearOn", "([III)V"⟩
abbrev cX11_passOn : ByteArray := prog_13_method_27_code
def yX11_passOn : MethodName := ⟨RX11, "passOn", "([IZ)V"⟩
abbrev cX11_copy : ByteArray := prog_13_method_28_code
def yX11_copy : MethodName := ⟨RX11, "copy", "([II[II)V"⟩
abbrev cX11_note : ByteArray := prog_13_method_29_code
def yX11_note : MethodName := ⟨RX11, "note", "()V"⟩
abbrev cX11_pass : ByteArray := prog_13_method_30_code
def yX11_pass : MethodName := ⟨RX11, "pass", "(I)I"⟩
abbrev cX11_teach : ByteArray := prog_13_method_31_code
def yX11_teach : MethodName := ⟨RX11, "teach", "(II)I"⟩
abbrev cX11_set : ByteArray := prog_13_method_32_code
def yX11_set : MethodName := ⟨RX11, "set", "(I)I"⟩
abbrev cX11_oil : ByteArray := prog_13_method_33_code
def yX11_oil : MethodName := ⟨RX11, "oil", "(I)I"⟩
abbrev cX11_undo : ByteArray := prog_13_method_34_code
def yX11_undo : MethodName := ⟨RX11, "undo", "()I"⟩
abbrev cX11_behind : ByteArray := prog_13_method_35_code
def yX11_behind : MethodName := ⟨RX11, "behind", "(II)I"⟩
abbrev cX11_areRight : ByteArray := prog_13_method_36_code
def yX11_areRight : MethodName := ⟨RX11, "areRight", "([II)Z"⟩
abbrev cX11_teaches : ByteArray := prog_13_method_37_code
def yX11_teaches : MethodName := ⟨RX11, "teaches", "([II)Z"⟩
abbrev cX11_layRight : ByteArray := prog_13_method_38_code
def yX11_layRight : MethodName := ⟨RX11, "layRight", "(I)V"⟩
abbrev cX11_right : ByteArray := prog_13_method_39_code
def yX11_right : MethodName := ⟨RX11, "right", "(II)I"⟩
abbrev cX11_layOrder : ByteArray := prog_13_method_40_code
def yX11_layOrder : MethodName := ⟨RX11, "layOrder", "(I)V"⟩
abbrev cX11_allWrong : ByteArray := prog_13_method_41_code
def yX11_allWrong : MethodName := ⟨RX11, "allWrong", "([I)I"⟩
abbrev cX11_ring : ByteArray := prog_13_method_42_code
def yX11_ring : MethodName := ⟨RX11, "ring", "(I)I"⟩
abbrev cX11_dull : ByteArray := prog_13_method_43_code
def yX11_dull : MethodName := ⟨RX11, "dull", "()I"⟩
abbrev cX11_layPairs : ByteArray := prog_13_method_44_code
def yX11_layPairs : MethodName := ⟨RX11, "layPairs", "()I"⟩
abbrev cX11_pairs : ByteArray := prog_13_method_45_code
def yX11_pairs : MethodName := ⟨RX11, "pairs", "(I)I"⟩
abbrev cX11_oils : ByteArray := prog_13_method_46_code
def yX11_oils : MethodName := ⟨RX11, "oils", "(III)I"⟩
abbrev cX11_hear : ByteArray := prog_13_method_47_code
def yX11_hear : MethodName := ⟨RX11, "hear", "(II)I"⟩
abbrev cX11_forget : ByteArray := prog_13_method_48_code
def yX11_forget : MethodName := ⟨RX11, "forget", "()I"⟩
abbrev cX11_isSo : ByteArray := prog_13_method_49_code
def yX11_isSo : MethodName := ⟨RX11, "isSo", "([I)Z"⟩
abbrev cX11_taught : ByteArray := prog_13_method_50_code
def yX11_taught : MethodName := ⟨RX11, "taught", "(I)I"⟩
abbrev cX11_setter : ByteArray := prog_13_method_51_code
def yX11_setter : MethodName := ⟨RX11, "setter", "(I)I"⟩
abbrev cX11_child : ByteArray := prog_13_method_52_code
def yX11_child : MethodName := ⟨RX11, "child", "(I)I"⟩
abbrev cX11_draughts : ByteArray := prog_13_method_53_code
def yX11_draughts : MethodName := ⟨RX11, "draughts", "(IIII)I"⟩
abbrev cX11_rightOf : ByteArray := prog_13_method_54_code
def yX11_rightOf : MethodName := ⟨RX11, "rightOf", "([I)I"⟩
abbrev cX11_year : ByteArray := prog_13_method_55_code
def yX11_year : MethodName := ⟨RX11, "year", "(III)I"⟩
abbrev cX11_keep : ByteArray := prog_13_method_56_code
def yX11_keep : MethodName := ⟨RX11, "keep", "()I"⟩
abbrev cX11_back : ByteArray := prog_13_method_57_code
def yX11_back : MethodName := ⟨RX11, "back", "()I"⟩
abbrev cX11_count : ByteArray := prog_13_method_58_code
def yX11_count : MethodName := ⟨RX11, "count", "(I)I"⟩
def RJ6 : String := "java/lang/Integer"
def TJ6 : u_T := fun k => match k with
  | _ => ("", "", "", false)
def tyJ6 : Nat → FieldType := fun k => match k with
  | _ => .int
abbrev wsJ60 : List Cond := u_ws RJ6 TJ6 0
theorem nmJ6 : ∀ a, a < 0 → ∀ b, b < 0 → a ≠ b → (TJ6 a).2.1 ≠ (TJ6 b).2.1 := by decide +kernel
theorem tyJ6_ok : ∀ k, k < 0 → parseFieldDescriptor (TJ6 k).2.2.1 = some (tyJ6 k) := by decide +kernel
abbrev cJ6_bitCount_0f7a4 : ByteArray := prog_14_method_49_code
def yJ6_bitCount_0f7a4 : MethodName := ⟨RJ6, "bitCount", "(I)I"⟩
def RJ9 : String := "java/lang/Math"
def TJ9 : u_T := fun k => match k with
  | _ => ("", "", "", false)
def tyJ9 : Nat → FieldType := fun k => match k with
  | _ => .int
abbrev wsJ90 : List Cond := u_ws RJ9 TJ9 0
theorem nmJ9 : ∀ a, a < 0 → ∀ b, b < 0 → a ≠ b → (TJ9 a).2.1 ≠ (TJ9 b).2.1 := by decide +kernel
theorem tyJ9_ok : ∀ k, k < 0 → parseFieldDescriptor (TJ9 k).2.2.1 = some (tyJ9 k) := by decide +kernel
abbrev cJ9_abs_0f7a4 : ByteArray := prog_15_method_59_code
def yJ9_abs_0f7a4 : MethodName := ⟨RJ9, "abs", "(I)I"⟩
abbrev cJ9_max_7cf53 : ByteArray := prog_15_method_65_code
def yJ9_max_7cf53 : MethodName := ⟨RJ9, "max", "(II)I"⟩
abbrev cJ9_min_7cf53 : ByteArray := prog_15_method_69_code
def yJ9_min_7cf53 : MethodName := ⟨RJ9, "min", "(II)I"⟩
def RJ0 : String := "java/lang/String"
def TJ0 : u_T := fun k => match k with
  | _ => ("", "", "", false)
def tyJ0 : Nat → FieldType := fun k => match k with
  | _ => .int
abbrev wsJ00 : List Cond := u_ws RJ0 TJ0 0
theorem nmJ0 : ∀ a, a < 0 → ∀ b, b < 0 → a ≠ b → (TJ0 a).2.1 ≠ (TJ0 b).2.1 := by decide +kernel
theorem tyJ0_ok : ∀ k, k < 0 → parseFieldDescriptor (TJ0 k).2.2.1 = some (tyJ0 k) := by decide +kernel
abbrev cJ0_length_8abf5 : ByteArray := prog_16_method_54_code
def yJ0_length_8abf5 : MethodName := ⟨RJ0, "length", "()I"⟩
abbrev cJ0_charAt_5068e : ByteArray := prog_16_method_56_code
def yJ0_charAt_5068e : MethodName := ⟨RJ0, "charAt", "(I)C"⟩
abbrev cJ0_coder_7d493 : ByteArray := prog_16_method_152_code
def yJ0_coder_7d493 : MethodName := ⟨RJ0, "coder", "()B"⟩
abbrev cJ0_isLatin1_aae02 : ByteArray := prog_16_method_154_code
def yJ0_isLatin1_aae02 : MethodName := ⟨RJ0, "isLatin1", "()Z"⟩
abbrev cJ0_checkIndex_df160 : ByteArray := prog_16_method_155_code
def yJ0_checkIndex_df160 : MethodName := ⟨RJ0, "checkIndex", "(II)V"⟩
def RJ1 : String := "java/lang/StringLatin1"
def TJ1 : u_T := fun k => match k with
  | _ => ("", "", "", false)
def tyJ1 : Nat → FieldType := fun k => match k with
  | _ => .int
abbrev wsJ10 : List Cond := u_ws RJ1 TJ1 0
theorem nmJ1 : ∀ a, a < 0 → ∀ b, b < 0 → a ≠ b → (TJ1 a).2.1 ≠ (TJ1 b).2.1 := by decide +kernel
theorem tyJ1_ok : ∀ k, k < 0 → parseFieldDescriptor (TJ1 k).2.2.1 = some (tyJ1 k) := by decide +kernel
abbrev cJ1_charAt_3b067 : ByteArray := prog_17_method_2_code
def yJ1_charAt_3b067 : MethodName := ⟨RJ1, "charAt", "([BI)C"⟩
def RJ2 : String := "java/lang/StringUTF16"
def TJ2 : u_T := fun k => match k with
  | _ => ("", "", "", false)
def tyJ2 : Nat → FieldType := fun k => match k with
  | _ => .int
abbrev wsJ20 : List Cond := u_ws RJ2 TJ2 0
theorem nmJ2 : ∀ a, a < 0 → ∀ b, b < 0 → a ≠ b → (TJ2 a).2.1 ≠ (TJ2 b).2.1 := by decide +kernel
theorem tyJ2_ok : ∀ k, k < 0 → parseFieldDescriptor (TJ2 k).2.2.1 = some (tyJ2 k) := by decide +kernel
abbrev cJ2_getChar_3b067 : ByteArray := prog_18_method_5_code
def yJ2_getChar_3b067 : MethodName := ⟨RJ2, "getChar", "([BI)C"⟩
abbrev cJ2_length_9d52b : ByteArray := prog_18_method_6_code
def yJ2_length_9d52b : MethodName := ⟨RJ2, "length", "([B)I"⟩
abbrev cJ2_charAt_3b067 : ByteArray := prog_18_method_83_code
def yJ2_charAt_3b067 : MethodName := ⟨RJ2, "charAt", "([BI)C"⟩
abbrev cJ2_checkIndex_2214a : ByteArray := prog_18_method_91_code
def yJ2_checkIndex_2214a : MethodName := ⟨RJ2, "checkIndex", "(I[B)V"⟩
def RJ3 : String := "jdk/internal/util/Preconditions"
def TJ3 : u_T := fun k => match k with
  | _ => ("", "", "", false)
def tyJ3 : Nat → FieldType := fun k => match k with
  | _ => .int
abbrev wsJ30 : List Cond := u_ws RJ3 TJ3 0
theorem nmJ3 : ∀ a, a < 0 → ∀ b, b < 0 → a ≠ b → (TJ3 a).2.1 ≠ (TJ3 b).2.1 := by decide +kernel
theorem tyJ3_ok : ∀ k, k < 0 → parseFieldDescriptor (TJ3 k).2.2.1 = some (tyJ3 k) := by decide +kernel
abbrev cJ3_checkIndex_8e157 : ByteArray := prog_19_method_11_code
def yJ3_checkIndex_8e157 : MethodName := ⟨RJ3, "checkIndex", "(IILjava/util/function/BiFunction;)I"⟩
theorem uwX0 : ∀ w ∈ u_ws RX0 TX0 3, w ∈ lw_tbl := by decide +kernel
theorem uwX1 : ∀ w ∈ u_ws RX1 TX1 3, w ∈ lw_tbl := by decide +kernel
theorem uwX2 : ∀ w ∈ u_ws RX2 TX2 3, w ∈ lw_tbl := by decide +kernel
theorem uwX3 : ∀ w ∈ u_ws RX3 TX3 3, w ∈ lw_tbl := by decide +kernel
theorem uwX4 : ∀ w ∈ u_ws RX4 TX4 12, w ∈ lw_tbl := by decide +kernel
theorem uwX5 : ∀ w ∈ u_ws RX5 TX5 2, w ∈ lw_tbl := by decide +kernel
theorem uwX6 : ∀ w ∈ u_ws RX6 TX6 3, w ∈ lw_tbl := by decide +kernel
theorem uwX7 : ∀ w ∈ u_ws RX7 TX7 2, w ∈ lw_tbl := by decide +kernel
theorem uwX8 : ∀ w ∈ u_ws RX8 TX8 4, w ∈ lw_tbl := by decide +kernel
theorem uwX9 : ∀ w ∈ u_ws RX9 TX9 2, w ∈ lw_tbl := by decide +kernel
theorem uwX10 : ∀ w ∈ u_ws RX10 TX10 11, w ∈ lw_tbl := by decide +kernel
theorem uwX11 : ∀ w ∈ u_ws RX11 TX11 31, w ∈ lw_tbl := by decide +kernel
def nFl : List (String × Nat × String × String × String × String) := [(RX10, 101, RX9, "length", "I", RX10), (RX4, 49, RX9, "length", "I", RX10), (RX8, 65, RX4, "kinds", "[I", RX10), (RX8, 26, RX4, "firstWrong", "[I", RX10), (RX8, 39, RX4, "firstGain", "[I", RX10), (RX8, 91, RX4, "lessonDays", "[I", RX10), (RX8, 94, RX4, "teachers", "[I", RX10), (RX8, 97, RX4, "pupils", "[I", RX10), (RX0, 35, RX4, "clocks", "I", RX10), (RX1, 35, RX4, "clocks", "I", RX10), (RX3, 39, RX4, "clocks", "I", RX10), (RX10, 104, RX4, "clocks", "I", RX10), (RX8, 51, RX4, "clocks", "I", RX10), (RX10, 244, RX4, "walls", "I", RX10), (RX8, 88, RX4, "lessons", "I", RX10), (RX10, 247, RX4, "lessons", "I", RX10), (RX0, 29, RX8, "house", "LTaughtClocks$House;", RX10), (RX1, 29, RX8, "house", "LTaughtClocks$House;", RX10), (RX3, 35, RX8, "house", "LTaughtClocks$House;", RX10), (RX10, 147, RX8, "day", "I", RX10), (RX10, 110, RX7, "held", "I", RX10), (RX10, 107, RX6, "heard", "I", RX10), (RX10, 173, RX3, "lessons", "I", RX10), (RX10, 176, RX3, "first", "I", RX10), (RX10, 179, RX3, "second", "I", RX10), (RX0, 88, RX5, "row", "[I", RX10), (RX1, 76, RX5, "row", "[I", RX10), (RX10, 189, RX5, "sum", "I", RX10), (RX10, 185, RX0, "best", "LTaughtClocks$Least;", RX10), (RX10, 202, RX1, "best", "LTaughtClocks$Least;", RX10)]
def nMl : List (String × Nat × MethodName × String) := [(RX10, 9, yX9_init, RX10), (RX10, 18, yX4_init, RX10), (RX10, 52, yX6_init, RX10), (RX10, 59, yX3_init, RX10), (RX10, 66, yX0_init, RX10), (RX0, 11, yX2_init, RX10), (RX0, 24, yX5_init, RX10), (RX10, 73, yX1_init, RX10), (RX1, 11, yX2_init, RX10), (RX1, 24, yX5_init, RX10), (RX9, 19, yX10_put, RX10), (RX9, 23, yX10_at, RX10), (RX4, 66, yX10_put, RX10), (RX4, 70, yX10_at, RX10), (RX8, 31, yX10_at, RX10), (RX8, 35, yX10_put, RX10), (RX3, 55, yX10_lessonNumber, RX10), (RX2, 22, yX10_put, RX10), (RX0, 76, yX10_put, RX10), (RX2, 26, yX10_at, RX10), (RX0, 56, yX10_at, RX10), (RX5, 19, yX10_at, RX10), (RX5, 23, yX10_put, RX10), (RX1, 69, yX10_put, RX10), (RX1, 79, yX10_at, RX10), (RX6, 22, yX10_put, RX10), (RX6, 26, yX10_at, RX10)]
theorem kl_X10_101 : (RX10, 101, RX9, "length", "I", RX10) ∈ nFl := List.mem_of_getElem? (i := 0) rfl
theorem kl_X4_49 : (RX4, 49, RX9, "length", "I", RX10) ∈ nFl := List.mem_of_getElem? (i := 1) rfl
theorem kl_X8_65 : (RX8, 65, RX4, "kinds", "[I", RX10) ∈ nFl := List.mem_of_getElem? (i := 2) rfl
theorem kl_X8_26 : (RX8, 26, RX4, "firstWrong", "[I", RX10) ∈ nFl := List.mem_of_getElem? (i := 3) rfl
theorem kl_X8_39 : (RX8, 39, RX4, "firstGain", "[I", RX10) ∈ nFl := List.mem_of_getElem? (i := 4) rfl
theorem kl_X8_91 : (RX8, 91, RX4, "lessonDays", "[I", RX10) ∈ nFl := List.mem_of_getElem? (i := 5) rfl
theorem kl_X8_94 : (RX8, 94, RX4, "teachers", "[I", RX10) ∈ nFl := List.mem_of_getElem? (i := 6) rfl
theorem kl_X8_97 : (RX8, 97, RX4, "pupils", "[I", RX10) ∈ nFl := List.mem_of_getElem? (i := 7) rfl
theorem kl_X0_35 : (RX0, 35, RX4, "clocks", "I", RX10) ∈ nFl := List.mem_of_getElem? (i := 8) rfl
theorem kl_X1_35 : (RX1, 35, RX4, "clocks", "I", RX10) ∈ nFl := List.mem_of_getElem? (i := 9) rfl
theorem kl_X3_39 : (RX3, 39, RX4, "clocks", "I", RX10) ∈ nFl := List.mem_of_getElem? (i := 10) rfl
theorem kl_X10_104 : (RX10, 104, RX4, "clocks", "I", RX10) ∈ nFl := List.mem_of_getElem? (i := 11) rfl
theorem kl_X8_51 : (RX8, 51, RX4, "clocks", "I", RX10) ∈ nFl := List.mem_of_getElem? (i := 12) rfl
theorem kl_X10_244 : (RX10, 244, RX4, "walls", "I", RX10) ∈ nFl := List.mem_of_getElem? (i := 13) rfl
theorem kl_X8_88 : (RX8, 88, RX4, "lessons", "I", RX10) ∈ nFl := List.mem_of_getElem? (i := 14) rfl
theorem kl_X10_247 : (RX10, 247, RX4, "lessons", "I", RX10) ∈ nFl := List.mem_of_getElem? (i := 15) rfl
theorem kl_X0_29 : (RX0, 29, RX8, "house", "LTaughtClocks$House;", RX10) ∈ nFl := List.mem_of_getElem? (i := 16) rfl
theorem kl_X1_29 : (RX1, 29, RX8, "house", "LTaughtClocks$House;", RX10) ∈ nFl := List.mem_of_getElem? (i := 17) rfl
theorem kl_X3_35 : (RX3, 35, RX8, "house", "LTaughtClocks$House;", RX10) ∈ nFl := List.mem_of_getElem? (i := 18) rfl
theorem kl_X10_147 : (RX10, 147, RX8, "day", "I", RX10) ∈ nFl := List.mem_of_getElem? (i := 19) rfl
theorem kl_X10_110 : (RX10, 110, RX7, "held", "I", RX10) ∈ nFl := List.mem_of_getElem? (i := 20) rfl
theorem kl_X10_107 : (RX10, 107, RX6, "heard", "I", RX10) ∈ nFl := List.mem_of_getElem? (i := 21) rfl
theorem kl_X10_173 : (RX10, 173, RX3, "lessons", "I", RX10) ∈ nFl := List.mem_of_getElem? (i := 22) rfl
theorem kl_X10_176 : (RX10, 176, RX3, "first", "I", RX10) ∈ nFl := List.mem_of_getElem? (i := 23) rfl
theorem kl_X10_179 : (RX10, 179, RX3, "second", "I", RX10) ∈ nFl := List.mem_of_getElem? (i := 24) rfl
theorem kl_X0_88 : (RX0, 88, RX5, "row", "[I", RX10) ∈ nFl := List.mem_of_getElem? (i := 25) rfl
theorem kl_X1_76 : (RX1, 76, RX5, "row", "[I", RX10) ∈ nFl := List.mem_of_getElem? (i := 26) rfl
theorem kl_X10_189 : (RX10, 189, RX5, "sum", "I", RX10) ∈ nFl := List.mem_of_getElem? (i := 27) rfl
theorem kl_X10_185 : (RX10, 185, RX0, "best", "LTaughtClocks$Least;", RX10) ∈ nFl := List.mem_of_getElem? (i := 28) rfl
theorem kl_X10_202 : (RX10, 202, RX1, "best", "LTaughtClocks$Least;", RX10) ∈ nFl := List.mem_of_getElem? (i := 29) rfl
theorem kl_X10_9 : (RX10, 9, yX9_init, RX10) ∈ nMl := List.mem_of_getElem? (i := 0) rfl
theorem kl_X10_18 : (RX10, 18, yX4_init, RX10) ∈ nMl := List.mem_of_getElem? (i := 1) rfl
theorem kl_X10_52 : (RX10, 52, yX6_init, RX10) ∈ nMl := List.mem_of_getElem? (i := 2) rfl
theorem kl_X10_59 : (RX10, 59, yX3_init, RX10) ∈ nMl := List.mem_of_getElem? (i := 3) rfl
theorem kl_X10_66 : (RX10, 66, yX0_init, RX10) ∈ nMl := List.mem_of_getElem? (i := 4) rfl
theorem kl_X0_11 : (RX0, 11, yX2_init, RX10) ∈ nMl := List.mem_of_getElem? (i := 5) rfl
theorem kl_X0_24 : (RX0, 24, yX5_init, RX10) ∈ nMl := List.mem_of_getElem? (i := 6) rfl
theorem kl_X10_73 : (RX10, 73, yX1_init, RX10) ∈ nMl := List.mem_of_getElem? (i := 7) rfl
theorem kl_X1_11 : (RX1, 11, yX2_init, RX10) ∈ nMl := List.mem_of_getElem? (i := 8) rfl
theorem kl_X1_24 : (RX1, 24, yX5_init, RX10) ∈ nMl := List.mem_of_getElem? (i := 9) rfl
theorem kl_X9_19 : (RX9, 19, yX10_put, RX10) ∈ nMl := List.mem_of_getElem? (i := 10) rfl
theorem kl_X9_23 : (RX9, 23, yX10_at, RX10) ∈ nMl := List.mem_of_getElem? (i := 11) rfl
theorem kl_X4_66 : (RX4, 66, yX10_put, RX10) ∈ nMl := List.mem_of_getElem? (i := 12) rfl
theorem kl_X4_70 : (RX4, 70, yX10_at, RX10) ∈ nMl := List.mem_of_getElem? (i := 13) rfl
theorem kl_X8_31 : (RX8, 31, yX10_at, RX10) ∈ nMl := List.mem_of_getElem? (i := 14) rfl
theorem kl_X8_35 : (RX8, 35, yX10_put, RX10) ∈ nMl := List.mem_of_getElem? (i := 15) rfl
theorem kl_X3_55 : (RX3, 55, yX10_lessonNumber, RX10) ∈ nMl := List.mem_of_getElem? (i := 16) rfl
theorem kl_X2_22 : (RX2, 22, yX10_put, RX10) ∈ nMl := List.mem_of_getElem? (i := 17) rfl
theorem kl_X0_76 : (RX0, 76, yX10_put, RX10) ∈ nMl := List.mem_of_getElem? (i := 18) rfl
theorem kl_X2_26 : (RX2, 26, yX10_at, RX10) ∈ nMl := List.mem_of_getElem? (i := 19) rfl
theorem kl_X0_56 : (RX0, 56, yX10_at, RX10) ∈ nMl := List.mem_of_getElem? (i := 20) rfl
theorem kl_X5_19 : (RX5, 19, yX10_at, RX10) ∈ nMl := List.mem_of_getElem? (i := 21) rfl
theorem kl_X5_23 : (RX5, 23, yX10_put, RX10) ∈ nMl := List.mem_of_getElem? (i := 22) rfl
theorem kl_X1_69 : (RX1, 69, yX10_put, RX10) ∈ nMl := List.mem_of_getElem? (i := 23) rfl
theorem kl_X1_79 : (RX1, 79, yX10_at, RX10) ∈ nMl := List.mem_of_getElem? (i := 24) rfl
theorem kl_X6_22 : (RX6, 22, yX10_put, RX10) ∈ nMl := List.mem_of_getElem? (i := 25) rfl
theorem kl_X6_26 : (RX6, 26, yX10_at, RX10) ∈ nMl := List.mem_of_getElem? (i := 26) rfl
theorem nFl_ok : ∀ q ∈ nFl, Cond.fieldLinkNest q.1 q.2.1 q.2.2.1 q.2.2.2.1 q.2.2.2.2.1 q.2.2.2.2.2 ∈ lw_tbl := by decide +kernel
theorem nMl_ok : ∀ q ∈ nMl, Cond.methodLinkNest q.1 q.2.1 q.2.2.1 q.2.2.2 ∈ lw_tbl := by decide +kernel
theorem kn_X10 : Cond.initialized RX10 ∈ lw_tbl := List.mem_of_getElem? (i := 38) (by decide +kernel)
theorem kn_X9 : Cond.initialized RX9 ∈ lw_tbl := List.mem_of_getElem? (i := 39) (by decide +kernel)
theorem kn_X4 : Cond.initialized RX4 ∈ lw_tbl := List.mem_of_getElem? (i := 40) (by decide +kernel)
theorem kn_X8 : Cond.initialized RX8 ∈ lw_tbl := List.mem_of_getElem? (i := 41) (by decide +kernel)
theorem kn_X7 : Cond.initialized RX7 ∈ lw_tbl := List.mem_of_getElem? (i := 42) (by decide +kernel)
theorem kn_J9 : Cond.initialized RJ9 ∈ lw_tbl := List.mem_of_getElem? (i := 43) (by decide +kernel)
theorem kn_X6 : Cond.initialized RX6 ∈ lw_tbl := List.mem_of_getElem? (i := 44) (by decide +kernel)
theorem kn_X3 : Cond.initialized RX3 ∈ lw_tbl := List.mem_of_getElem? (i := 45) (by decide +kernel)
theorem kn_X0 : Cond.initialized RX0 ∈ lw_tbl := List.mem_of_getElem? (i := 46) (by decide +kernel)
theorem kn_X2 : Cond.initialized RX2 ∈ lw_tbl := List.mem_of_getElem? (i := 47) (by decide +kernel)
theorem kn_X5 : Cond.initialized RX5 ∈ lw_tbl := List.mem_of_getElem? (i := 48) (by decide +kernel)
theorem kn_X1 : Cond.initialized RX1 ∈ lw_tbl := List.mem_of_getElem? (i := 49) (by decide +kernel)
theorem kn_J0 : Cond.initialized RJ0 ∈ lw_tbl := List.mem_of_getElem? (i := 50) (by decide +kernel)
theorem kn_J1 : Cond.initialized RJ1 ∈ lw_tbl := List.mem_of_getElem? (i := 51) (by decide +kernel)
theorem kn_J3 : Cond.initialized RJ3 ∈ lw_tbl := List.mem_of_getElem? (i := 52) (by decide +kernel)
theorem kn_J2 : Cond.initialized RJ2 ∈ lw_tbl := List.mem_of_getElem? (i := 53) (by decide +kernel)
theorem kn_X11 : Cond.initialized RX11 ∈ lw_tbl := List.mem_of_getElem? (i := 54) (by decide +kernel)
theorem kn_J6 : Cond.initialized RJ6 ∈ lw_tbl := List.mem_of_getElem? (i := 55) (by decide +kernel)
theorem kl_L_7 : Cond.classLink RL 7 RX10 ∈ lw_tbl := List.mem_of_getElem? (i := 56) (by decide +kernel)
theorem kq_X10 : Cond.instantiable RX10 11 ∈ lw_tbl := List.mem_of_getElem? (i := 57) (by decide +kernel)
theorem kl_L_9 : Cond.methodLink RL 9 yX10_init ∈ lw_tbl := List.mem_of_getElem? (i := 58) (by decide +kernel)
theorem ki_X10_init : Cond.instanceMethod yX10_init ∈ lw_tbl := List.mem_of_getElem? (i := 59) (by decide +kernel)
theorem kc_X10_init : Cond.code yX10_init cX10_init 2 none ∈ lw_tbl := List.mem_of_getElem? (i := 60) (by decide +kernel)
theorem kl_X10_1 : Cond.methodLink RX10 1 objectInit ∈ lw_tbl := List.mem_of_getElem? (i := 61) (by decide +kernel)
theorem ki_obj : Cond.instanceMethod objectInit ∈ lw_tbl := List.mem_of_getElem? (i := 62) (by decide +kernel)
theorem kc_obj : Cond.code objectInit ⟨#[0xb1]⟩ 1 none ∈ lw_tbl := List.mem_of_getElem? (i := 63) (by decide +kernel)
theorem kl_X10_7 : Cond.classLink RX10 7 RX9 ∈ lw_tbl := List.mem_of_getElem? (i := 64) (by decide +kernel)
theorem kq_X9 : Cond.instantiable RX9 2 ∈ lw_tbl := List.mem_of_getElem? (i := 65) (by decide +kernel)
theorem ki_X9_init : Cond.instanceMethod yX9_init ∈ lw_tbl := List.mem_of_getElem? (i := 67) (by decide +kernel)
theorem kc_X9_init : Cond.code yX9_init cX9_init 1 none ∈ lw_tbl := List.mem_of_getElem? (i := 68) (by decide +kernel)
theorem kl_X9_3 : Cond.methodLink RX9 3 objectInit ∈ lw_tbl := List.mem_of_getElem? (i := 69) (by decide +kernel)
theorem kl_X9_9 : Cond.fieldLink RX9 9 RX9 "letters" "[I" ∈ lw_tbl := List.mem_of_getElem? (i := 70) (by decide +kernel)
theorem kl_X9_15 : Cond.fieldLink RX9 15 RX9 "length" "I" ∈ lw_tbl := List.mem_of_getElem? (i := 71) (by decide +kernel)
theorem ka_42 : Cond.arrayClass FieldType.int ∈ lw_tbl := List.mem_of_getElem? (i := 79) (by decide +kernel)
theorem kl_X10_16 : Cond.classLink RX10 16 RX4 ∈ lw_tbl := List.mem_of_getElem? (i := 80) (by decide +kernel)
theorem kq_X4 : Cond.instantiable RX4 12 ∈ lw_tbl := List.mem_of_getElem? (i := 81) (by decide +kernel)
theorem ki_X4_init : Cond.instanceMethod yX4_init ∈ lw_tbl := List.mem_of_getElem? (i := 83) (by decide +kernel)
theorem kc_X4_init : Cond.code yX4_init cX4_init 1 none ∈ lw_tbl := List.mem_of_getElem? (i := 84) (by decide +kernel)
theorem kl_X4_3 : Cond.methodLink RX4 3 objectInit ∈ lw_tbl := List.mem_of_getElem? (i := 85) (by decide +kernel)
theorem kl_X4_9 : Cond.fieldLink RX4 9 RX4 "kinds" "[I" ∈ lw_tbl := List.mem_of_getElem? (i := 86) (by decide +kernel)
theorem kl_X4_15 : Cond.fieldLink RX4 15 RX4 "firstWrong" "[I" ∈ lw_tbl := List.mem_of_getElem? (i := 88) (by decide +kernel)
theorem kl_X4_18 : Cond.fieldLink RX4 18 RX4 "firstGain" "[I" ∈ lw_tbl := List.mem_of_getElem? (i := 90) (by decide +kernel)
theorem kl_X4_21 : Cond.fieldLink RX4 21 RX4 "wallBits" "[I" ∈ lw_tbl := List.mem_of_getElem? (i := 92) (by decide +kernel)
theorem kl_X4_24 : Cond.fieldLink RX4 24 RX4 "lessonDays" "[I" ∈ lw_tbl := List.mem_of_getElem? (i := 93) (by decide +kernel)
theorem kl_X4_27 : Cond.fieldLink RX4 27 RX4 "teachers" "[I" ∈ lw_tbl := List.mem_of_getElem? (i := 95) (by decide +kernel)
theorem kl_X4_30 : Cond.fieldLink RX4 30 RX4 "pupils" "[I" ∈ lw_tbl := List.mem_of_getElem? (i := 97) (by decide +kernel)
theorem kl_X4_33 : Cond.fieldLink RX4 33 RX4 "clocks" "I" ∈ lw_tbl := List.mem_of_getElem? (i := 99) (by decide +kernel)
theorem kl_X4_37 : Cond.fieldLink RX4 37 RX4 "walls" "I" ∈ lw_tbl := List.mem_of_getElem? (i := 105) (by decide +kernel)
theorem kl_X4_40 : Cond.fieldLink RX4 40 RX4 "lessons" "I" ∈ lw_tbl := List.mem_of_getElem? (i := 107) (by decide +kernel)
theorem kl_X4_43 : Cond.fieldLink RX4 43 RX4 "numbers" "[I" ∈ lw_tbl := List.mem_of_getElem? (i := 110) (by decide +kernel)
theorem kl_X4_46 : Cond.fieldLink RX4 46 RX4 "told" "I" ∈ lw_tbl := List.mem_of_getElem? (i := 111) (by decide +kernel)
theorem kl_X10_26 : Cond.classLink RX10 26 RX8 ∈ lw_tbl := List.mem_of_getElem? (i := 137) (by decide +kernel)
theorem kq_X8 : Cond.instantiable RX8 4 ∈ lw_tbl := List.mem_of_getElem? (i := 138) (by decide +kernel)
theorem kl_X10_28 : Cond.methodLink RX10 28 yX8_init ∈ lw_tbl := List.mem_of_getElem? (i := 139) (by decide +kernel)
theorem ki_X8_init : Cond.instanceMethod yX8_init ∈ lw_tbl := List.mem_of_getElem? (i := 140) (by decide +kernel)
theorem kc_X8_init : Cond.code yX8_init cX8_init 2 none ∈ lw_tbl := List.mem_of_getElem? (i := 141) (by decide +kernel)
theorem kl_X8_3 : Cond.methodLink RX8 3 objectInit ∈ lw_tbl := List.mem_of_getElem? (i := 142) (by decide +kernel)
theorem kl_X8_22 : Cond.fieldLink RX8 22 RX8 "house" "LTaughtClocks$House;" ∈ lw_tbl := List.mem_of_getElem? (i := 143) (by decide +kernel)
theorem kl_X8_9 : Cond.fieldLink RX8 9 RX8 "wrong" "[I" ∈ lw_tbl := List.mem_of_getElem? (i := 147) (by decide +kernel)
theorem kl_X8_15 : Cond.fieldLink RX8 15 RX8 "gain" "[I" ∈ lw_tbl := List.mem_of_getElem? (i := 148) (by decide +kernel)
theorem kl_X8_18 : Cond.fieldLink RX8 18 RX8 "day" "I" ∈ lw_tbl := List.mem_of_getElem? (i := 149) (by decide +kernel)
theorem kl_X10_38 : Cond.classLink RX10 38 RX7 ∈ lw_tbl := List.mem_of_getElem? (i := 160) (by decide +kernel)
theorem kq_X7 : Cond.instantiable RX7 2 ∈ lw_tbl := List.mem_of_getElem? (i := 161) (by decide +kernel)
theorem kl_X10_40 : Cond.methodLink RX10 40 yX7_init ∈ lw_tbl := List.mem_of_getElem? (i := 162) (by decide +kernel)
theorem ki_X7_init : Cond.instanceMethod yX7_init ∈ lw_tbl := List.mem_of_getElem? (i := 163) (by decide +kernel)
theorem kc_X7_init : Cond.code yX7_init cX7_init 4 none ∈ lw_tbl := List.mem_of_getElem? (i := 164) (by decide +kernel)
theorem kl_X7_1 : Cond.methodLink RX7 1 objectInit ∈ lw_tbl := List.mem_of_getElem? (i := 165) (by decide +kernel)
theorem kl_X7_13 : Cond.methodLink RX7 13 yJ9_max_7cf53 ∈ lw_tbl := List.mem_of_getElem? (i := 166) (by decide +kernel)
theorem kt_J9_max_7cf53 : Cond.static yJ9_max_7cf53 ∈ lw_tbl := List.mem_of_getElem? (i := 167) (by decide +kernel)
theorem kc_J9_max_7cf53 : Cond.code yJ9_max_7cf53 cJ9_max_7cf53 2 (some .int) ∈ lw_tbl := List.mem_of_getElem? (i := 168) (by decide +kernel)
theorem kl_X7_19 : Cond.classLink RX7 19 RX8 ∈ lw_tbl := List.mem_of_getElem? (i := 169) (by decide +kernel)
theorem ka_133 : Cond.arrayOver (FieldType.object "TaughtClocks$Standing") ∈ lw_tbl := List.mem_of_getElem? (i := 170) (by decide +kernel)
theorem kl_X7_25 : Cond.methodLink RX7 25 yX8_init ∈ lw_tbl := List.mem_of_getElem? (i := 171) (by decide +kernel)
theorem kl_X7_21 : Cond.fieldLink RX7 21 RX7 "places" "[LTaughtClocks$Standing;" ∈ lw_tbl := List.mem_of_getElem? (i := 172) (by decide +kernel)
theorem kl_X7_7 : Cond.fieldLink RX7 7 RX7 "held" "I" ∈ lw_tbl := List.mem_of_getElem? (i := 173) (by decide +kernel)
theorem kl_X10_50 : Cond.classLink RX10 50 RX6 ∈ lw_tbl := List.mem_of_getElem? (i := 180) (by decide +kernel)
theorem kq_X6 : Cond.instantiable RX6 3 ∈ lw_tbl := List.mem_of_getElem? (i := 181) (by decide +kernel)
theorem ki_X6_init : Cond.instanceMethod yX6_init ∈ lw_tbl := List.mem_of_getElem? (i := 183) (by decide +kernel)
theorem kc_X6_init : Cond.code yX6_init cX6_init 1 none ∈ lw_tbl := List.mem_of_getElem? (i := 184) (by decide +kernel)
theorem kl_X6_3 : Cond.methodLink RX6 3 objectInit ∈ lw_tbl := List.mem_of_getElem? (i := 185) (by decide +kernel)
theorem kl_X6_9 : Cond.fieldLink RX6 9 RX6 "clocks" "[I" ∈ lw_tbl := List.mem_of_getElem? (i := 186) (by decide +kernel)
theorem kl_X6_15 : Cond.fieldLink RX6 15 RX6 "minutes" "[I" ∈ lw_tbl := List.mem_of_getElem? (i := 187) (by decide +kernel)
theorem kl_X6_18 : Cond.fieldLink RX6 18 RX6 "heard" "I" ∈ lw_tbl := List.mem_of_getElem? (i := 188) (by decide +kernel)
theorem kl_X10_57 : Cond.classLink RX10 57 RX3 ∈ lw_tbl := List.mem_of_getElem? (i := 197) (by decide +kernel)
theorem kq_X3 : Cond.instantiable RX3 3 ∈ lw_tbl := List.mem_of_getElem? (i := 198) (by decide +kernel)
theorem ki_X3_init : Cond.instanceMethod yX3_init ∈ lw_tbl := List.mem_of_getElem? (i := 200) (by decide +kernel)
theorem kc_X3_init : Cond.code yX3_init cX3_init 1 none ∈ lw_tbl := List.mem_of_getElem? (i := 201) (by decide +kernel)
theorem kl_X3_3 : Cond.methodLink RX3 3 objectInit ∈ lw_tbl := List.mem_of_getElem? (i := 202) (by decide +kernel)
theorem kl_X3_9 : Cond.fieldLink RX3 9 RX3 "lessons" "I" ∈ lw_tbl := List.mem_of_getElem? (i := 203) (by decide +kernel)
theorem kl_X3_15 : Cond.fieldLink RX3 15 RX3 "first" "I" ∈ lw_tbl := List.mem_of_getElem? (i := 205) (by decide +kernel)
theorem kl_X3_18 : Cond.fieldLink RX3 18 RX3 "second" "I" ∈ lw_tbl := List.mem_of_getElem? (i := 207) (by decide +kernel)
theorem kl_X10_64 : Cond.classLink RX10 64 RX0 ∈ lw_tbl := List.mem_of_getElem? (i := 216) (by decide +kernel)
theorem kq_X0 : Cond.instantiable RX0 3 ∈ lw_tbl := List.mem_of_getElem? (i := 217) (by decide +kernel)
theorem ki_X0_init : Cond.instanceMethod yX0_init ∈ lw_tbl := List.mem_of_getElem? (i := 219) (by decide +kernel)
theorem kc_X0_init : Cond.code yX0_init cX0_init 1 none ∈ lw_tbl := List.mem_of_getElem? (i := 220) (by decide +kernel)
theorem kl_X0_3 : Cond.methodLink RX0 3 objectInit ∈ lw_tbl := List.mem_of_getElem? (i := 221) (by decide +kernel)
theorem kl_X0_9 : Cond.classLink RX0 9 RX2 ∈ lw_tbl := List.mem_of_getElem? (i := 222) (by decide +kernel)
theorem kq_X2 : Cond.instantiable RX2 3 ∈ lw_tbl := List.mem_of_getElem? (i := 223) (by decide +kernel)
theorem ki_X2_init : Cond.instanceMethod yX2_init ∈ lw_tbl := List.mem_of_getElem? (i := 225) (by decide +kernel)
theorem kc_X2_init : Cond.code yX2_init cX2_init 1 none ∈ lw_tbl := List.mem_of_getElem? (i := 226) (by decide +kernel)
theorem kl_X2_3 : Cond.methodLink RX2 3 objectInit ∈ lw_tbl := List.mem_of_getElem? (i := 227) (by decide +kernel)
theorem kl_X2_9 : Cond.fieldLink RX2 9 RX2 "chosen" "[I" ∈ lw_tbl := List.mem_of_getElem? (i := 228) (by decide +kernel)
theorem kl_X2_15 : Cond.fieldLink RX2 15 RX2 "bounds" "[I" ∈ lw_tbl := List.mem_of_getElem? (i := 229) (by decide +kernel)
theorem kl_X2_18 : Cond.fieldLink RX2 18 RX2 "many" "I" ∈ lw_tbl := List.mem_of_getElem? (i := 230) (by decide +kernel)
theorem kl_X0_22 : Cond.classLink RX0 22 RX5 ∈ lw_tbl := List.mem_of_getElem? (i := 238) (by decide +kernel)
theorem kq_X5 : Cond.instantiable RX5 2 ∈ lw_tbl := List.mem_of_getElem? (i := 239) (by decide +kernel)
theorem ki_X5_init : Cond.instanceMethod yX5_init ∈ lw_tbl := List.mem_of_getElem? (i := 241) (by decide +kernel)
theorem kc_X5_init : Cond.code yX5_init cX5_init 1 none ∈ lw_tbl := List.mem_of_getElem? (i := 242) (by decide +kernel)
theorem kl_X5_3 : Cond.methodLink RX5 3 objectInit ∈ lw_tbl := List.mem_of_getElem? (i := 243) (by decide +kernel)
theorem kl_X5_9 : Cond.fieldLink RX5 9 RX5 "row" "[I" ∈ lw_tbl := List.mem_of_getElem? (i := 244) (by decide +kernel)
theorem kl_X5_15 : Cond.fieldLink RX5 15 RX5 "sum" "I" ∈ lw_tbl := List.mem_of_getElem? (i := 247) (by decide +kernel)
theorem kl_X0_12 : Cond.fieldLink RX0 12 RX0 "choices" "LTaughtClocks$Choices;" ∈ lw_tbl := List.mem_of_getElem? (i := 254) (by decide +kernel)
theorem kl_X0_18 : Cond.fieldLink RX0 18 RX0 "order" "[I" ∈ lw_tbl := List.mem_of_getElem? (i := 255) (by decide +kernel)
theorem kl_X0_25 : Cond.fieldLink RX0 25 RX0 "best" "LTaughtClocks$Least;" ∈ lw_tbl := List.mem_of_getElem? (i := 256) (by decide +kernel)
theorem kl_X10_71 : Cond.classLink RX10 71 RX1 ∈ lw_tbl := List.mem_of_getElem? (i := 265) (by decide +kernel)
theorem kq_X1 : Cond.instantiable RX1 3 ∈ lw_tbl := List.mem_of_getElem? (i := 266) (by decide +kernel)
theorem ki_X1_init : Cond.instanceMethod yX1_init ∈ lw_tbl := List.mem_of_getElem? (i := 268) (by decide +kernel)
theorem kc_X1_init : Cond.code yX1_init cX1_init 1 none ∈ lw_tbl := List.mem_of_getElem? (i := 269) (by decide +kernel)
theorem kl_X1_3 : Cond.methodLink RX1 3 objectInit ∈ lw_tbl := List.mem_of_getElem? (i := 270) (by decide +kernel)
theorem kl_X1_9 : Cond.classLink RX1 9 RX2 ∈ lw_tbl := List.mem_of_getElem? (i := 271) (by decide +kernel)
theorem kl_X1_22 : Cond.classLink RX1 22 RX5 ∈ lw_tbl := List.mem_of_getElem? (i := 273) (by decide +kernel)
theorem kl_X1_12 : Cond.fieldLink RX1 12 RX1 "choices" "LTaughtClocks$Choices;" ∈ lw_tbl := List.mem_of_getElem? (i := 275) (by decide +kernel)
theorem kl_X1_18 : Cond.fieldLink RX1 18 RX1 "mates" "[I" ∈ lw_tbl := List.mem_of_getElem? (i := 276) (by decide +kernel)
theorem kl_X1_25 : Cond.fieldLink RX1 25 RX1 "best" "LTaughtClocks$Least;" ∈ lw_tbl := List.mem_of_getElem? (i := 277) (by decide +kernel)
theorem kl_X10_80 : Cond.methodLink RX10 80 yJ0_length_8abf5 ∈ lw_tbl := List.mem_of_getElem? (i := 287) (by decide +kernel)
theorem ki_J0_length_8abf5 : Cond.instanceMethod yJ0_length_8abf5 ∈ lw_tbl := List.mem_of_getElem? (i := 288) (by decide +kernel)
theorem ks_J0_length_8abf5 : Cond.selects RJ0 yJ0_length_8abf5 yJ0_length_8abf5 ∈ lw_tbl := List.mem_of_getElem? (i := 289) (by decide +kernel)
theorem kc_J0_length_8abf5 : Cond.code yJ0_length_8abf5 cJ0_length_8abf5 1 (some .int) ∈ lw_tbl := List.mem_of_getElem? (i := 290) (by decide +kernel)
theorem kl_J0_335 : Cond.methodLink RJ0 335 yJ0_coder_7d493 ∈ lw_tbl := List.mem_of_getElem? (i := 291) (by decide +kernel)
theorem ki_J0_coder_7d493 : Cond.instanceMethod yJ0_coder_7d493 ∈ lw_tbl := List.mem_of_getElem? (i := 292) (by decide +kernel)
theorem ks_J0_coder_7d493 : Cond.selects RJ0 yJ0_coder_7d493 yJ0_coder_7d493 ∈ lw_tbl := List.mem_of_getElem? (i := 293) (by decide +kernel)
theorem kc_J0_coder_7d493 : Cond.code yJ0_coder_7d493 cJ0_coder_7d493 1 (some .byte) ∈ lw_tbl := List.mem_of_getElem? (i := 294) (by decide +kernel)
theorem kl_J0_38 : Cond.fieldLink RJ0 38 RJ0 "COMPACT_STRINGS" "Z" ∈ lw_tbl := List.mem_of_getElem? (i := 295) (by decide +kernel)
theorem kl_X10_86 : Cond.methodLink RX10 86 yJ0_charAt_5068e ∈ lw_tbl := List.mem_of_getElem? (i := 297) (by decide +kernel)
theorem ki_J0_charAt_5068e : Cond.instanceMethod yJ0_charAt_5068e ∈ lw_tbl := List.mem_of_getElem? (i := 298) (by decide +kernel)
theorem ks_J0_charAt_5068e : Cond.selects RJ0 yJ0_charAt_5068e yJ0_charAt_5068e ∈ lw_tbl := List.mem_of_getElem? (i := 299) (by decide +kernel)
theorem kc_J0_charAt_5068e : Cond.code yJ0_charAt_5068e cJ0_charAt_5068e 2 (some .char) ∈ lw_tbl := List.mem_of_getElem? (i := 300) (by decide +kernel)
theorem kl_J0_492 : Cond.methodLink RJ0 492 yJ0_isLatin1_aae02 ∈ lw_tbl := List.mem_of_getElem? (i := 301) (by decide +kernel)
theorem ki_J0_isLatin1_aae02 : Cond.instanceMethod yJ0_isLatin1_aae02 ∈ lw_tbl := List.mem_of_getElem? (i := 302) (by decide +kernel)
theorem ks_J0_isLatin1_aae02 : Cond.selects RJ0 yJ0_isLatin1_aae02 yJ0_isLatin1_aae02 ∈ lw_tbl := List.mem_of_getElem? (i := 303) (by decide +kernel)
theorem kc_J0_isLatin1_aae02 : Cond.code yJ0_isLatin1_aae02 cJ0_isLatin1_aae02 1 (some .boolean) ∈ lw_tbl := List.mem_of_getElem? (i := 304) (by decide +kernel)
theorem kl_J0_495 : Cond.methodLink RJ0 495 yJ1_charAt_3b067 ∈ lw_tbl := List.mem_of_getElem? (i := 305) (by decide +kernel)
theorem kt_J1_charAt_3b067 : Cond.static yJ1_charAt_3b067 ∈ lw_tbl := List.mem_of_getElem? (i := 306) (by decide +kernel)
theorem kc_J1_charAt_3b067 : Cond.code yJ1_charAt_3b067 cJ1_charAt_3b067 2 (some .char) ∈ lw_tbl := List.mem_of_getElem? (i := 307) (by decide +kernel)
theorem kl_J1_9 : Cond.methodLink RJ1 9 yJ0_checkIndex_df160 ∈ lw_tbl := List.mem_of_getElem? (i := 308) (by decide +kernel)
theorem kt_J0_checkIndex_df160 : Cond.static yJ0_checkIndex_df160 ∈ lw_tbl := List.mem_of_getElem? (i := 309) (by decide +kernel)
theorem kc_J0_checkIndex_df160 : Cond.code yJ0_checkIndex_df160 cJ0_checkIndex_df160 2 none ∈ lw_tbl := List.mem_of_getElem? (i := 310) (by decide +kernel)
theorem kl_J0_1053 : Cond.fieldLink RJ0 1053 RJ3 "SIOOBE_FORMATTER" "Ljava/util/function/BiFunction;" ∈ lw_tbl := List.mem_of_getElem? (i := 311) (by decide +kernel)
theorem kl_J0_1059 : Cond.methodLink RJ0 1059 yJ3_checkIndex_8e157 ∈ lw_tbl := List.mem_of_getElem? (i := 313) (by decide +kernel)
theorem kt_J3_checkIndex_8e157 : Cond.static yJ3_checkIndex_8e157 ∈ lw_tbl := List.mem_of_getElem? (i := 314) (by decide +kernel)
theorem kc_J3_checkIndex_8e157 : Cond.code yJ3_checkIndex_8e157 cJ3_checkIndex_8e157 3 (some .int) ∈ lw_tbl := List.mem_of_getElem? (i := 315) (by decide +kernel)
theorem kl_J0_498 : Cond.methodLink RJ0 498 yJ2_charAt_3b067 ∈ lw_tbl := List.mem_of_getElem? (i := 316) (by decide +kernel)
theorem kt_J2_charAt_3b067 : Cond.static yJ2_charAt_3b067 ∈ lw_tbl := List.mem_of_getElem? (i := 317) (by decide +kernel)
theorem kc_J2_charAt_3b067 : Cond.code yJ2_charAt_3b067 cJ2_charAt_3b067 2 (some .char) ∈ lw_tbl := List.mem_of_getElem? (i := 318) (by decide +kernel)
theorem kl_J2_67 : Cond.methodLink RJ2 67 yJ2_checkIndex_2214a ∈ lw_tbl := List.mem_of_getElem? (i := 319) (by decide +kernel)
theorem kt_J2_checkIndex_2214a : Cond.static yJ2_checkIndex_2214a ∈ lw_tbl := List.mem_of_getElem? (i := 320) (by decide +kernel)
theorem kc_J2_checkIndex_2214a : Cond.code yJ2_checkIndex_2214a cJ2_checkIndex_2214a 2 none ∈ lw_tbl := List.mem_of_getElem? (i := 321) (by decide +kernel)
theorem kl_J2_48 : Cond.methodLink RJ2 48 yJ2_length_9d52b ∈ lw_tbl := List.mem_of_getElem? (i := 322) (by decide +kernel)
theorem kt_J2_length_9d52b : Cond.static yJ2_length_9d52b ∈ lw_tbl := List.mem_of_getElem? (i := 323) (by decide +kernel)
theorem kc_J2_length_9d52b : Cond.code yJ2_length_9d52b cJ2_length_9d52b 1 (some .int) ∈ lw_tbl := List.mem_of_getElem? (i := 324) (by decide +kernel)
theorem kl_J2_414 : Cond.methodLink RJ2 414 yJ0_checkIndex_df160 ∈ lw_tbl := List.mem_of_getElem? (i := 325) (by decide +kernel)
theorem kl_J2_71 : Cond.methodLink RJ2 71 yJ2_getChar_3b067 ∈ lw_tbl := List.mem_of_getElem? (i := 326) (by decide +kernel)
theorem kt_J2_getChar_3b067 : Cond.static yJ2_getChar_3b067 ∈ lw_tbl := List.mem_of_getElem? (i := 327) (by decide +kernel)
theorem kc_J2_getChar_3b067 : Cond.code yJ2_getChar_3b067 cJ2_getChar_3b067 2 (some .char) ∈ lw_tbl := List.mem_of_getElem? (i := 328) (by decide +kernel)
theorem kl_J2_44 : Cond.fieldLink RJ2 44 RJ2 "$assertionsDisabled" "Z" ∈ lw_tbl := List.mem_of_getElem? (i := 329) (by decide +kernel)
theorem kl_J2_59 : Cond.fieldLink RJ2 59 RJ2 "HI_BYTE_SHIFT" "I" ∈ lw_tbl := List.mem_of_getElem? (i := 331) (by decide +kernel)
theorem kl_J2_63 : Cond.fieldLink RJ2 63 RJ2 "LO_BYTE_SHIFT" "I" ∈ lw_tbl := List.mem_of_getElem? (i := 333) (by decide +kernel)
theorem kl_X10_90 : Cond.methodLink RX10 90 yX9_append ∈ lw_tbl := List.mem_of_getElem? (i := 335) (by decide +kernel)
theorem ki_X9_append : Cond.instanceMethod yX9_append ∈ lw_tbl := List.mem_of_getElem? (i := 336) (by decide +kernel)
theorem ks_X9_append : Cond.selects RX9 yX9_append yX9_append ∈ lw_tbl := List.mem_of_getElem? (i := 337) (by decide +kernel)
theorem kc_X9_append : Cond.code yX9_append cX9_append 2 none ∈ lw_tbl := List.mem_of_getElem? (i := 338) (by decide +kernel)
theorem kt_X10_put : Cond.static yX10_put ∈ lw_tbl := List.mem_of_getElem? (i := 340) (by decide +kernel)
theorem kc_X10_put : Cond.code yX10_put cX10_put 3 none ∈ lw_tbl := List.mem_of_getElem? (i := 341) (by decide +kernel)
theorem kl_X10_94 : Cond.methodLink RX10 94 yX4_readFrom ∈ lw_tbl := List.mem_of_getElem? (i := 342) (by decide +kernel)
theorem ki_X4_readFrom : Cond.instanceMethod yX4_readFrom ∈ lw_tbl := List.mem_of_getElem? (i := 343) (by decide +kernel)
theorem ks_X4_readFrom : Cond.selects RX4 yX4_readFrom yX4_readFrom ∈ lw_tbl := List.mem_of_getElem? (i := 344) (by decide +kernel)
theorem kc_X4_readFrom : Cond.code yX4_readFrom cX4_readFrom 5 (some .int) ∈ lw_tbl := List.mem_of_getElem? (i := 345) (by decide +kernel)
theorem kl_X4_54 : Cond.methodLink RX4 54 yX4_readNumbers ∈ lw_tbl := List.mem_of_getElem? (i := 346) (by decide +kernel)
theorem ki_X4_readNumbers : Cond.instanceMethod yX4_readNumbers ∈ lw_tbl := List.mem_of_getElem? (i := 348) (by decide +kernel)
theorem kc_X4_readNumbers : Cond.code yX4_readNumbers cX4_readNumbers 7 (some .int) ∈ lw_tbl := List.mem_of_getElem? (i := 349) (by decide +kernel)
theorem kl_X4_58 : Cond.methodLink RX4 58 yX9_letterAt ∈ lw_tbl := List.mem_of_getElem? (i := 350) (by decide +kernel)
theorem ki_X9_letterAt : Cond.instanceMethod yX9_letterAt ∈ lw_tbl := List.mem_of_getElem? (i := 351) (by decide +kernel)
theorem ks_X9_letterAt : Cond.selects RX9 yX9_letterAt yX9_letterAt ∈ lw_tbl := List.mem_of_getElem? (i := 352) (by decide +kernel)
theorem kc_X9_letterAt : Cond.code yX9_letterAt cX9_letterAt 2 (some .int) ∈ lw_tbl := List.mem_of_getElem? (i := 353) (by decide +kernel)
theorem kt_X10_at : Cond.static yX10_at ∈ lw_tbl := List.mem_of_getElem? (i := 355) (by decide +kernel)
theorem kc_X10_at : Cond.code yX10_at cX10_at 2 (some .int) ∈ lw_tbl := List.mem_of_getElem? (i := 356) (by decide +kernel)
theorem kl_X4_62 : Cond.methodLink RX4 62 yX4_takeItem ∈ lw_tbl := List.mem_of_getElem? (i := 358) (by decide +kernel)
theorem ki_X4_takeItem : Cond.instanceMethod yX4_takeItem ∈ lw_tbl := List.mem_of_getElem? (i := 360) (by decide +kernel)
theorem kc_X4_takeItem : Cond.code yX4_takeItem cX4_takeItem 5 (some .boolean) ∈ lw_tbl := List.mem_of_getElem? (i := 361) (by decide +kernel)
theorem kl_X4_74 : Cond.methodLink RX4 74 yX4_takeClock ∈ lw_tbl := List.mem_of_getElem? (i := 363) (by decide +kernel)
theorem ki_X4_takeClock : Cond.instanceMethod yX4_takeClock ∈ lw_tbl := List.mem_of_getElem? (i := 365) (by decide +kernel)
theorem kc_X4_takeClock : Cond.code yX4_takeClock cX4_takeClock 4 (some .boolean) ∈ lw_tbl := List.mem_of_getElem? (i := 366) (by decide +kernel)
theorem kl_X4_78 : Cond.methodLink RX4 78 yX4_takeWall ∈ lw_tbl := List.mem_of_getElem? (i := 367) (by decide +kernel)
theorem ki_X4_takeWall : Cond.instanceMethod yX4_takeWall ∈ lw_tbl := List.mem_of_getElem? (i := 369) (by decide +kernel)
theorem kc_X4_takeWall : Cond.code yX4_takeWall cX4_takeWall 3 (some .boolean) ∈ lw_tbl := List.mem_of_getElem? (i := 370) (by decide +kernel)
theorem kl_X4_85 : Cond.methodLink RX4 85 yX4_hasBoth ∈ lw_tbl := List.mem_of_getElem? (i := 371) (by decide +kernel)
theorem ki_X4_hasBoth : Cond.instanceMethod yX4_hasBoth ∈ lw_tbl := List.mem_of_getElem? (i := 372) (by decide +kernel)
theorem ks_X4_hasBoth : Cond.selects RX4 yX4_hasBoth yX4_hasBoth ∈ lw_tbl := List.mem_of_getElem? (i := 373) (by decide +kernel)
theorem kc_X4_hasBoth : Cond.code yX4_hasBoth cX4_hasBoth 3 (some .boolean) ∈ lw_tbl := List.mem_of_getElem? (i := 374) (by decide +kernel)
theorem kl_X4_91 : Cond.methodLink RX4 91 yX4_hasClock ∈ lw_tbl := List.mem_of_getElem? (i := 375) (by decide +kernel)
theorem ki_X4_hasClock : Cond.instanceMethod yX4_hasClock ∈ lw_tbl := List.mem_of_getElem? (i := 376) (by decide +kernel)
theorem ks_X4_hasClock : Cond.selects RX4 yX4_hasClock yX4_hasClock ∈ lw_tbl := List.mem_of_getElem? (i := 377) (by decide +kernel)
theorem kc_X4_hasClock : Cond.code yX4_hasClock cX4_hasClock 2 (some .boolean) ∈ lw_tbl := List.mem_of_getElem? (i := 378) (by decide +kernel)
theorem kl_X4_88 : Cond.methodLink RX4 88 yX4_hasWall ∈ lw_tbl := List.mem_of_getElem? (i := 379) (by decide +kernel)
theorem ki_X4_hasWall : Cond.instanceMethod yX4_hasWall ∈ lw_tbl := List.mem_of_getElem? (i := 380) (by decide +kernel)
theorem ks_X4_hasWall : Cond.selects RX4 yX4_hasWall yX4_hasWall ∈ lw_tbl := List.mem_of_getElem? (i := 381) (by decide +kernel)
theorem kc_X4_hasWall : Cond.code yX4_hasWall cX4_hasWall 3 (some .boolean) ∈ lw_tbl := List.mem_of_getElem? (i := 382) (by decide +kernel)
theorem kl_X4_82 : Cond.methodLink RX4 82 yX4_takeLesson ∈ lw_tbl := List.mem_of_getElem? (i := 383) (by decide +kernel)
theorem ki_X4_takeLesson : Cond.instanceMethod yX4_takeLesson ∈ lw_tbl := List.mem_of_getElem? (i := 385) (by decide +kernel)
theorem kc_X4_takeLesson : Cond.code yX4_takeLesson cX4_takeLesson 4 (some .boolean) ∈ lw_tbl := List.mem_of_getElem? (i := 386) (by decide +kernel)
theorem kl_X10_98 : Cond.methodLink RX10 98 yX8_begin ∈ lw_tbl := List.mem_of_getElem? (i := 387) (by decide +kernel)
theorem ki_X8_begin : Cond.instanceMethod yX8_begin ∈ lw_tbl := List.mem_of_getElem? (i := 388) (by decide +kernel)
theorem ks_X8_begin : Cond.selects RX8 yX8_begin yX8_begin ∈ lw_tbl := List.mem_of_getElem? (i := 389) (by decide +kernel)
theorem kc_X8_begin : Cond.code yX8_begin cX8_begin 2 none ∈ lw_tbl := List.mem_of_getElem? (i := 390) (by decide +kernel)
theorem kl_X10_10 : Cond.fieldLink RX10 10 RX10 "text" "LTaughtClocks$Text;" ∈ lw_tbl := List.mem_of_getElem? (i := 393) (by decide +kernel)
theorem kl_X10_19 : Cond.fieldLink RX10 19 RX10 "draft" "LTaughtClocks$House;" ∈ lw_tbl := List.mem_of_getElem? (i := 394) (by decide +kernel)
theorem kl_X10_23 : Cond.fieldLink RX10 23 RX10 "house" "LTaughtClocks$House;" ∈ lw_tbl := List.mem_of_getElem? (i := 395) (by decide +kernel)
theorem kl_X10_31 : Cond.fieldLink RX10 31 RX10 "now" "LTaughtClocks$Standing;" ∈ lw_tbl := List.mem_of_getElem? (i := 396) (by decide +kernel)
theorem kl_X10_35 : Cond.fieldLink RX10 35 RX10 "trial" "LTaughtClocks$Standing;" ∈ lw_tbl := List.mem_of_getElem? (i := 397) (by decide +kernel)
theorem kl_X10_43 : Cond.fieldLink RX10 43 RX10 "undoable" "LTaughtClocks$Shelf;" ∈ lw_tbl := List.mem_of_getElem? (i := 398) (by decide +kernel)
theorem kl_X10_47 : Cond.fieldLink RX10 47 RX10 "kept" "LTaughtClocks$Shelf;" ∈ lw_tbl := List.mem_of_getElem? (i := 399) (by decide +kernel)
theorem kl_X10_53 : Cond.fieldLink RX10 53 RX10 "rumours" "LTaughtClocks$Rumours;" ∈ lw_tbl := List.mem_of_getElem? (i := 400) (by decide +kernel)
theorem kl_X10_60 : Cond.fieldLink RX10 60 RX10 "cure" "LTaughtClocks$Cure;" ∈ lw_tbl := List.mem_of_getElem? (i := 401) (by decide +kernel)
theorem kl_X10_67 : Cond.fieldLink RX10 67 RX10 "bestRing" "LTaughtClocks$BestRing;" ∈ lw_tbl := List.mem_of_getElem? (i := 402) (by decide +kernel)
theorem kl_X10_74 : Cond.fieldLink RX10 74 RX10 "bestTwos" "LTaughtClocks$BestTwos;" ∈ lw_tbl := List.mem_of_getElem? (i := 403) (by decide +kernel)
theorem ka_390 : Cond.arrayClass FieldType.byte ∈ lw_tbl := List.mem_of_getElem? (i := 427) (by decide +kernel)
theorem kl_L_13 : Cond.methodLink RL 13 yX10_write ∈ lw_tbl := List.mem_of_getElem? (i := 428) (by decide +kernel)
theorem ki_X10_write : Cond.instanceMethod yX10_write ∈ lw_tbl := List.mem_of_getElem? (i := 429) (by decide +kernel)
theorem ks_X10_write : Cond.selects RX10 yX10_write yX10_write ∈ lw_tbl := List.mem_of_getElem? (i := 430) (by decide +kernel)
theorem kc_X10_write : Cond.code yX10_write cX10_write 2 (some .int) ∈ lw_tbl := List.mem_of_getElem? (i := 431) (by decide +kernel)
theorem kl_L_18 : Cond.methodLink RL 18 yX10_wipe ∈ lw_tbl := List.mem_of_getElem? (i := 432) (by decide +kernel)
theorem ki_X10_wipe : Cond.instanceMethod yX10_wipe ∈ lw_tbl := List.mem_of_getElem? (i := 433) (by decide +kernel)
theorem ks_X10_wipe : Cond.selects RX10 yX10_wipe yX10_wipe ∈ lw_tbl := List.mem_of_getElem? (i := 434) (by decide +kernel)
theorem kc_X10_wipe : Cond.code yX10_wipe cX10_wipe 2 (some .int) ∈ lw_tbl := List.mem_of_getElem? (i := 435) (by decide +kernel)
theorem kl_L_23 : Cond.methodLink RL 23 yX10_fault ∈ lw_tbl := List.mem_of_getElem? (i := 436) (by decide +kernel)
theorem ki_X10_fault : Cond.instanceMethod yX10_fault ∈ lw_tbl := List.mem_of_getElem? (i := 437) (by decide +kernel)
theorem ks_X10_fault : Cond.selects RX10 yX10_fault yX10_fault ∈ lw_tbl := List.mem_of_getElem? (i := 438) (by decide +kernel)
theorem kc_X10_fault : Cond.code yX10_fault cX10_fault 1 (some .int) ∈ lw_tbl := List.mem_of_getElem? (i := 439) (by decide +kernel)
theorem kl_L_27 : Cond.methodLink RL 27 yX10_lay ∈ lw_tbl := List.mem_of_getElem? (i := 440) (by decide +kernel)
theorem ki_X10_lay : Cond.instanceMethod yX10_lay ∈ lw_tbl := List.mem_of_getElem? (i := 441) (by decide +kernel)
theorem ks_X10_lay : Cond.selects RX10 yX10_lay yX10_lay ∈ lw_tbl := List.mem_of_getElem? (i := 442) (by decide +kernel)
theorem kc_X10_lay : Cond.code yX10_lay cX10_lay 1 (some .int) ∈ lw_tbl := List.mem_of_getElem? (i := 443) (by decide +kernel)
theorem kl_L_31 : Cond.methodLink RL 31 yX10_clock ∈ lw_tbl := List.mem_of_getElem? (i := 444) (by decide +kernel)
theorem ki_X10_clock : Cond.instanceMethod yX10_clock ∈ lw_tbl := List.mem_of_getElem? (i := 445) (by decide +kernel)
theorem ks_X10_clock : Cond.selects RX10 yX10_clock yX10_clock ∈ lw_tbl := List.mem_of_getElem? (i := 446) (by decide +kernel)
theorem kc_X10_clock : Cond.code yX10_clock cX10_clock 3 (some .int) ∈ lw_tbl := List.mem_of_getElem? (i := 447) (by decide +kernel)
theorem kl_X10_113 : Cond.methodLink RX10 113 yX4_hasClock ∈ lw_tbl := List.mem_of_getElem? (i := 448) (by decide +kernel)
theorem kl_X10_117 : Cond.methodLink RX10 117 yX4_kindOf ∈ lw_tbl := List.mem_of_getElem? (i := 449) (by decide +kernel)
theorem ki_X4_kindOf : Cond.instanceMethod yX4_kindOf ∈ lw_tbl := List.mem_of_getElem? (i := 450) (by decide +kernel)
theorem ks_X4_kindOf : Cond.selects RX4 yX4_kindOf yX4_kindOf ∈ lw_tbl := List.mem_of_getElem? (i := 451) (by decide +kernel)
theorem kc_X4_kindOf : Cond.code yX4_kindOf cX4_kindOf 2 (some .int) ∈ lw_tbl := List.mem_of_getElem? (i := 452) (by decide +kernel)
theorem kl_X10_121 : Cond.methodLink RX10 121 yX8_wrongOf ∈ lw_tbl := List.mem_of_getElem? (i := 453) (by decide +kernel)
theorem ki_X8_wrongOf : Cond.instanceMethod yX8_wrongOf ∈ lw_tbl := List.mem_of_getElem? (i := 454) (by decide +kernel)
theorem ks_X8_wrongOf : Cond.selects RX8 yX8_wrongOf yX8_wrongOf ∈ lw_tbl := List.mem_of_getElem? (i := 455) (by decide +kernel)
theorem kc_X8_wrongOf : Cond.code yX8_wrongOf cX8_wrongOf 2 (some .int) ∈ lw_tbl := List.mem_of_getElem? (i := 456) (by decide +kernel)
theorem kl_X10_124 : Cond.methodLink RX10 124 yX8_gainOf ∈ lw_tbl := List.mem_of_getElem? (i := 457) (by decide +kernel)
theorem ki_X8_gainOf : Cond.instanceMethod yX8_gainOf ∈ lw_tbl := List.mem_of_getElem? (i := 458) (by decide +kernel)
theorem ks_X8_gainOf : Cond.selects RX8 yX8_gainOf yX8_gainOf ∈ lw_tbl := List.mem_of_getElem? (i := 459) (by decide +kernel)
theorem kc_X8_gainOf : Cond.code yX8_gainOf cX8_gainOf 2 (some .int) ∈ lw_tbl := List.mem_of_getElem? (i := 460) (by decide +kernel)
theorem kl_X10_127 : Cond.methodLink RX10 127 yX4_wallsOf ∈ lw_tbl := List.mem_of_getElem? (i := 461) (by decide +kernel)
theorem ki_X4_wallsOf : Cond.instanceMethod yX4_wallsOf ∈ lw_tbl := List.mem_of_getElem? (i := 462) (by decide +kernel)
theorem ks_X4_wallsOf : Cond.selects RX4 yX4_wallsOf yX4_wallsOf ∈ lw_tbl := List.mem_of_getElem? (i := 463) (by decide +kernel)
theorem kc_X4_wallsOf : Cond.code yX4_wallsOf cX4_wallsOf 2 (some .int) ∈ lw_tbl := List.mem_of_getElem? (i := 464) (by decide +kernel)
theorem kl_X4_94 : Cond.methodLink RX4 94 yJ6_bitCount_0f7a4 ∈ lw_tbl := List.mem_of_getElem? (i := 465) (by decide +kernel)
theorem kt_J6_bitCount_0f7a4 : Cond.static yJ6_bitCount_0f7a4 ∈ lw_tbl := List.mem_of_getElem? (i := 466) (by decide +kernel)
theorem kc_J6_bitCount_0f7a4 : Cond.code yJ6_bitCount_0f7a4 cJ6_bitCount_0f7a4 1 (some .int) ∈ lw_tbl := List.mem_of_getElem? (i := 467) (by decide +kernel)
theorem kl_J6_265 : Cond.constant RJ6 265 (1431655765 : Int32) ∈ lw_tbl := List.mem_of_getElem? (i := 468) (by decide +kernel)
theorem kl_J6_266 : Cond.constant RJ6 266 (858993459 : Int32) ∈ lw_tbl := List.mem_of_getElem? (i := 469) (by decide +kernel)
theorem kl_J6_267 : Cond.constant RJ6 267 (252645135 : Int32) ∈ lw_tbl := List.mem_of_getElem? (i := 470) (by decide +kernel)
theorem kl_L_36 : Cond.methodLink RL 36 yX10_wall ∈ lw_tbl := List.mem_of_getElem? (i := 471) (by decide +kernel)
theorem ki_X10_wall : Cond.instanceMethod yX10_wall ∈ lw_tbl := List.mem_of_getElem? (i := 472) (by decide +kernel)
theorem ks_X10_wall : Cond.selects RX10 yX10_wall yX10_wall ∈ lw_tbl := List.mem_of_getElem? (i := 473) (by decide +kernel)
theorem kc_X10_wall : Cond.code yX10_wall cX10_wall 3 (some .int) ∈ lw_tbl := List.mem_of_getElem? (i := 474) (by decide +kernel)
theorem kl_X10_130 : Cond.methodLink RX10 130 yX4_hasBoth ∈ lw_tbl := List.mem_of_getElem? (i := 475) (by decide +kernel)
theorem kl_X10_134 : Cond.methodLink RX10 134 yX4_hasWall ∈ lw_tbl := List.mem_of_getElem? (i := 476) (by decide +kernel)
theorem kl_L_40 : Cond.methodLink RL 40 yX10_noon ∈ lw_tbl := List.mem_of_getElem? (i := 477) (by decide +kernel)
theorem ki_X10_noon : Cond.instanceMethod yX10_noon ∈ lw_tbl := List.mem_of_getElem? (i := 478) (by decide +kernel)
theorem ks_X10_noon : Cond.selects RX10 yX10_noon yX10_noon ∈ lw_tbl := List.mem_of_getElem? (i := 479) (by decide +kernel)
theorem kc_X10_noon : Cond.code yX10_noon cX10_noon 1 (some .int) ∈ lw_tbl := List.mem_of_getElem? (i := 480) (by decide +kernel)
theorem kl_X10_137 : Cond.methodLink RX10 137 yX8_middle ∈ lw_tbl := List.mem_of_getElem? (i := 481) (by decide +kernel)
theorem ki_X8_middle : Cond.instanceMethod yX8_middle ∈ lw_tbl := List.mem_of_getElem? (i := 482) (by decide +kernel)
theorem ks_X8_middle : Cond.selects RX8 yX8_middle yX8_middle ∈ lw_tbl := List.mem_of_getElem? (i := 483) (by decide +kernel)
theorem kc_X8_middle : Cond.code yX8_middle cX8_middle 6 (some .int) ∈ lw_tbl := List.mem_of_getElem? (i := 484) (by decide +kernel)
theorem kl_X8_85 : Cond.methodLink RX8 85 yX8_wrongOf ∈ lw_tbl := List.mem_of_getElem? (i := 485) (by decide +kernel)
theorem kl_L_44 : Cond.methodLink RL 44 yX10_pass ∈ lw_tbl := List.mem_of_getElem? (i := 486) (by decide +kernel)
theorem ki_X10_pass : Cond.instanceMethod yX10_pass ∈ lw_tbl := List.mem_of_getElem? (i := 487) (by decide +kernel)
theorem ks_X10_pass : Cond.selects RX10 yX10_pass yX10_pass ∈ lw_tbl := List.mem_of_getElem? (i := 488) (by decide +kernel)
theorem kc_X10_pass : Cond.code yX10_pass cX10_pass 2 (some .int) ∈ lw_tbl := List.mem_of_getElem? (i := 489) (by decide +kernel)
theorem kl_X10_140 : Cond.methodLink RX10 140 yX7_add ∈ lw_tbl := List.mem_of_getElem? (i := 490) (by decide +kernel)
theorem ki_X7_add : Cond.instanceMethod yX7_add ∈ lw_tbl := List.mem_of_getElem? (i := 491) (by decide +kernel)
theorem ks_X7_add : Cond.selects RX7 yX7_add yX7_add ∈ lw_tbl := List.mem_of_getElem? (i := 492) (by decide +kernel)
theorem kc_X7_add : Cond.code yX7_add cX7_add 2 none ∈ lw_tbl := List.mem_of_getElem? (i := 493) (by decide +kernel)
theorem kl_X7_28 : Cond.methodLink RX7 28 yX7_dropOldest ∈ lw_tbl := List.mem_of_getElem? (i := 494) (by decide +kernel)
theorem ki_X7_dropOldest : Cond.instanceMethod yX7_dropOldest ∈ lw_tbl := List.mem_of_getElem? (i := 496) (by decide +kernel)
theorem kc_X7_dropOldest : Cond.code yX7_dropOldest cX7_dropOldest 2 none ∈ lw_tbl := List.mem_of_getElem? (i := 497) (by decide +kernel)
theorem kl_X7_31 : Cond.methodLink RX7 31 yX8_takeFrom ∈ lw_tbl := List.mem_of_getElem? (i := 498) (by decide +kernel)
theorem ki_X8_takeFrom : Cond.instanceMethod yX8_takeFrom ∈ lw_tbl := List.mem_of_getElem? (i := 499) (by decide +kernel)
theorem ks_X8_takeFrom : Cond.selects RX8 yX8_takeFrom yX8_takeFrom ∈ lw_tbl := List.mem_of_getElem? (i := 500) (by decide +kernel)
theorem kc_X8_takeFrom : Cond.code yX8_takeFrom cX8_takeFrom 3 none ∈ lw_tbl := List.mem_of_getElem? (i := 501) (by decide +kernel)
theorem kl_X10_144 : Cond.methodLink RX10 144 yX8_passDays ∈ lw_tbl := List.mem_of_getElem? (i := 502) (by decide +kernel)
theorem ki_X8_passDays : Cond.instanceMethod yX8_passDays ∈ lw_tbl := List.mem_of_getElem? (i := 503) (by decide +kernel)
theorem ks_X8_passDays : Cond.selects RX8 yX8_passDays yX8_passDays ∈ lw_tbl := List.mem_of_getElem? (i := 504) (by decide +kernel)
theorem kc_X8_passDays : Cond.code yX8_passDays cX8_passDays 3 none ∈ lw_tbl := List.mem_of_getElem? (i := 505) (by decide +kernel)
theorem kl_X8_75 : Cond.methodLink RX8 75 yX8_passDay ∈ lw_tbl := List.mem_of_getElem? (i := 506) (by decide +kernel)
theorem ki_X8_passDay : Cond.instanceMethod yX8_passDay ∈ lw_tbl := List.mem_of_getElem? (i := 507) (by decide +kernel)
theorem ks_X8_passDay : Cond.selects RX8 yX8_passDay yX8_passDay ∈ lw_tbl := List.mem_of_getElem? (i := 508) (by decide +kernel)
theorem kc_X8_passDay : Cond.code yX8_passDay cX8_passDay 3 none ∈ lw_tbl := List.mem_of_getElem? (i := 509) (by decide +kernel)
theorem kl_X8_79 : Cond.methodLink RX8 79 yX8_learnAllTold ∈ lw_tbl := List.mem_of_getElem? (i := 510) (by decide +kernel)
theorem ki_X8_learnAllTold : Cond.instanceMethod yX8_learnAllTold ∈ lw_tbl := List.mem_of_getElem? (i := 512) (by decide +kernel)
theorem kc_X8_learnAllTold : Cond.code yX8_learnAllTold cX8_learnAllTold 3 none ∈ lw_tbl := List.mem_of_getElem? (i := 513) (by decide +kernel)
theorem kl_X8_100 : Cond.methodLink RX8 100 yX8_learn ∈ lw_tbl := List.mem_of_getElem? (i := 514) (by decide +kernel)
theorem ki_X8_learn : Cond.instanceMethod yX8_learn ∈ lw_tbl := List.mem_of_getElem? (i := 515) (by decide +kernel)
theorem ks_X8_learn : Cond.selects RX8 yX8_learn yX8_learn ∈ lw_tbl := List.mem_of_getElem? (i := 516) (by decide +kernel)
theorem kc_X8_learn : Cond.code yX8_learn cX8_learn 3 none ∈ lw_tbl := List.mem_of_getElem? (i := 517) (by decide +kernel)
theorem kl_X8_68 : Cond.methodLink RX8 68 yX8_canLearn ∈ lw_tbl := List.mem_of_getElem? (i := 518) (by decide +kernel)
theorem ki_X8_canLearn : Cond.instanceMethod yX8_canLearn ∈ lw_tbl := List.mem_of_getElem? (i := 519) (by decide +kernel)
theorem ks_X8_canLearn : Cond.selects RX8 yX8_canLearn yX8_canLearn ∈ lw_tbl := List.mem_of_getElem? (i := 520) (by decide +kernel)
theorem kc_X8_canLearn : Cond.code yX8_canLearn cX8_canLearn 3 (some .boolean) ∈ lw_tbl := List.mem_of_getElem? (i := 521) (by decide +kernel)
theorem kl_X8_72 : Cond.methodLink RX8 72 yX8_wrongWhenTaught ∈ lw_tbl := List.mem_of_getElem? (i := 522) (by decide +kernel)
theorem ki_X8_wrongWhenTaught : Cond.instanceMethod yX8_wrongWhenTaught ∈ lw_tbl := List.mem_of_getElem? (i := 524) (by decide +kernel)
theorem kc_X8_wrongWhenTaught : Cond.code yX8_wrongWhenTaught cX8_wrongWhenTaught 5 (some .int) ∈ lw_tbl := List.mem_of_getElem? (i := 525) (by decide +kernel)
theorem kl_X8_42 : Cond.methodLink RX8 42 yJ9_min_7cf53 ∈ lw_tbl := List.mem_of_getElem? (i := 526) (by decide +kernel)
theorem kt_J9_min_7cf53 : Cond.static yJ9_min_7cf53 ∈ lw_tbl := List.mem_of_getElem? (i := 527) (by decide +kernel)
theorem kc_J9_min_7cf53 : Cond.code yJ9_min_7cf53 cJ9_min_7cf53 2 (some .int) ∈ lw_tbl := List.mem_of_getElem? (i := 528) (by decide +kernel)
theorem kl_X8_58 : Cond.methodLink RX8 58 yX8_makeWrong ∈ lw_tbl := List.mem_of_getElem? (i := 529) (by decide +kernel)
theorem ki_X8_makeWrong : Cond.instanceMethod yX8_makeWrong ∈ lw_tbl := List.mem_of_getElem? (i := 530) (by decide +kernel)
theorem ks_X8_makeWrong : Cond.selects RX8 yX8_makeWrong yX8_makeWrong ∈ lw_tbl := List.mem_of_getElem? (i := 531) (by decide +kernel)
theorem kc_X8_makeWrong : Cond.code yX8_makeWrong cX8_makeWrong 3 none ∈ lw_tbl := List.mem_of_getElem? (i := 532) (by decide +kernel)
theorem kl_X8_48 : Cond.methodLink RX8 48 yJ9_max_7cf53 ∈ lw_tbl := List.mem_of_getElem? (i := 533) (by decide +kernel)
theorem kl_X8_82 : Cond.methodLink RX8 82 yX8_hearThroughWalls ∈ lw_tbl := List.mem_of_getElem? (i := 534) (by decide +kernel)
theorem ki_X8_hearThroughWalls : Cond.instanceMethod yX8_hearThroughWalls ∈ lw_tbl := List.mem_of_getElem? (i := 536) (by decide +kernel)
theorem kc_X8_hearThroughWalls : Cond.code yX8_hearThroughWalls cX8_hearThroughWalls 3 none ∈ lw_tbl := List.mem_of_getElem? (i := 537) (by decide +kernel)
theorem kl_X8_103 : Cond.methodLink RX8 103 yX4_hasWall ∈ lw_tbl := List.mem_of_getElem? (i := 538) (by decide +kernel)
theorem kl_X8_107 : Cond.methodLink RX8 107 yX8_drawNearer ∈ lw_tbl := List.mem_of_getElem? (i := 539) (by decide +kernel)
theorem ki_X8_drawNearer : Cond.instanceMethod yX8_drawNearer ∈ lw_tbl := List.mem_of_getElem? (i := 541) (by decide +kernel)
theorem kc_X8_drawNearer : Cond.code yX8_drawNearer cX8_drawNearer 6 none ∈ lw_tbl := List.mem_of_getElem? (i := 542) (by decide +kernel)
theorem kl_X8_110 : Cond.methodLink RX8 110 yX8_minutesApart ∈ lw_tbl := List.mem_of_getElem? (i := 543) (by decide +kernel)
theorem ki_X8_minutesApart : Cond.instanceMethod yX8_minutesApart ∈ lw_tbl := List.mem_of_getElem? (i := 544) (by decide +kernel)
theorem ks_X8_minutesApart : Cond.selects RX8 yX8_minutesApart yX8_minutesApart ∈ lw_tbl := List.mem_of_getElem? (i := 545) (by decide +kernel)
theorem kc_X8_minutesApart : Cond.code yX8_minutesApart cX8_minutesApart 3 (some .int) ∈ lw_tbl := List.mem_of_getElem? (i := 546) (by decide +kernel)
theorem kl_X8_113 : Cond.methodLink RX8 113 yJ9_abs_0f7a4 ∈ lw_tbl := List.mem_of_getElem? (i := 547) (by decide +kernel)
theorem kt_J9_abs_0f7a4 : Cond.static yJ9_abs_0f7a4 ∈ lw_tbl := List.mem_of_getElem? (i := 548) (by decide +kernel)
theorem kc_J9_abs_0f7a4 : Cond.code yJ9_abs_0f7a4 cJ9_abs_0f7a4 1 (some .int) ∈ lw_tbl := List.mem_of_getElem? (i := 549) (by decide +kernel)
theorem kl_X8_62 : Cond.methodLink RX8 62 yX8_gainOf ∈ lw_tbl := List.mem_of_getElem? (i := 550) (by decide +kernel)
theorem kl_L_48 : Cond.methodLink RL 48 yX10_teach ∈ lw_tbl := List.mem_of_getElem? (i := 551) (by decide +kernel)
theorem ki_X10_teach : Cond.instanceMethod yX10_teach ∈ lw_tbl := List.mem_of_getElem? (i := 552) (by decide +kernel)
theorem ks_X10_teach : Cond.selects RX10 yX10_teach yX10_teach ∈ lw_tbl := List.mem_of_getElem? (i := 553) (by decide +kernel)
theorem kc_X10_teach : Cond.code yX10_teach cX10_teach 3 (some .int) ∈ lw_tbl := List.mem_of_getElem? (i := 554) (by decide +kernel)
theorem kl_X10_150 : Cond.methodLink RX10 150 yX8_canLearn ∈ lw_tbl := List.mem_of_getElem? (i := 555) (by decide +kernel)
theorem kl_X10_153 : Cond.methodLink RX10 153 yX8_learn ∈ lw_tbl := List.mem_of_getElem? (i := 556) (by decide +kernel)
theorem kl_L_52 : Cond.methodLink RL 52 yX10_set ∈ lw_tbl := List.mem_of_getElem? (i := 557) (by decide +kernel)
theorem ki_X10_set : Cond.instanceMethod yX10_set ∈ lw_tbl := List.mem_of_getElem? (i := 558) (by decide +kernel)
theorem ks_X10_set : Cond.selects RX10 yX10_set yX10_set ∈ lw_tbl := List.mem_of_getElem? (i := 559) (by decide +kernel)
theorem kc_X10_set : Cond.code yX10_set cX10_set 3 (some .int) ∈ lw_tbl := List.mem_of_getElem? (i := 560) (by decide +kernel)
theorem kl_X10_157 : Cond.methodLink RX10 157 yX8_makeWrong ∈ lw_tbl := List.mem_of_getElem? (i := 561) (by decide +kernel)
theorem kl_L_56 : Cond.methodLink RL 56 yX10_oil ∈ lw_tbl := List.mem_of_getElem? (i := 562) (by decide +kernel)
theorem ki_X10_oil : Cond.instanceMethod yX10_oil ∈ lw_tbl := List.mem_of_getElem? (i := 563) (by decide +kernel)
theorem ks_X10_oil : Cond.selects RX10 yX10_oil yX10_oil ∈ lw_tbl := List.mem_of_getElem? (i := 564) (by decide +kernel)
theorem kc_X10_oil : Cond.code yX10_oil cX10_oil 2 (some .int) ∈ lw_tbl := List.mem_of_getElem? (i := 565) (by decide +kernel)
theorem kl_X10_160 : Cond.methodLink RX10 160 yX8_oilOnce ∈ lw_tbl := List.mem_of_getElem? (i := 566) (by decide +kernel)
theorem ki_X8_oilOnce : Cond.instanceMethod yX8_oilOnce ∈ lw_tbl := List.mem_of_getElem? (i := 567) (by decide +kernel)
theorem ks_X8_oilOnce : Cond.selects RX8 yX8_oilOnce yX8_oilOnce ∈ lw_tbl := List.mem_of_getElem? (i := 568) (by decide +kernel)
theorem kc_X8_oilOnce : Cond.code yX8_oilOnce cX8_oilOnce 3 none ∈ lw_tbl := List.mem_of_getElem? (i := 569) (by decide +kernel)
theorem kl_L_60 : Cond.methodLink RL 60 yX10_undo ∈ lw_tbl := List.mem_of_getElem? (i := 570) (by decide +kernel)
theorem ki_X10_undo : Cond.instanceMethod yX10_undo ∈ lw_tbl := List.mem_of_getElem? (i := 571) (by decide +kernel)
theorem ks_X10_undo : Cond.selects RX10 yX10_undo yX10_undo ∈ lw_tbl := List.mem_of_getElem? (i := 572) (by decide +kernel)
theorem kc_X10_undo : Cond.code yX10_undo cX10_undo 1 (some .int) ∈ lw_tbl := List.mem_of_getElem? (i := 573) (by decide +kernel)
theorem kl_X10_163 : Cond.methodLink RX10 163 yX7_takeLatest ∈ lw_tbl := List.mem_of_getElem? (i := 574) (by decide +kernel)
theorem ki_X7_takeLatest : Cond.instanceMethod yX7_takeLatest ∈ lw_tbl := List.mem_of_getElem? (i := 575) (by decide +kernel)
theorem ks_X7_takeLatest : Cond.selects RX7 yX7_takeLatest yX7_takeLatest ∈ lw_tbl := List.mem_of_getElem? (i := 576) (by decide +kernel)
theorem kc_X7_takeLatest : Cond.code yX7_takeLatest cX7_takeLatest 3 none ∈ lw_tbl := List.mem_of_getElem? (i := 577) (by decide +kernel)
theorem kl_L_64 : Cond.methodLink RL 64 yX10_behind ∈ lw_tbl := List.mem_of_getElem? (i := 578) (by decide +kernel)
theorem ki_X10_behind : Cond.instanceMethod yX10_behind ∈ lw_tbl := List.mem_of_getElem? (i := 579) (by decide +kernel)
theorem ks_X10_behind : Cond.selects RX10 yX10_behind yX10_behind ∈ lw_tbl := List.mem_of_getElem? (i := 580) (by decide +kernel)
theorem kc_X10_behind : Cond.code yX10_behind cX10_behind 3 (some .int) ∈ lw_tbl := List.mem_of_getElem? (i := 581) (by decide +kernel)
theorem kl_X10_166 : Cond.methodLink RX10 166 yX8_takeFrom ∈ lw_tbl := List.mem_of_getElem? (i := 582) (by decide +kernel)
theorem kl_L_68 : Cond.methodLink RL 68 yX10_right ∈ lw_tbl := List.mem_of_getElem? (i := 583) (by decide +kernel)
theorem ki_X10_right : Cond.instanceMethod yX10_right ∈ lw_tbl := List.mem_of_getElem? (i := 584) (by decide +kernel)
theorem ks_X10_right : Cond.selects RX10 yX10_right yX10_right ∈ lw_tbl := List.mem_of_getElem? (i := 585) (by decide +kernel)
theorem kc_X10_right : Cond.code yX10_right cX10_right 3 (some .int) ∈ lw_tbl := List.mem_of_getElem? (i := 586) (by decide +kernel)
theorem kl_X10_169 : Cond.methodLink RX10 169 yX3_seek ∈ lw_tbl := List.mem_of_getElem? (i := 587) (by decide +kernel)
theorem ki_X3_seek : Cond.instanceMethod yX3_seek ∈ lw_tbl := List.mem_of_getElem? (i := 588) (by decide +kernel)
theorem ks_X3_seek : Cond.selects RX3 yX3_seek yX3_seek ∈ lw_tbl := List.mem_of_getElem? (i := 589) (by decide +kernel)
theorem kc_X3_seek : Cond.code yX3_seek cX3_seek 3 none ∈ lw_tbl := List.mem_of_getElem? (i := 590) (by decide +kernel)
theorem kl_X3_21 : Cond.methodLink RX3 21 yX8_isWithin ∈ lw_tbl := List.mem_of_getElem? (i := 591) (by decide +kernel)
theorem ki_X8_isWithin : Cond.instanceMethod yX8_isWithin ∈ lw_tbl := List.mem_of_getElem? (i := 592) (by decide +kernel)
theorem ks_X8_isWithin : Cond.selects RX8 yX8_isWithin yX8_isWithin ∈ lw_tbl := List.mem_of_getElem? (i := 593) (by decide +kernel)
theorem kc_X8_isWithin : Cond.code yX8_isWithin cX8_isWithin 3 (some .boolean) ∈ lw_tbl := List.mem_of_getElem? (i := 594) (by decide +kernel)
theorem kl_X3_27 : Cond.methodLink RX3 27 yX3_oneLesson ∈ lw_tbl := List.mem_of_getElem? (i := 595) (by decide +kernel)
theorem kt_X3_oneLesson : Cond.static yX3_oneLesson ∈ lw_tbl := List.mem_of_getElem? (i := 596) (by decide +kernel)
theorem kc_X3_oneLesson : Cond.code yX3_oneLesson cX3_oneLesson 7 (some .int) ∈ lw_tbl := List.mem_of_getElem? (i := 597) (by decide +kernel)
theorem kl_X3_44 : Cond.methodLink RX3 44 yX8_wrongOf ∈ lw_tbl := List.mem_of_getElem? (i := 598) (by decide +kernel)
theorem kl_X3_48 : Cond.methodLink RX3 48 yX8_learn ∈ lw_tbl := List.mem_of_getElem? (i := 599) (by decide +kernel)
theorem kl_X3_52 : Cond.methodLink RX3 52 yX8_makeWrong ∈ lw_tbl := List.mem_of_getElem? (i := 600) (by decide +kernel)
theorem kt_X10_lessonNumber : Cond.static yX10_lessonNumber ∈ lw_tbl := List.mem_of_getElem? (i := 602) (by decide +kernel)
theorem kc_X10_lessonNumber : Cond.code yX10_lessonNumber cX10_lessonNumber 2 (some .int) ∈ lw_tbl := List.mem_of_getElem? (i := 603) (by decide +kernel)
theorem kl_X3_31 : Cond.methodLink RX3 31 yX3_seekTwo ∈ lw_tbl := List.mem_of_getElem? (i := 604) (by decide +kernel)
theorem ki_X3_seekTwo : Cond.instanceMethod yX3_seekTwo ∈ lw_tbl := List.mem_of_getElem? (i := 606) (by decide +kernel)
theorem kc_X3_seekTwo : Cond.code yX3_seekTwo cX3_seekTwo 7 none ∈ lw_tbl := List.mem_of_getElem? (i := 607) (by decide +kernel)
theorem kl_L_72 : Cond.methodLink RL 72 yX10_ring ∈ lw_tbl := List.mem_of_getElem? (i := 608) (by decide +kernel)
theorem ki_X10_ring : Cond.instanceMethod yX10_ring ∈ lw_tbl := List.mem_of_getElem? (i := 609) (by decide +kernel)
theorem ks_X10_ring : Cond.selects RX10 yX10_ring yX10_ring ∈ lw_tbl := List.mem_of_getElem? (i := 610) (by decide +kernel)
theorem kc_X10_ring : Cond.code yX10_ring cX10_ring 2 (some .int) ∈ lw_tbl := List.mem_of_getElem? (i := 611) (by decide +kernel)
theorem kl_X10_182 : Cond.methodLink RX10 182 yX0_seek ∈ lw_tbl := List.mem_of_getElem? (i := 612) (by decide +kernel)
theorem ki_X0_seek : Cond.instanceMethod yX0_seek ∈ lw_tbl := List.mem_of_getElem? (i := 613) (by decide +kernel)
theorem ks_X0_seek : Cond.selects RX0 yX0_seek yX0_seek ∈ lw_tbl := List.mem_of_getElem? (i := 614) (by decide +kernel)
theorem kc_X0_seek : Cond.code yX0_seek cX0_seek 6 none ∈ lw_tbl := List.mem_of_getElem? (i := 615) (by decide +kernel)
theorem kl_X0_41 : Cond.methodLink RX0 41 yX5_clear ∈ lw_tbl := List.mem_of_getElem? (i := 616) (by decide +kernel)
theorem ki_X5_clear : Cond.instanceMethod yX5_clear ∈ lw_tbl := List.mem_of_getElem? (i := 617) (by decide +kernel)
theorem ks_X5_clear : Cond.selects RX5 yX5_clear yX5_clear ∈ lw_tbl := List.mem_of_getElem? (i := 618) (by decide +kernel)
theorem kc_X5_clear : Cond.code yX5_clear cX5_clear 1 none ∈ lw_tbl := List.mem_of_getElem? (i := 619) (by decide +kernel)
theorem kl_X0_44 : Cond.methodLink RX0 44 yX2_clear ∈ lw_tbl := List.mem_of_getElem? (i := 620) (by decide +kernel)
theorem ki_X2_clear : Cond.instanceMethod yX2_clear ∈ lw_tbl := List.mem_of_getElem? (i := 621) (by decide +kernel)
theorem ks_X2_clear : Cond.selects RX2 yX2_clear yX2_clear ∈ lw_tbl := List.mem_of_getElem? (i := 622) (by decide +kernel)
theorem kc_X2_clear : Cond.code yX2_clear cX2_clear 1 none ∈ lw_tbl := List.mem_of_getElem? (i := 623) (by decide +kernel)
theorem kl_X0_45 : Cond.methodLink RX0 45 yX2_addBound ∈ lw_tbl := List.mem_of_getElem? (i := 624) (by decide +kernel)
theorem ki_X2_addBound : Cond.instanceMethod yX2_addBound ∈ lw_tbl := List.mem_of_getElem? (i := 625) (by decide +kernel)
theorem ks_X2_addBound : Cond.selects RX2 yX2_addBound yX2_addBound ∈ lw_tbl := List.mem_of_getElem? (i := 626) (by decide +kernel)
theorem kc_X2_addBound : Cond.code yX2_addBound cX2_addBound 2 none ∈ lw_tbl := List.mem_of_getElem? (i := 627) (by decide +kernel)
theorem kl_X0_49 : Cond.methodLink RX0 49 yX0_orderAsChosen ∈ lw_tbl := List.mem_of_getElem? (i := 629) (by decide +kernel)
theorem ki_X0_orderAsChosen : Cond.instanceMethod yX0_orderAsChosen ∈ lw_tbl := List.mem_of_getElem? (i := 631) (by decide +kernel)
theorem kc_X0_orderAsChosen : Cond.code yX0_orderAsChosen cX0_orderAsChosen 5 none ∈ lw_tbl := List.mem_of_getElem? (i := 632) (by decide +kernel)
theorem kl_X0_80 : Cond.methodLink RX0 80 yX2_choice ∈ lw_tbl := List.mem_of_getElem? (i := 634) (by decide +kernel)
theorem ki_X2_choice : Cond.instanceMethod yX2_choice ∈ lw_tbl := List.mem_of_getElem? (i := 635) (by decide +kernel)
theorem ks_X2_choice : Cond.selects RX2 yX2_choice yX2_choice ∈ lw_tbl := List.mem_of_getElem? (i := 636) (by decide +kernel)
theorem kc_X2_choice : Cond.code yX2_choice cX2_choice 2 (some .int) ∈ lw_tbl := List.mem_of_getElem? (i := 637) (by decide +kernel)
theorem kl_X0_84 : Cond.methodLink RX0 84 yX2_free ∈ lw_tbl := List.mem_of_getElem? (i := 639) (by decide +kernel)
theorem kt_X2_free : Cond.static yX2_free ∈ lw_tbl := List.mem_of_getElem? (i := 640) (by decide +kernel)
theorem kc_X2_free : Cond.code yX2_free cX2_free 4 (some .int) ∈ lw_tbl := List.mem_of_getElem? (i := 641) (by decide +kernel)
theorem kl_X0_52 : Cond.methodLink RX0 52 yX8_takeFrom ∈ lw_tbl := List.mem_of_getElem? (i := 642) (by decide +kernel)
theorem kl_X0_60 : Cond.methodLink RX0 60 yX8_learn ∈ lw_tbl := List.mem_of_getElem? (i := 644) (by decide +kernel)
theorem kl_X0_64 : Cond.methodLink RX0 64 yX8_wrongTogether ∈ lw_tbl := List.mem_of_getElem? (i := 645) (by decide +kernel)
theorem ki_X8_wrongTogether : Cond.instanceMethod yX8_wrongTogether ∈ lw_tbl := List.mem_of_getElem? (i := 646) (by decide +kernel)
theorem ks_X8_wrongTogether : Cond.selects RX8 yX8_wrongTogether yX8_wrongTogether ∈ lw_tbl := List.mem_of_getElem? (i := 647) (by decide +kernel)
theorem kc_X8_wrongTogether : Cond.code yX8_wrongTogether cX8_wrongTogether 3 (some .int) ∈ lw_tbl := List.mem_of_getElem? (i := 648) (by decide +kernel)
theorem kl_X0_68 : Cond.methodLink RX0 68 yX5_offer ∈ lw_tbl := List.mem_of_getElem? (i := 649) (by decide +kernel)
theorem ki_X5_offer : Cond.instanceMethod yX5_offer ∈ lw_tbl := List.mem_of_getElem? (i := 650) (by decide +kernel)
theorem ks_X5_offer : Cond.selects RX5 yX5_offer yX5_offer ∈ lw_tbl := List.mem_of_getElem? (i := 651) (by decide +kernel)
theorem kc_X5_offer : Cond.code yX5_offer cX5_offer 4 none ∈ lw_tbl := List.mem_of_getElem? (i := 652) (by decide +kernel)
theorem kl_X0_72 : Cond.methodLink RX0 72 yX2_advance ∈ lw_tbl := List.mem_of_getElem? (i := 655) (by decide +kernel)
theorem ki_X2_advance : Cond.instanceMethod yX2_advance ∈ lw_tbl := List.mem_of_getElem? (i := 656) (by decide +kernel)
theorem ks_X2_advance : Cond.selects RX2 yX2_advance yX2_advance ∈ lw_tbl := List.mem_of_getElem? (i := 657) (by decide +kernel)
theorem kc_X2_advance : Cond.code yX2_advance cX2_advance 2 (some .boolean) ∈ lw_tbl := List.mem_of_getElem? (i := 658) (by decide +kernel)
theorem kl_X2_30 : Cond.methodLink RX2 30 yX2_choice ∈ lw_tbl := List.mem_of_getElem? (i := 659) (by decide +kernel)
theorem kl_X10_194 : Cond.methodLink RX10 194 yX0_comesAt ∈ lw_tbl := List.mem_of_getElem? (i := 660) (by decide +kernel)
theorem ki_X0_comesAt : Cond.instanceMethod yX0_comesAt ∈ lw_tbl := List.mem_of_getElem? (i := 661) (by decide +kernel)
theorem ks_X0_comesAt : Cond.selects RX0 yX0_comesAt yX0_comesAt ∈ lw_tbl := List.mem_of_getElem? (i := 662) (by decide +kernel)
theorem kc_X0_comesAt : Cond.code yX0_comesAt cX0_comesAt 2 (some .int) ∈ lw_tbl := List.mem_of_getElem? (i := 663) (by decide +kernel)
theorem kl_L_76 : Cond.methodLink RL 76 yX10_dull ∈ lw_tbl := List.mem_of_getElem? (i := 664) (by decide +kernel)
theorem ki_X10_dull : Cond.instanceMethod yX10_dull ∈ lw_tbl := List.mem_of_getElem? (i := 665) (by decide +kernel)
theorem ks_X10_dull : Cond.selects RX10 yX10_dull yX10_dull ∈ lw_tbl := List.mem_of_getElem? (i := 666) (by decide +kernel)
theorem kc_X10_dull : Cond.code yX10_dull cX10_dull 3 (some .int) ∈ lw_tbl := List.mem_of_getElem? (i := 667) (by decide +kernel)
theorem kl_X10_197 : Cond.methodLink RX10 197 yX8_isDull ∈ lw_tbl := List.mem_of_getElem? (i := 668) (by decide +kernel)
theorem ki_X8_isDull : Cond.instanceMethod yX8_isDull ∈ lw_tbl := List.mem_of_getElem? (i := 669) (by decide +kernel)
theorem ks_X8_isDull : Cond.selects RX8 yX8_isDull yX8_isDull ∈ lw_tbl := List.mem_of_getElem? (i := 670) (by decide +kernel)
theorem kc_X8_isDull : Cond.code yX8_isDull cX8_isDull 4 (some .boolean) ∈ lw_tbl := List.mem_of_getElem? (i := 671) (by decide +kernel)
theorem kl_L_80 : Cond.methodLink RL 80 yX10_pairs ∈ lw_tbl := List.mem_of_getElem? (i := 672) (by decide +kernel)
theorem ki_X10_pairs : Cond.instanceMethod yX10_pairs ∈ lw_tbl := List.mem_of_getElem? (i := 673) (by decide +kernel)
theorem ks_X10_pairs : Cond.selects RX10 yX10_pairs yX10_pairs ∈ lw_tbl := List.mem_of_getElem? (i := 674) (by decide +kernel)
theorem kc_X10_pairs : Cond.code yX10_pairs cX10_pairs 2 (some .int) ∈ lw_tbl := List.mem_of_getElem? (i := 675) (by decide +kernel)
theorem kl_X10_200 : Cond.methodLink RX10 200 yX1_seek ∈ lw_tbl := List.mem_of_getElem? (i := 676) (by decide +kernel)
theorem ki_X1_seek : Cond.instanceMethod yX1_seek ∈ lw_tbl := List.mem_of_getElem? (i := 677) (by decide +kernel)
theorem ks_X1_seek : Cond.selects RX1 yX1_seek yX1_seek ∈ lw_tbl := List.mem_of_getElem? (i := 678) (by decide +kernel)
theorem kc_X1_seek : Cond.code yX1_seek cX1_seek 5 none ∈ lw_tbl := List.mem_of_getElem? (i := 679) (by decide +kernel)
theorem kl_X1_41 : Cond.methodLink RX1 41 yX5_clear ∈ lw_tbl := List.mem_of_getElem? (i := 680) (by decide +kernel)
theorem kl_X1_44 : Cond.methodLink RX1 44 yX2_clear ∈ lw_tbl := List.mem_of_getElem? (i := 681) (by decide +kernel)
theorem kl_X1_45 : Cond.methodLink RX1 45 yX2_addBound ∈ lw_tbl := List.mem_of_getElem? (i := 682) (by decide +kernel)
theorem kl_X1_49 : Cond.methodLink RX1 49 yX1_pairAsChosen ∈ lw_tbl := List.mem_of_getElem? (i := 683) (by decide +kernel)
theorem ki_X1_pairAsChosen : Cond.instanceMethod yX1_pairAsChosen ∈ lw_tbl := List.mem_of_getElem? (i := 685) (by decide +kernel)
theorem kc_X1_pairAsChosen : Cond.code yX1_pairAsChosen cX1_pairAsChosen 9 (some .int) ∈ lw_tbl := List.mem_of_getElem? (i := 686) (by decide +kernel)
theorem kl_X1_61 : Cond.methodLink RX1 61 yX2_free ∈ lw_tbl := List.mem_of_getElem? (i := 687) (by decide +kernel)
theorem kl_X1_65 : Cond.methodLink RX1 65 yX2_choice ∈ lw_tbl := List.mem_of_getElem? (i := 688) (by decide +kernel)
theorem kl_X1_73 : Cond.methodLink RX1 73 yX8_minutesApart ∈ lw_tbl := List.mem_of_getElem? (i := 690) (by decide +kernel)
theorem kl_X1_53 : Cond.methodLink RX1 53 yX5_offer ∈ lw_tbl := List.mem_of_getElem? (i := 691) (by decide +kernel)
theorem kl_X1_57 : Cond.methodLink RX1 57 yX2_advance ∈ lw_tbl := List.mem_of_getElem? (i := 692) (by decide +kernel)
theorem kl_X10_203 : Cond.methodLink RX10 203 yX1_mateOf ∈ lw_tbl := List.mem_of_getElem? (i := 693) (by decide +kernel)
theorem ki_X1_mateOf : Cond.instanceMethod yX1_mateOf ∈ lw_tbl := List.mem_of_getElem? (i := 694) (by decide +kernel)
theorem ks_X1_mateOf : Cond.selects RX1 yX1_mateOf yX1_mateOf ∈ lw_tbl := List.mem_of_getElem? (i := 695) (by decide +kernel)
theorem kc_X1_mateOf : Cond.code yX1_mateOf cX1_mateOf 2 (some .int) ∈ lw_tbl := List.mem_of_getElem? (i := 696) (by decide +kernel)
theorem kl_L_84 : Cond.methodLink RL 84 yX10_oils ∈ lw_tbl := List.mem_of_getElem? (i := 698) (by decide +kernel)
theorem ki_X10_oils : Cond.instanceMethod yX10_oils ∈ lw_tbl := List.mem_of_getElem? (i := 699) (by decide +kernel)
theorem ks_X10_oils : Cond.selects RX10 yX10_oils yX10_oils ∈ lw_tbl := List.mem_of_getElem? (i := 700) (by decide +kernel)
theorem kc_X10_oils : Cond.code yX10_oils cX10_oils 6 (some .int) ∈ lw_tbl := List.mem_of_getElem? (i := 701) (by decide +kernel)
theorem kl_X10_206 : Cond.methodLink RX10 206 yJ9_abs_0f7a4 ∈ lw_tbl := List.mem_of_getElem? (i := 702) (by decide +kernel)
theorem kl_L_89 : Cond.methodLink RL 89 yX10_hear ∈ lw_tbl := List.mem_of_getElem? (i := 703) (by decide +kernel)
theorem ki_X10_hear : Cond.instanceMethod yX10_hear ∈ lw_tbl := List.mem_of_getElem? (i := 704) (by decide +kernel)
theorem ks_X10_hear : Cond.selects RX10 yX10_hear yX10_hear ∈ lw_tbl := List.mem_of_getElem? (i := 705) (by decide +kernel)
theorem kc_X10_hear : Cond.code yX10_hear cX10_hear 3 (some .int) ∈ lw_tbl := List.mem_of_getElem? (i := 706) (by decide +kernel)
theorem kl_X10_211 : Cond.methodLink RX10 211 yX6_add ∈ lw_tbl := List.mem_of_getElem? (i := 707) (by decide +kernel)
theorem ki_X6_add : Cond.instanceMethod yX6_add ∈ lw_tbl := List.mem_of_getElem? (i := 708) (by decide +kernel)
theorem ks_X6_add : Cond.selects RX6 yX6_add yX6_add ∈ lw_tbl := List.mem_of_getElem? (i := 709) (by decide +kernel)
theorem kc_X6_add : Cond.code yX6_add cX6_add 3 none ∈ lw_tbl := List.mem_of_getElem? (i := 710) (by decide +kernel)
theorem kl_L_93 : Cond.methodLink RL 93 yX10_forget ∈ lw_tbl := List.mem_of_getElem? (i := 712) (by decide +kernel)
theorem ki_X10_forget : Cond.instanceMethod yX10_forget ∈ lw_tbl := List.mem_of_getElem? (i := 713) (by decide +kernel)
theorem ks_X10_forget : Cond.selects RX10 yX10_forget yX10_forget ∈ lw_tbl := List.mem_of_getElem? (i := 714) (by decide +kernel)
theorem kc_X10_forget : Cond.code yX10_forget cX10_forget 2 (some .int) ∈ lw_tbl := List.mem_of_getElem? (i := 715) (by decide +kernel)
theorem kl_L_97 : Cond.methodLink RL 97 yX10_taught ∈ lw_tbl := List.mem_of_getElem? (i := 716) (by decide +kernel)
theorem ki_X10_taught : Cond.instanceMethod yX10_taught ∈ lw_tbl := List.mem_of_getElem? (i := 717) (by decide +kernel)
theorem ks_X10_taught : Cond.selects RX10 yX10_taught yX10_taught ∈ lw_tbl := List.mem_of_getElem? (i := 718) (by decide +kernel)
theorem kc_X10_taught : Cond.code yX10_taught cX10_taught 6 (some .int) ∈ lw_tbl := List.mem_of_getElem? (i := 719) (by decide +kernel)
theorem kl_X10_213 : Cond.methodLink RX10 213 yX10_isHeardWhenTaught ∈ lw_tbl := List.mem_of_getElem? (i := 720) (by decide +kernel)
theorem ki_X10_isHeardWhenTaught : Cond.instanceMethod yX10_isHeardWhenTaught ∈ lw_tbl := List.mem_of_getElem? (i := 722) (by decide +kernel)
theorem kc_X10_isHeardWhenTaught : Cond.code yX10_isHeardWhenTaught cX10_isHeardWhenTaught 5 (some .boolean) ∈ lw_tbl := List.mem_of_getElem? (i := 723) (by decide +kernel)
theorem kl_X10_223 : Cond.methodLink RX10 223 yX6_fit ∈ lw_tbl := List.mem_of_getElem? (i := 724) (by decide +kernel)
theorem ki_X6_fit : Cond.instanceMethod yX6_fit ∈ lw_tbl := List.mem_of_getElem? (i := 725) (by decide +kernel)
theorem ks_X6_fit : Cond.selects RX6 yX6_fit yX6_fit ∈ lw_tbl := List.mem_of_getElem? (i := 726) (by decide +kernel)
theorem kc_X6_fit : Cond.code yX6_fit cX6_fit 3 (some .boolean) ∈ lw_tbl := List.mem_of_getElem? (i := 727) (by decide +kernel)
theorem kl_X6_30 : Cond.methodLink RX6 30 yX8_wrongOf ∈ lw_tbl := List.mem_of_getElem? (i := 729) (by decide +kernel)
theorem kl_X10_216 : Cond.methodLink RX10 216 yX10_lessonNumber ∈ lw_tbl := List.mem_of_getElem? (i := 730) (by decide +kernel)
theorem kl_L_101 : Cond.methodLink RL 101 yX10_setter ∈ lw_tbl := List.mem_of_getElem? (i := 731) (by decide +kernel)
theorem ki_X10_setter : Cond.instanceMethod yX10_setter ∈ lw_tbl := List.mem_of_getElem? (i := 732) (by decide +kernel)
theorem ks_X10_setter : Cond.selects RX10 yX10_setter yX10_setter ∈ lw_tbl := List.mem_of_getElem? (i := 733) (by decide +kernel)
theorem kc_X10_setter : Cond.code yX10_setter cX10_setter 5 (some .int) ∈ lw_tbl := List.mem_of_getElem? (i := 734) (by decide +kernel)
theorem kl_X10_220 : Cond.methodLink RX10 220 yX8_makeAllSeeingWrong ∈ lw_tbl := List.mem_of_getElem? (i := 735) (by decide +kernel)
theorem ki_X8_makeAllSeeingWrong : Cond.instanceMethod yX8_makeAllSeeingWrong ∈ lw_tbl := List.mem_of_getElem? (i := 736) (by decide +kernel)
theorem ks_X8_makeAllSeeingWrong : Cond.selects RX8 yX8_makeAllSeeingWrong yX8_makeAllSeeingWrong ∈ lw_tbl := List.mem_of_getElem? (i := 737) (by decide +kernel)
theorem kc_X8_makeAllSeeingWrong : Cond.code yX8_makeAllSeeingWrong cX8_makeAllSeeingWrong 3 none ∈ lw_tbl := List.mem_of_getElem? (i := 738) (by decide +kernel)
theorem kl_X8_54 : Cond.methodLink RX8 54 yX4_kindOf ∈ lw_tbl := List.mem_of_getElem? (i := 739) (by decide +kernel)
theorem kl_L_105 : Cond.methodLink RL 105 yX10_child ∈ lw_tbl := List.mem_of_getElem? (i := 740) (by decide +kernel)
theorem ki_X10_child : Cond.instanceMethod yX10_child ∈ lw_tbl := List.mem_of_getElem? (i := 741) (by decide +kernel)
theorem ks_X10_child : Cond.selects RX10 yX10_child yX10_child ∈ lw_tbl := List.mem_of_getElem? (i := 742) (by decide +kernel)
theorem kc_X10_child : Cond.code yX10_child cX10_child 6 (some .int) ∈ lw_tbl := List.mem_of_getElem? (i := 743) (by decide +kernel)
theorem kl_X10_227 : Cond.methodLink RX10 227 yX8_minutesApart ∈ lw_tbl := List.mem_of_getElem? (i := 744) (by decide +kernel)
theorem kl_L_109 : Cond.methodLink RL 109 yX10_draughts ∈ lw_tbl := List.mem_of_getElem? (i := 745) (by decide +kernel)
theorem ki_X10_draughts : Cond.instanceMethod yX10_draughts ∈ lw_tbl := List.mem_of_getElem? (i := 746) (by decide +kernel)
theorem ks_X10_draughts : Cond.selects RX10 yX10_draughts yX10_draughts ∈ lw_tbl := List.mem_of_getElem? (i := 747) (by decide +kernel)
theorem kc_X10_draughts : Cond.code yX10_draughts cX10_draughts 10 (some .int) ∈ lw_tbl := List.mem_of_getElem? (i := 748) (by decide +kernel)
theorem kl_X10_230 : Cond.methodLink RX10 230 yX8_passDay ∈ lw_tbl := List.mem_of_getElem? (i := 749) (by decide +kernel)
theorem kl_X10_234 : Cond.methodLink RX10 234 yX10_partInLowestTerms ∈ lw_tbl := List.mem_of_getElem? (i := 750) (by decide +kernel)
theorem kt_X10_partInLowestTerms : Cond.static yX10_partInLowestTerms ∈ lw_tbl := List.mem_of_getElem? (i := 751) (by decide +kernel)
theorem kc_X10_partInLowestTerms : Cond.code yX10_partInLowestTerms cX10_partInLowestTerms 5 (some .int) ∈ lw_tbl := List.mem_of_getElem? (i := 752) (by decide +kernel)
theorem kl_L_114 : Cond.methodLink RL 114 yX10_year ∈ lw_tbl := List.mem_of_getElem? (i := 753) (by decide +kernel)
theorem ki_X10_year : Cond.instanceMethod yX10_year ∈ lw_tbl := List.mem_of_getElem? (i := 754) (by decide +kernel)
theorem ks_X10_year : Cond.selects RX10 yX10_year yX10_year ∈ lw_tbl := List.mem_of_getElem? (i := 755) (by decide +kernel)
theorem kc_X10_year : Cond.code yX10_year cX10_year 9 (some .int) ∈ lw_tbl := List.mem_of_getElem? (i := 756) (by decide +kernel)
theorem kl_X10_238 : Cond.methodLink RX10 238 yX10_draw ∈ lw_tbl := List.mem_of_getElem? (i := 757) (by decide +kernel)
theorem kt_X10_draw : Cond.static yX10_draw ∈ lw_tbl := List.mem_of_getElem? (i := 758) (by decide +kernel)
theorem kc_X10_draw : Cond.code yX10_draw cX10_draw 4 (some .int) ∈ lw_tbl := List.mem_of_getElem? (i := 759) (by decide +kernel)
theorem kl_X10_248 : Cond.constantLong RX10 248 (7919 : Int64) ∈ lw_tbl := List.mem_of_getElem? (i := 760) (by decide +kernel)
theorem kl_X10_250 : Cond.constantLong RX10 250 (6151 : Int64) ∈ lw_tbl := List.mem_of_getElem? (i := 761) (by decide +kernel)
theorem kl_X10_252 : Cond.constantLong RX10 252 (65521 : Int64) ∈ lw_tbl := List.mem_of_getElem? (i := 762) (by decide +kernel)
theorem kl_X10_254 : Cond.constantLong RX10 254 (8 : Int64) ∈ lw_tbl := List.mem_of_getElem? (i := 763) (by decide +kernel)
theorem kl_X10_241 : Cond.methodLink RX10 241 yX8_rightOnes ∈ lw_tbl := List.mem_of_getElem? (i := 764) (by decide +kernel)
theorem ki_X8_rightOnes : Cond.instanceMethod yX8_rightOnes ∈ lw_tbl := List.mem_of_getElem? (i := 765) (by decide +kernel)
theorem ks_X8_rightOnes : Cond.selects RX8 yX8_rightOnes yX8_rightOnes ∈ lw_tbl := List.mem_of_getElem? (i := 766) (by decide +kernel)
theorem kc_X8_rightOnes : Cond.code yX8_rightOnes cX8_rightOnes 3 (some .int) ∈ lw_tbl := List.mem_of_getElem? (i := 767) (by decide +kernel)
theorem kl_L_118 : Cond.methodLink RL 118 yX10_keep ∈ lw_tbl := List.mem_of_getElem? (i := 768) (by decide +kernel)
theorem ki_X10_keep : Cond.instanceMethod yX10_keep ∈ lw_tbl := List.mem_of_getElem? (i := 769) (by decide +kernel)
theorem ks_X10_keep : Cond.selects RX10 yX10_keep yX10_keep ∈ lw_tbl := List.mem_of_getElem? (i := 770) (by decide +kernel)
theorem kc_X10_keep : Cond.code yX10_keep cX10_keep 1 (some .int) ∈ lw_tbl := List.mem_of_getElem? (i := 771) (by decide +kernel)
theorem kl_L_122 : Cond.methodLink RL 122 yX10_back ∈ lw_tbl := List.mem_of_getElem? (i := 772) (by decide +kernel)
theorem ki_X10_back : Cond.instanceMethod yX10_back ∈ lw_tbl := List.mem_of_getElem? (i := 773) (by decide +kernel)
theorem ks_X10_back : Cond.selects RX10 yX10_back yX10_back ∈ lw_tbl := List.mem_of_getElem? (i := 774) (by decide +kernel)
theorem kc_X10_back : Cond.code yX10_back cX10_back 1 (some .int) ∈ lw_tbl := List.mem_of_getElem? (i := 775) (by decide +kernel)
theorem kl_L_126 : Cond.methodLink RL 126 yX10_count ∈ lw_tbl := List.mem_of_getElem? (i := 776) (by decide +kernel)
theorem ki_X10_count : Cond.instanceMethod yX10_count ∈ lw_tbl := List.mem_of_getElem? (i := 777) (by decide +kernel)
theorem ks_X10_count : Cond.selects RX10 yX10_count yX10_count ∈ lw_tbl := List.mem_of_getElem? (i := 778) (by decide +kernel)
theorem kc_X10_count : Cond.code yX10_count cX10_count 2 (some .int) ∈ lw_tbl := List.mem_of_getElem? (i := 779) (by decide +kernel)
theorem kl_L_10 : Cond.classLink RL 10 RX11 ∈ lw_tbl := List.mem_of_getElem? (i := 780) (by decide +kernel)
theorem kq_X11 : Cond.instantiable RX11 31 ∈ lw_tbl := List.mem_of_getElem? (i := 781) (by decide +kernel)
theorem kl_L_12 : Cond.methodLink RL 12 yX11_init ∈ lw_tbl := List.mem_of_getElem? (i := 782) (by decide +kernel)
theorem ki_X11_init : Cond.instanceMethod yX11_init ∈ lw_tbl := List.mem_of_getElem? (i := 783) (by decide +kernel)
theorem kc_X11_init : Cond.code yX11_init cX11_init 1 none ∈ lw_tbl := List.mem_of_getElem? (i := 784) (by decide +kernel)
theorem kl_X11_1 : Cond.methodLink RX11 1 objectInit ∈ lw_tbl := List.mem_of_getElem? (i := 785) (by decide +kernel)
theorem kl_X11_70 : Cond.methodLink RX11 70 yX11_layClock ∈ lw_tbl := List.mem_of_getElem? (i := 786) (by decide +kernel)
theorem ki_X11_layClock : Cond.instanceMethod yX11_layClock ∈ lw_tbl := List.mem_of_getElem? (i := 788) (by decide +kernel)
theorem kc_X11_layClock : Cond.code yX11_layClock cX11_layClock 5 none ∈ lw_tbl := List.mem_of_getElem? (i := 789) (by decide +kernel)
theorem kl_X11_78 : Cond.methodLink RX11 78 yX11_layWall ∈ lw_tbl := List.mem_of_getElem? (i := 790) (by decide +kernel)
theorem ki_X11_layWall : Cond.instanceMethod yX11_layWall ∈ lw_tbl := List.mem_of_getElem? (i := 792) (by decide +kernel)
theorem kc_X11_layWall : Cond.code yX11_layWall cX11_layWall 3 none ∈ lw_tbl := List.mem_of_getElem? (i := 793) (by decide +kernel)
theorem kl_X11_82 : Cond.methodLink RX11 82 yX11_layLesson ∈ lw_tbl := List.mem_of_getElem? (i := 794) (by decide +kernel)
theorem ki_X11_layLesson : Cond.instanceMethod yX11_layLesson ∈ lw_tbl := List.mem_of_getElem? (i := 796) (by decide +kernel)
theorem kc_X11_layLesson : Cond.code yX11_layLesson cX11_layLesson 5 none ∈ lw_tbl := List.mem_of_getElem? (i := 797) (by decide +kernel)
theorem kl_X11_88 : Cond.methodLink RX11 88 yX11_layRead ∈ lw_tbl := List.mem_of_getElem? (i := 798) (by decide +kernel)
theorem ki_X11_layRead : Cond.instanceMethod yX11_layRead ∈ lw_tbl := List.mem_of_getElem? (i := 800) (by decide +kernel)
theorem kc_X11_layRead : Cond.code yX11_layRead cX11_layRead 2 none ∈ lw_tbl := List.mem_of_getElem? (i := 801) (by decide +kernel)
theorem kl_X11_98 : Cond.fieldLink RX11 98 RX11 "letters" "I" ∈ lw_tbl := List.mem_of_getElem? (i := 802) (by decide +kernel)
theorem kl_X11_7 : Cond.fieldLink RX11 7 RX11 "text" "[I" ∈ lw_tbl := List.mem_of_getElem? (i := 803) (by decide +kernel)
theorem kl_X11_101 : Cond.fieldLink RX11 101 RX11 "position" "I" ∈ lw_tbl := List.mem_of_getElem? (i := 804) (by decide +kernel)
theorem kl_X11_13 : Cond.fieldLink RX11 13 RX11 "numbers" "[I" ∈ lw_tbl := List.mem_of_getElem? (i := 805) (by decide +kernel)
theorem kl_X11_112 : Cond.fieldLink RX11 112 RX11 "faultAt" "I" ∈ lw_tbl := List.mem_of_getElem? (i := 806) (by decide +kernel)
theorem kl_X11_74 : Cond.fieldLink RX11 74 RX11 "readClocks" "I" ∈ lw_tbl := List.mem_of_getElem? (i := 807) (by decide +kernel)
theorem kl_X11_85 : Cond.fieldLink RX11 85 RX11 "readLessons" "I" ∈ lw_tbl := List.mem_of_getElem? (i := 808) (by decide +kernel)
theorem kl_X11_16 : Cond.fieldLink RX11 16 RX11 "readClock" "[I" ∈ lw_tbl := List.mem_of_getElem? (i := 809) (by decide +kernel)
theorem kl_X11_19 : Cond.fieldLink RX11 19 RX11 "readWall" "[I" ∈ lw_tbl := List.mem_of_getElem? (i := 810) (by decide +kernel)
theorem kl_X11_22 : Cond.fieldLink RX11 22 RX11 "readLesson" "[I" ∈ lw_tbl := List.mem_of_getElem? (i := 811) (by decide +kernel)
theorem kl_X11_91 : Cond.fieldLink RX11 91 RX11 "clocks" "I" ∈ lw_tbl := List.mem_of_getElem? (i := 812) (by decide +kernel)
theorem kl_X11_25 : Cond.fieldLink RX11 25 RX11 "kind" "[I" ∈ lw_tbl := List.mem_of_getElem? (i := 813) (by decide +kernel)
theorem kl_X11_28 : Cond.fieldLink RX11 28 RX11 "walls" "[I" ∈ lw_tbl := List.mem_of_getElem? (i := 814) (by decide +kernel)
theorem kl_X11_122 : Cond.fieldLink RX11 122 RX11 "lessons" "I" ∈ lw_tbl := List.mem_of_getElem? (i := 815) (by decide +kernel)
theorem kl_X11_31 : Cond.fieldLink RX11 31 RX11 "lesson" "[I" ∈ lw_tbl := List.mem_of_getElem? (i := 816) (by decide +kernel)
theorem kl_X11_34 : Cond.fieldLink RX11 34 RX11 "now" "[I" ∈ lw_tbl := List.mem_of_getElem? (i := 817) (by decide +kernel)
theorem kl_X11_37 : Cond.fieldLink RX11 37 RX11 "tried" "[I" ∈ lw_tbl := List.mem_of_getElem? (i := 818) (by decide +kernel)
theorem kl_X11_40 : Cond.fieldLink RX11 40 RX11 "second" "[I" ∈ lw_tbl := List.mem_of_getElem? (i := 819) (by decide +kernel)
theorem kl_X11_43 : Cond.fieldLink RX11 43 RX11 "backOf" "[I" ∈ lw_tbl := List.mem_of_getElem? (i := 820) (by decide +kernel)
theorem kl_X11_125 : Cond.fieldLink RX11 125 RX11 "backs" "I" ∈ lw_tbl := List.mem_of_getElem? (i := 821) (by decide +kernel)
theorem kl_X11_46 : Cond.fieldLink RX11 46 RX11 "image" "[I" ∈ lw_tbl := List.mem_of_getElem? (i := 822) (by decide +kernel)
theorem kl_X11_128 : Cond.fieldLink RX11 128 RX11 "keptMany" "I" ∈ lw_tbl := List.mem_of_getElem? (i := 823) (by decide +kernel)
theorem kl_X11_131 : Cond.fieldLink RX11 131 RX11 "sights" "I" ∈ lw_tbl := List.mem_of_getElem? (i := 824) (by decide +kernel)
theorem kl_X11_49 : Cond.fieldLink RX11 49 RX11 "sight" "[I" ∈ lw_tbl := List.mem_of_getElem? (i := 825) (by decide +kernel)
theorem kl_X11_52 : Cond.fieldLink RX11 52 RX11 "found" "[I" ∈ lw_tbl := List.mem_of_getElem? (i := 826) (by decide +kernel)
theorem kl_X11_176 : Cond.fieldLink RX11 176 RX11 "foundMany" "I" ∈ lw_tbl := List.mem_of_getElem? (i := 827) (by decide +kernel)
theorem kl_X11_55 : Cond.fieldLink RX11 55 RX11 "order" "[I" ∈ lw_tbl := List.mem_of_getElem? (i := 828) (by decide +kernel)
theorem kl_X11_58 : Cond.fieldLink RX11 58 RX11 "bestOrder" "[I" ∈ lw_tbl := List.mem_of_getElem? (i := 829) (by decide +kernel)
theorem kl_X11_61 : Cond.fieldLink RX11 61 RX11 "mate" "[I" ∈ lw_tbl := List.mem_of_getElem? (i := 830) (by decide +kernel)
theorem kl_X11_64 : Cond.fieldLink RX11 64 RX11 "bestMate" "[I" ∈ lw_tbl := List.mem_of_getElem? (i := 831) (by decide +kernel)
theorem kl_X11_67 : Cond.fieldLink RX11 67 RX11 "sorted" "[I" ∈ lw_tbl := List.mem_of_getElem? (i := 832) (by decide +kernel)
theorem kl_L_17 : Cond.methodLink RL 17 yX11_write ∈ lw_tbl := List.mem_of_getElem? (i := 896) (by decide +kernel)
theorem ki_X11_write : Cond.instanceMethod yX11_write ∈ lw_tbl := List.mem_of_getElem? (i := 897) (by decide +kernel)
theorem ks_X11_write : Cond.selects RX11 yX11_write yX11_write ∈ lw_tbl := List.mem_of_getElem? (i := 898) (by decide +kernel)
theorem kc_X11_write : Cond.code yX11_write cX11_write 2 (some .int) ∈ lw_tbl := List.mem_of_getElem? (i := 899) (by decide +kernel)
theorem kl_X11_94 : Cond.methodLink RX11 94 yX11_in ∈ lw_tbl := List.mem_of_getElem? (i := 900) (by decide +kernel)
theorem kt_X11_in : Cond.static yX11_in ∈ lw_tbl := List.mem_of_getElem? (i := 901) (by decide +kernel)
theorem kc_X11_in : Cond.code yX11_in cX11_in 3 (some .boolean) ∈ lw_tbl := List.mem_of_getElem? (i := 902) (by decide +kernel)
theorem kl_L_22 : Cond.methodLink RL 22 yX11_wipe ∈ lw_tbl := List.mem_of_getElem? (i := 903) (by decide +kernel)
theorem ki_X11_wipe : Cond.instanceMethod yX11_wipe ∈ lw_tbl := List.mem_of_getElem? (i := 904) (by decide +kernel)
theorem ks_X11_wipe : Cond.selects RX11 yX11_wipe yX11_wipe ∈ lw_tbl := List.mem_of_getElem? (i := 905) (by decide +kernel)
theorem kc_X11_wipe : Cond.code yX11_wipe cX11_wipe 2 (some .int) ∈ lw_tbl := List.mem_of_getElem? (i := 906) (by decide +kernel)
theorem kl_L_26 : Cond.methodLink RL 26 yX11_fault ∈ lw_tbl := List.mem_of_getElem? (i := 907) (by decide +kernel)
theorem ki_X11_fault : Cond.instanceMethod yX11_fault ∈ lw_tbl := List.mem_of_getElem? (i := 908) (by decide +kernel)
theorem ks_X11_fault : Cond.selects RX11 yX11_fault yX11_fault ∈ lw_tbl := List.mem_of_getElem? (i := 909) (by decide +kernel)
theorem kc_X11_fault : Cond.code yX11_fault cX11_fault 1 (some .int) ∈ lw_tbl := List.mem_of_getElem? (i := 910) (by decide +kernel)
theorem kl_X11_119 : Cond.methodLink RX11 119 yX11_isRead ∈ lw_tbl := List.mem_of_getElem? (i := 911) (by decide +kernel)
theorem ki_X11_isRead : Cond.instanceMethod yX11_isRead ∈ lw_tbl := List.mem_of_getElem? (i := 913) (by decide +kernel)
theorem kc_X11_isRead : Cond.code yX11_isRead cX11_isRead 1 (some .boolean) ∈ lw_tbl := List.mem_of_getElem? (i := 914) (by decide +kernel)
theorem kl_X11_115 : Cond.methodLink RX11 115 yX11_isItem ∈ lw_tbl := List.mem_of_getElem? (i := 915) (by decide +kernel)
theorem ki_X11_isItem : Cond.instanceMethod yX11_isItem ∈ lw_tbl := List.mem_of_getElem? (i := 917) (by decide +kernel)
theorem kc_X11_isItem : Cond.code yX11_isItem cX11_isItem 2 (some .boolean) ∈ lw_tbl := List.mem_of_getElem? (i := 918) (by decide +kernel)
theorem kl_X11_104 : Cond.methodLink RX11 104 yX11_letterAt ∈ lw_tbl := List.mem_of_getElem? (i := 919) (by decide +kernel)
theorem ki_X11_letterAt : Cond.instanceMethod yX11_letterAt ∈ lw_tbl := List.mem_of_getElem? (i := 921) (by decide +kernel)
theorem kc_X11_letterAt : Cond.code yX11_letterAt cX11_letterAt 2 (some .int) ∈ lw_tbl := List.mem_of_getElem? (i := 922) (by decide +kernel)
theorem kl_X11_108 : Cond.methodLink RX11 108 yX11_isRow ∈ lw_tbl := List.mem_of_getElem? (i := 923) (by decide +kernel)
theorem ki_X11_isRow : Cond.instanceMethod yX11_isRow ∈ lw_tbl := List.mem_of_getElem? (i := 925) (by decide +kernel)
theorem kc_X11_isRow : Cond.code yX11_isRow cX11_isRow 5 (some .boolean) ∈ lw_tbl := List.mem_of_getElem? (i := 926) (by decide +kernel)
theorem kl_L_30 : Cond.methodLink RL 30 yX11_lay ∈ lw_tbl := List.mem_of_getElem? (i := 927) (by decide +kernel)
theorem ki_X11_lay : Cond.instanceMethod yX11_lay ∈ lw_tbl := List.mem_of_getElem? (i := 928) (by decide +kernel)
theorem ks_X11_lay : Cond.selects RX11 yX11_lay yX11_lay ∈ lw_tbl := List.mem_of_getElem? (i := 929) (by decide +kernel)
theorem kc_X11_lay : Cond.code yX11_lay cX11_lay 1 (some .int) ∈ lw_tbl := List.mem_of_getElem? (i := 930) (by decide +kernel)
theorem kl_L_35 : Cond.methodLink RL 35 yX11_clock ∈ lw_tbl := List.mem_of_getElem? (i := 931) (by decide +kernel)
theorem ki_X11_clock : Cond.instanceMethod yX11_clock ∈ lw_tbl := List.mem_of_getElem? (i := 932) (by decide +kernel)
theorem ks_X11_clock : Cond.selects RX11 yX11_clock yX11_clock ∈ lw_tbl := List.mem_of_getElem? (i := 933) (by decide +kernel)
theorem kc_X11_clock : Cond.code yX11_clock cX11_clock 3 (some .int) ∈ lw_tbl := List.mem_of_getElem? (i := 934) (by decide +kernel)
theorem kl_X11_134 : Cond.methodLink RX11 134 yX11_isClock ∈ lw_tbl := List.mem_of_getElem? (i := 935) (by decide +kernel)
theorem ki_X11_isClock : Cond.instanceMethod yX11_isClock ∈ lw_tbl := List.mem_of_getElem? (i := 937) (by decide +kernel)
theorem kc_X11_isClock : Cond.code yX11_isClock cX11_isClock 2 (some .boolean) ∈ lw_tbl := List.mem_of_getElem? (i := 938) (by decide +kernel)
theorem kl_X11_137 : Cond.methodLink RX11 137 yX11_bits ∈ lw_tbl := List.mem_of_getElem? (i := 939) (by decide +kernel)
theorem kt_X11_bits : Cond.static yX11_bits ∈ lw_tbl := List.mem_of_getElem? (i := 940) (by decide +kernel)
theorem kc_X11_bits : Cond.code yX11_bits cX11_bits 3 (some .int) ∈ lw_tbl := List.mem_of_getElem? (i := 941) (by decide +kernel)
theorem kl_L_39 : Cond.methodLink RL 39 yX11_wall ∈ lw_tbl := List.mem_of_getElem? (i := 942) (by decide +kernel)
theorem ki_X11_wall : Cond.instanceMethod yX11_wall ∈ lw_tbl := List.mem_of_getElem? (i := 943) (by decide +kernel)
theorem ks_X11_wall : Cond.selects RX11 yX11_wall yX11_wall ∈ lw_tbl := List.mem_of_getElem? (i := 944) (by decide +kernel)
theorem kc_X11_wall : Cond.code yX11_wall cX11_wall 3 (some .int) ∈ lw_tbl := List.mem_of_getElem? (i := 945) (by decide +kernel)
theorem kl_L_43 : Cond.methodLink RL 43 yX11_noon ∈ lw_tbl := List.mem_of_getElem? (i := 946) (by decide +kernel)
theorem ki_X11_noon : Cond.instanceMethod yX11_noon ∈ lw_tbl := List.mem_of_getElem? (i := 947) (by decide +kernel)
theorem ks_X11_noon : Cond.selects RX11 yX11_noon yX11_noon ∈ lw_tbl := List.mem_of_getElem? (i := 948) (by decide +kernel)
theorem kc_X11_noon : Cond.code yX11_noon cX11_noon 1 (some .int) ∈ lw_tbl := List.mem_of_getElem? (i := 949) (by decide +kernel)
theorem kl_X11_140 : Cond.methodLink RX11 140 yX11_noonOf ∈ lw_tbl := List.mem_of_getElem? (i := 950) (by decide +kernel)
theorem ki_X11_noonOf : Cond.instanceMethod yX11_noonOf ∈ lw_tbl := List.mem_of_getElem? (i := 952) (by decide +kernel)
theorem kc_X11_noonOf : Cond.code yX11_noonOf cX11_noonOf 4 (some .int) ∈ lw_tbl := List.mem_of_getElem? (i := 953) (by decide +kernel)
theorem kl_L_47 : Cond.methodLink RL 47 yX11_pass ∈ lw_tbl := List.mem_of_getElem? (i := 954) (by decide +kernel)
theorem ki_X11_pass : Cond.instanceMethod yX11_pass ∈ lw_tbl := List.mem_of_getElem? (i := 955) (by decide +kernel)
theorem ks_X11_pass : Cond.selects RX11 yX11_pass yX11_pass ∈ lw_tbl := List.mem_of_getElem? (i := 956) (by decide +kernel)
theorem kc_X11_pass : Cond.code yX11_pass cX11_pass 3 (some .int) ∈ lw_tbl := List.mem_of_getElem? (i := 957) (by decide +kernel)
theorem kl_X11_169 : Cond.methodLink RX11 169 yX11_note ∈ lw_tbl := List.mem_of_getElem? (i := 958) (by decide +kernel)
theorem ki_X11_note : Cond.instanceMethod yX11_note ∈ lw_tbl := List.mem_of_getElem? (i := 960) (by decide +kernel)
theorem kc_X11_note : Cond.code yX11_note cX11_note 2 none ∈ lw_tbl := List.mem_of_getElem? (i := 961) (by decide +kernel)
theorem kl_X11_165 : Cond.methodLink RX11 165 yX11_copy ∈ lw_tbl := List.mem_of_getElem? (i := 962) (by decide +kernel)
theorem kt_X11_copy : Cond.static yX11_copy ∈ lw_tbl := List.mem_of_getElem? (i := 963) (by decide +kernel)
theorem kc_X11_copy : Cond.code yX11_copy cX11_copy 5 none ∈ lw_tbl := List.mem_of_getElem? (i := 964) (by decide +kernel)
theorem kl_X11_172 : Cond.methodLink RX11 172 yX11_passOn ∈ lw_tbl := List.mem_of_getElem? (i := 965) (by decide +kernel)
theorem ki_X11_passOn : Cond.instanceMethod yX11_passOn ∈ lw_tbl := List.mem_of_getElem? (i := 967) (by decide +kernel)
theorem kc_X11_passOn : Cond.code yX11_passOn cX11_passOn 5 none ∈ lw_tbl := List.mem_of_getElem? (i := 968) (by decide +kernel)
theorem kl_X11_154 : Cond.methodLink RX11 154 yX11_teachOn ∈ lw_tbl := List.mem_of_getElem? (i := 969) (by decide +kernel)
theorem ki_X11_teachOn : Cond.instanceMethod yX11_teachOn ∈ lw_tbl := List.mem_of_getElem? (i := 971) (by decide +kernel)
theorem kc_X11_teachOn : Cond.code yX11_teachOn cX11_teachOn 6 none ∈ lw_tbl := List.mem_of_getElem? (i := 972) (by decide +kernel)
theorem kl_X11_144 : Cond.methodLink RX11 144 yX11_isTaught ∈ lw_tbl := List.mem_of_getElem? (i := 973) (by decide +kernel)
theorem ki_X11_isTaught : Cond.instanceMethod yX11_isTaught ∈ lw_tbl := List.mem_of_getElem? (i := 975) (by decide +kernel)
theorem kc_X11_isTaught : Cond.code yX11_isTaught cX11_isTaught 3 (some .boolean) ∈ lw_tbl := List.mem_of_getElem? (i := 976) (by decide +kernel)
theorem kl_X11_148 : Cond.methodLink RX11 148 yX11_bound ∈ lw_tbl := List.mem_of_getElem? (i := 977) (by decide +kernel)
theorem kt_X11_bound : Cond.static yX11_bound ∈ lw_tbl := List.mem_of_getElem? (i := 978) (by decide +kernel)
theorem kc_X11_bound : Cond.code yX11_bound cX11_bound 1 (some .int) ∈ lw_tbl := List.mem_of_getElem? (i := 979) (by decide +kernel)
theorem kl_X11_158 : Cond.methodLink RX11 158 yX11_has ∈ lw_tbl := List.mem_of_getElem? (i := 980) (by decide +kernel)
theorem kt_X11_has : Cond.static yX11_has ∈ lw_tbl := List.mem_of_getElem? (i := 981) (by decide +kernel)
theorem kc_X11_has : Cond.code yX11_has cX11_has 2 (some .boolean) ∈ lw_tbl := List.mem_of_getElem? (i := 982) (by decide +kernel)
theorem kl_X11_162 : Cond.methodLink RX11 162 yX11_hearOn ∈ lw_tbl := List.mem_of_getElem? (i := 983) (by decide +kernel)
theorem ki_X11_hearOn : Cond.instanceMethod yX11_hearOn ∈ lw_tbl := List.mem_of_getElem? (i := 985) (by decide +kernel)
theorem kc_X11_hearOn : Cond.code yX11_hearOn cX11_hearOn 7 none ∈ lw_tbl := List.mem_of_getElem? (i := 986) (by decide +kernel)
theorem kl_X11_151 : Cond.methodLink RX11 151 yX11_far ∈ lw_tbl := List.mem_of_getElem? (i := 987) (by decide +kernel)
theorem kt_X11_far : Cond.static yX11_far ∈ lw_tbl := List.mem_of_getElem? (i := 988) (by decide +kernel)
theorem kc_X11_far : Cond.code yX11_far cX11_far 1 (some .int) ∈ lw_tbl := List.mem_of_getElem? (i := 989) (by decide +kernel)
theorem kl_L_51 : Cond.methodLink RL 51 yX11_teach ∈ lw_tbl := List.mem_of_getElem? (i := 990) (by decide +kernel)
theorem ki_X11_teach : Cond.instanceMethod yX11_teach ∈ lw_tbl := List.mem_of_getElem? (i := 991) (by decide +kernel)
theorem ks_X11_teach : Cond.selects RX11 yX11_teach yX11_teach ∈ lw_tbl := List.mem_of_getElem? (i := 992) (by decide +kernel)
theorem kc_X11_teach : Cond.code yX11_teach cX11_teach 3 (some .int) ∈ lw_tbl := List.mem_of_getElem? (i := 993) (by decide +kernel)
theorem kl_L_55 : Cond.methodLink RL 55 yX11_set ∈ lw_tbl := List.mem_of_getElem? (i := 994) (by decide +kernel)
theorem ki_X11_set : Cond.instanceMethod yX11_set ∈ lw_tbl := List.mem_of_getElem? (i := 995) (by decide +kernel)
theorem ks_X11_set : Cond.selects RX11 yX11_set yX11_set ∈ lw_tbl := List.mem_of_getElem? (i := 996) (by decide +kernel)
theorem kc_X11_set : Cond.code yX11_set cX11_set 3 (some .int) ∈ lw_tbl := List.mem_of_getElem? (i := 997) (by decide +kernel)
theorem kl_L_59 : Cond.methodLink RL 59 yX11_oil ∈ lw_tbl := List.mem_of_getElem? (i := 998) (by decide +kernel)
theorem ki_X11_oil : Cond.instanceMethod yX11_oil ∈ lw_tbl := List.mem_of_getElem? (i := 999) (by decide +kernel)
theorem ks_X11_oil : Cond.selects RX11 yX11_oil yX11_oil ∈ lw_tbl := List.mem_of_getElem? (i := 1000) (by decide +kernel)
theorem kc_X11_oil : Cond.code yX11_oil cX11_oil 2 (some .int) ∈ lw_tbl := List.mem_of_getElem? (i := 1001) (by decide +kernel)
theorem kl_L_63 : Cond.methodLink RL 63 yX11_undo ∈ lw_tbl := List.mem_of_getElem? (i := 1002) (by decide +kernel)
theorem ki_X11_undo : Cond.instanceMethod yX11_undo ∈ lw_tbl := List.mem_of_getElem? (i := 1003) (by decide +kernel)
theorem ks_X11_undo : Cond.selects RX11 yX11_undo yX11_undo ∈ lw_tbl := List.mem_of_getElem? (i := 1004) (by decide +kernel)
theorem kc_X11_undo : Cond.code yX11_undo cX11_undo 1 (some .int) ∈ lw_tbl := List.mem_of_getElem? (i := 1005) (by decide +kernel)
theorem kl_L_67 : Cond.methodLink RL 67 yX11_behind ∈ lw_tbl := List.mem_of_getElem? (i := 1006) (by decide +kernel)
theorem ki_X11_behind : Cond.instanceMethod yX11_behind ∈ lw_tbl := List.mem_of_getElem? (i := 1007) (by decide +kernel)
theorem ks_X11_behind : Cond.selects RX11 yX11_behind yX11_behind ∈ lw_tbl := List.mem_of_getElem? (i := 1008) (by decide +kernel)
theorem kc_X11_behind : Cond.code yX11_behind cX11_behind 4 (some .int) ∈ lw_tbl := List.mem_of_getElem? (i := 1009) (by decide +kernel)
theorem kl_L_71 : Cond.methodLink RL 71 yX11_right ∈ lw_tbl := List.mem_of_getElem? (i := 1010) (by decide +kernel)
theorem ki_X11_right : Cond.instanceMethod yX11_right ∈ lw_tbl := List.mem_of_getElem? (i := 1011) (by decide +kernel)
theorem ks_X11_right : Cond.selects RX11 yX11_right yX11_right ∈ lw_tbl := List.mem_of_getElem? (i := 1012) (by decide +kernel)
theorem kc_X11_right : Cond.code yX11_right cX11_right 3 (some .int) ∈ lw_tbl := List.mem_of_getElem? (i := 1013) (by decide +kernel)
theorem kl_X11_185 : Cond.methodLink RX11 185 yX11_layRight ∈ lw_tbl := List.mem_of_getElem? (i := 1014) (by decide +kernel)
theorem ki_X11_layRight : Cond.instanceMethod yX11_layRight ∈ lw_tbl := List.mem_of_getElem? (i := 1016) (by decide +kernel)
theorem kc_X11_layRight : Cond.code yX11_layRight cX11_layRight 4 none ∈ lw_tbl := List.mem_of_getElem? (i := 1017) (by decide +kernel)
theorem kl_X11_179 : Cond.methodLink RX11 179 yX11_areRight ∈ lw_tbl := List.mem_of_getElem? (i := 1018) (by decide +kernel)
theorem ki_X11_areRight : Cond.instanceMethod yX11_areRight ∈ lw_tbl := List.mem_of_getElem? (i := 1020) (by decide +kernel)
theorem kc_X11_areRight : Cond.code yX11_areRight cX11_areRight 5 (some .boolean) ∈ lw_tbl := List.mem_of_getElem? (i := 1021) (by decide +kernel)
theorem kl_X11_182 : Cond.methodLink RX11 182 yX11_teaches ∈ lw_tbl := List.mem_of_getElem? (i := 1022) (by decide +kernel)
theorem ki_X11_teaches : Cond.instanceMethod yX11_teaches ∈ lw_tbl := List.mem_of_getElem? (i := 1024) (by decide +kernel)
theorem kc_X11_teaches : Cond.code yX11_teaches cX11_teaches 5 (some .boolean) ∈ lw_tbl := List.mem_of_getElem? (i := 1025) (by decide +kernel)
theorem kl_L_75 : Cond.methodLink RL 75 yX11_ring ∈ lw_tbl := List.mem_of_getElem? (i := 1026) (by decide +kernel)
theorem ki_X11_ring : Cond.instanceMethod yX11_ring ∈ lw_tbl := List.mem_of_getElem? (i := 1027) (by decide +kernel)
theorem ks_X11_ring : Cond.selects RX11 yX11_ring yX11_ring ∈ lw_tbl := List.mem_of_getElem? (i := 1028) (by decide +kernel)
theorem kc_X11_ring : Cond.code yX11_ring cX11_ring 7 (some .int) ∈ lw_tbl := List.mem_of_getElem? (i := 1029) (by decide +kernel)
theorem kl_X11_189 : Cond.methodLink RX11 189 yX11_layOrder ∈ lw_tbl := List.mem_of_getElem? (i := 1030) (by decide +kernel)
theorem ki_X11_layOrder : Cond.instanceMethod yX11_layOrder ∈ lw_tbl := List.mem_of_getElem? (i := 1032) (by decide +kernel)
theorem kc_X11_layOrder : Cond.code yX11_layOrder cX11_layOrder 8 none ∈ lw_tbl := List.mem_of_getElem? (i := 1033) (by decide +kernel)
theorem kl_X11_192 : Cond.methodLink RX11 192 yX11_allWrong ∈ lw_tbl := List.mem_of_getElem? (i := 1034) (by decide +kernel)
theorem ki_X11_allWrong : Cond.instanceMethod yX11_allWrong ∈ lw_tbl := List.mem_of_getElem? (i := 1036) (by decide +kernel)
theorem kc_X11_allWrong : Cond.code yX11_allWrong cX11_allWrong 4 (some .int) ∈ lw_tbl := List.mem_of_getElem? (i := 1037) (by decide +kernel)
theorem kl_L_79 : Cond.methodLink RL 79 yX11_dull ∈ lw_tbl := List.mem_of_getElem? (i := 1038) (by decide +kernel)
theorem ki_X11_dull : Cond.instanceMethod yX11_dull ∈ lw_tbl := List.mem_of_getElem? (i := 1039) (by decide +kernel)
theorem ks_X11_dull : Cond.selects RX11 yX11_dull yX11_dull ∈ lw_tbl := List.mem_of_getElem? (i := 1040) (by decide +kernel)
theorem kc_X11_dull : Cond.code yX11_dull cX11_dull 5 (some .int) ∈ lw_tbl := List.mem_of_getElem? (i := 1041) (by decide +kernel)
theorem kl_L_83 : Cond.methodLink RL 83 yX11_pairs ∈ lw_tbl := List.mem_of_getElem? (i := 1042) (by decide +kernel)
theorem ki_X11_pairs : Cond.instanceMethod yX11_pairs ∈ lw_tbl := List.mem_of_getElem? (i := 1043) (by decide +kernel)
theorem ks_X11_pairs : Cond.selects RX11 yX11_pairs yX11_pairs ∈ lw_tbl := List.mem_of_getElem? (i := 1044) (by decide +kernel)
theorem kc_X11_pairs : Cond.code yX11_pairs cX11_pairs 3 (some .int) ∈ lw_tbl := List.mem_of_getElem? (i := 1045) (by decide +kernel)
theorem kl_X11_195 : Cond.methodLink RX11 195 yX11_layPairs ∈ lw_tbl := List.mem_of_getElem? (i := 1046) (by decide +kernel)
theorem ki_X11_layPairs : Cond.instanceMethod yX11_layPairs ∈ lw_tbl := List.mem_of_getElem? (i := 1048) (by decide +kernel)
theorem kc_X11_layPairs : Cond.code yX11_layPairs cX11_layPairs 15 (some .int) ∈ lw_tbl := List.mem_of_getElem? (i := 1049) (by decide +kernel)
theorem kl_L_88 : Cond.methodLink RL 88 yX11_oils ∈ lw_tbl := List.mem_of_getElem? (i := 1050) (by decide +kernel)
theorem ki_X11_oils : Cond.instanceMethod yX11_oils ∈ lw_tbl := List.mem_of_getElem? (i := 1051) (by decide +kernel)
theorem ks_X11_oils : Cond.selects RX11 yX11_oils yX11_oils ∈ lw_tbl := List.mem_of_getElem? (i := 1052) (by decide +kernel)
theorem kc_X11_oils : Cond.code yX11_oils cX11_oils 7 (some .int) ∈ lw_tbl := List.mem_of_getElem? (i := 1053) (by decide +kernel)
theorem kl_L_92 : Cond.methodLink RL 92 yX11_hear ∈ lw_tbl := List.mem_of_getElem? (i := 1054) (by decide +kernel)
theorem ki_X11_hear : Cond.instanceMethod yX11_hear ∈ lw_tbl := List.mem_of_getElem? (i := 1055) (by decide +kernel)
theorem ks_X11_hear : Cond.selects RX11 yX11_hear yX11_hear ∈ lw_tbl := List.mem_of_getElem? (i := 1056) (by decide +kernel)
theorem kc_X11_hear : Cond.code yX11_hear cX11_hear 3 (some .int) ∈ lw_tbl := List.mem_of_getElem? (i := 1057) (by decide +kernel)
theorem kl_L_96 : Cond.methodLink RL 96 yX11_forget ∈ lw_tbl := List.mem_of_getElem? (i := 1058) (by decide +kernel)
theorem ki_X11_forget : Cond.instanceMethod yX11_forget ∈ lw_tbl := List.mem_of_getElem? (i := 1059) (by decide +kernel)
theorem ks_X11_forget : Cond.selects RX11 yX11_forget yX11_forget ∈ lw_tbl := List.mem_of_getElem? (i := 1060) (by decide +kernel)
theorem kc_X11_forget : Cond.code yX11_forget cX11_forget 2 (some .int) ∈ lw_tbl := List.mem_of_getElem? (i := 1061) (by decide +kernel)
theorem kl_L_100 : Cond.methodLink RL 100 yX11_taught ∈ lw_tbl := List.mem_of_getElem? (i := 1062) (by decide +kernel)
theorem ki_X11_taught : Cond.instanceMethod yX11_taught ∈ lw_tbl := List.mem_of_getElem? (i := 1063) (by decide +kernel)
theorem ks_X11_taught : Cond.selects RX11 yX11_taught yX11_taught ∈ lw_tbl := List.mem_of_getElem? (i := 1064) (by decide +kernel)
theorem kc_X11_taught : Cond.code yX11_taught cX11_taught 5 (some .int) ∈ lw_tbl := List.mem_of_getElem? (i := 1065) (by decide +kernel)
theorem kl_X11_199 : Cond.methodLink RX11 199 yX11_isSo ∈ lw_tbl := List.mem_of_getElem? (i := 1066) (by decide +kernel)
theorem ki_X11_isSo : Cond.instanceMethod yX11_isSo ∈ lw_tbl := List.mem_of_getElem? (i := 1068) (by decide +kernel)
theorem kc_X11_isSo : Cond.code yX11_isSo cX11_isSo 4 (some .boolean) ∈ lw_tbl := List.mem_of_getElem? (i := 1069) (by decide +kernel)
theorem kl_L_104 : Cond.methodLink RL 104 yX11_setter ∈ lw_tbl := List.mem_of_getElem? (i := 1070) (by decide +kernel)
theorem ki_X11_setter : Cond.instanceMethod yX11_setter ∈ lw_tbl := List.mem_of_getElem? (i := 1071) (by decide +kernel)
theorem ks_X11_setter : Cond.selects RX11 yX11_setter yX11_setter ∈ lw_tbl := List.mem_of_getElem? (i := 1072) (by decide +kernel)
theorem kc_X11_setter : Cond.code yX11_setter cX11_setter 6 (some .int) ∈ lw_tbl := List.mem_of_getElem? (i := 1073) (by decide +kernel)
theorem kl_L_108 : Cond.methodLink RL 108 yX11_child ∈ lw_tbl := List.mem_of_getElem? (i := 1074) (by decide +kernel)
theorem ki_X11_child : Cond.instanceMethod yX11_child ∈ lw_tbl := List.mem_of_getElem? (i := 1075) (by decide +kernel)
theorem ks_X11_child : Cond.selects RX11 yX11_child yX11_child ∈ lw_tbl := List.mem_of_getElem? (i := 1076) (by decide +kernel)
theorem kc_X11_child : Cond.code yX11_child cX11_child 6 (some .int) ∈ lw_tbl := List.mem_of_getElem? (i := 1077) (by decide +kernel)
theorem kl_L_113 : Cond.methodLink RL 113 yX11_draughts ∈ lw_tbl := List.mem_of_getElem? (i := 1078) (by decide +kernel)
theorem ki_X11_draughts : Cond.instanceMethod yX11_draughts ∈ lw_tbl := List.mem_of_getElem? (i := 1079) (by decide +kernel)
theorem ks_X11_draughts : Cond.selects RX11 yX11_draughts yX11_draughts ∈ lw_tbl := List.mem_of_getElem? (i := 1080) (by decide +kernel)
theorem kc_X11_draughts : Cond.code yX11_draughts cX11_draughts 10 (some .int) ∈ lw_tbl := List.mem_of_getElem? (i := 1081) (by decide +kernel)
theorem kl_L_117 : Cond.methodLink RL 117 yX11_year ∈ lw_tbl := List.mem_of_getElem? (i := 1082) (by decide +kernel)
theorem ki_X11_year : Cond.instanceMethod yX11_year ∈ lw_tbl := List.mem_of_getElem? (i := 1083) (by decide +kernel)
theorem ks_X11_year : Cond.selects RX11 yX11_year yX11_year ∈ lw_tbl := List.mem_of_getElem? (i := 1084) (by decide +kernel)
theorem kc_X11_year : Cond.code yX11_year cX11_year 8 (some .int) ∈ lw_tbl := List.mem_of_getElem? (i := 1085) (by decide +kernel)
theorem kl_X11_203 : Cond.constantLong RX11 203 (7919 : Int64) ∈ lw_tbl := List.mem_of_getElem? (i := 1086) (by decide +kernel)
theorem kl_X11_205 : Cond.constantLong RX11 205 (6151 : Int64) ∈ lw_tbl := List.mem_of_getElem? (i := 1087) (by decide +kernel)
theorem kl_X11_207 : Cond.constantLong RX11 207 (65521 : Int64) ∈ lw_tbl := List.mem_of_getElem? (i := 1088) (by decide +kernel)
theorem kl_X11_209 : Cond.constantLong RX11 209 (8 : Int64) ∈ lw_tbl := List.mem_of_getElem? (i := 1089) (by decide +kernel)
theorem kl_X11_211 : Cond.methodLink RX11 211 yX11_rightOf ∈ lw_tbl := List.mem_of_getElem? (i := 1090) (by decide +kernel)
theorem ki_X11_rightOf : Cond.instanceMethod yX11_rightOf ∈ lw_tbl := List.mem_of_getElem? (i := 1092) (by decide +kernel)
theorem kc_X11_rightOf : Cond.code yX11_rightOf cX11_rightOf 4 (some .int) ∈ lw_tbl := List.mem_of_getElem? (i := 1093) (by decide +kernel)
theorem kl_L_121 : Cond.methodLink RL 121 yX11_keep ∈ lw_tbl := List.mem_of_getElem? (i := 1094) (by decide +kernel)
theorem ki_X11_keep : Cond.instanceMethod yX11_keep ∈ lw_tbl := List.mem_of_getElem? (i := 1095) (by decide +kernel)
theorem ks_X11_keep : Cond.selects RX11 yX11_keep yX11_keep ∈ lw_tbl := List.mem_of_getElem? (i := 1096) (by decide +kernel)
theorem kc_X11_keep : Cond.code yX11_keep cX11_keep 1 (some .int) ∈ lw_tbl := List.mem_of_getElem? (i := 1097) (by decide +kernel)
theorem kl_L_125 : Cond.methodLink RL 125 yX11_back ∈ lw_tbl := List.mem_of_getElem? (i := 1098) (by decide +kernel)
theorem ki_X11_back : Cond.instanceMethod yX11_back ∈ lw_tbl := List.mem_of_getElem? (i := 1099) (by decide +kernel)
theorem ks_X11_back : Cond.selects RX11 yX11_back yX11_back ∈ lw_tbl := List.mem_of_getElem? (i := 1100) (by decide +kernel)
theorem kc_X11_back : Cond.code yX11_back cX11_back 1 (some .int) ∈ lw_tbl := List.mem_of_getElem? (i := 1101) (by decide +kernel)
theorem kl_L_129 : Cond.methodLink RL 129 yX11_count ∈ lw_tbl := List.mem_of_getElem? (i := 1102) (by decide +kernel)
theorem ki_X11_count : Cond.instanceMethod yX11_count ∈ lw_tbl := List.mem_of_getElem? (i := 1103) (by decide +kernel)
theorem ks_X11_count : Cond.selects RX11 yX11_count yX11_count ∈ lw_tbl := List.mem_of_getElem? (i := 1104) (by decide +kernel)
theorem kc_X11_count : Cond.code yX11_count cX11_count 4 (some .int) ∈ lw_tbl := List.mem_of_getElem? (i := 1105) (by decide +kernel)
theorem kl_J0_9 : Cond.fieldLink RJ0 9 RJ0 "value" "[B" ∈ lw_tbl := List.mem_of_getElem? (i := 1106) (by decide +kernel)
theorem kl_J0_15 : Cond.fieldLink RJ0 15 RJ0 "coder" "B" ∈ lw_tbl := List.mem_of_getElem? (i := 1107) (by decide +kernel)
theorem ks_X4_readNumbers : Cond.selects RX4 yX4_readNumbers yX4_readNumbers ∈ lw_tbl := List.mem_of_getElem? (i := 0) (by decide +kernel)
theorem ks_X4_takeItem : Cond.selects RX4 yX4_takeItem yX4_takeItem ∈ lw_tbl := List.mem_of_getElem? (i := 1) (by decide +kernel)
theorem ks_X4_takeClock : Cond.selects RX4 yX4_takeClock yX4_takeClock ∈ lw_tbl := List.mem_of_getElem? (i := 2) (by decide +kernel)
theorem ks_X4_takeWall : Cond.selects RX4 yX4_takeWall yX4_takeWall ∈ lw_tbl := List.mem_of_getElem? (i := 3) (by decide +kernel)
theorem ks_X4_takeLesson : Cond.selects RX4 yX4_takeLesson yX4_takeLesson ∈ lw_tbl := List.mem_of_getElem? (i := 4) (by decide +kernel)
theorem ks_X7_dropOldest : Cond.selects RX7 yX7_dropOldest yX7_dropOldest ∈ lw_tbl := List.mem_of_getElem? (i := 5) (by decide +kernel)
theorem ks_X8_learnAllTold : Cond.selects RX8 yX8_learnAllTold yX8_learnAllTold ∈ lw_tbl := List.mem_of_getElem? (i := 6) (by decide +kernel)
theorem ks_X8_wrongWhenTaught : Cond.selects RX8 yX8_wrongWhenTaught yX8_wrongWhenTaught ∈ lw_tbl := List.mem_of_getElem? (i := 7) (by decide +kernel)
theorem ks_X8_hearThroughWalls : Cond.selects RX8 yX8_hearThroughWalls yX8_hearThroughWalls ∈ lw_tbl := List.mem_of_getElem? (i := 8) (by decide +kernel)
theorem ks_X8_drawNearer : Cond.selects RX8 yX8_drawNearer yX8_drawNearer ∈ lw_tbl := List.mem_of_getElem? (i := 9) (by decide +kernel)
theorem ks_X3_seekTwo : Cond.selects RX3 yX3_seekTwo yX3_seekTwo ∈ lw_tbl := List.mem_of_getElem? (i := 10) (by decide +kernel)
theorem ks_X0_orderAsChosen : Cond.selects RX0 yX0_orderAsChosen yX0_orderAsChosen ∈ lw_tbl := List.mem_of_getElem? (i := 11) (by decide +kernel)
theorem ks_X1_pairAsChosen : Cond.selects RX1 yX1_pairAsChosen yX1_pairAsChosen ∈ lw_tbl := List.mem_of_getElem? (i := 12) (by decide +kernel)
theorem ks_X10_isHeardWhenTaught : Cond.selects RX10 yX10_isHeardWhenTaught yX10_isHeardWhenTaught ∈ lw_tbl := List.mem_of_getElem? (i := 13) (by decide +kernel)
theorem ks_X11_layClock : Cond.selects RX11 yX11_layClock yX11_layClock ∈ lw_tbl := List.mem_of_getElem? (i := 14) (by decide +kernel)
theorem ks_X11_layWall : Cond.selects RX11 yX11_layWall yX11_layWall ∈ lw_tbl := List.mem_of_getElem? (i := 15) (by decide +kernel)
theorem ks_X11_layLesson : Cond.selects RX11 yX11_layLesson yX11_layLesson ∈ lw_tbl := List.mem_of_getElem? (i := 16) (by decide +kernel)
theorem ks_X11_layRead : Cond.selects RX11 yX11_layRead yX11_layRead ∈ lw_tbl := List.mem_of_getElem? (i := 17) (by decide +kernel)
theorem ks_X11_isRead : Cond.selects RX11 yX11_isRead yX11_isRead ∈ lw_tbl := List.mem_of_getElem? (i := 18) (by decide +kernel)
theorem ks_X11_isItem : Cond.selects RX11 yX11_isItem yX11_isItem ∈ lw_tbl := List.mem_of_getElem? (i := 19) (by decide +kernel)
theorem ks_X11_letterAt : Cond.selects RX11 yX11_letterAt yX11_letterAt ∈ lw_tbl := List.mem_of_getElem? (i := 20) (by decide +kernel)
theorem ks_X11_isRow : Cond.selects RX11 yX11_isRow yX11_isRow ∈ lw_tbl := List.mem_of_getElem? (i := 21) (by decide +kernel)
theorem ks_X11_isClock : Cond.selects RX11 yX11_isClock yX11_isClock ∈ lw_tbl := List.mem_of_getElem? (i := 22) (by decide +kernel)
theorem ks_X11_noonOf : Cond.selects RX11 yX11_noonOf yX11_noonOf ∈ lw_tbl := List.mem_of_getElem? (i := 23) (by decide +kernel)
theorem ks_X11_note : Cond.selects RX11 yX11_note yX11_note ∈ lw_tbl := List.mem_of_getElem? (i := 24) (by decide +kernel)
theorem ks_X11_passOn : Cond.selects RX11 yX11_passOn yX11_passOn ∈ lw_tbl := List.mem_of_getElem? (i := 25) (by decide +kernel)
theorem ks_X11_teachOn : Cond.selects RX11 yX11_teachOn yX11_teachOn ∈ lw_tbl := List.mem_of_getElem? (i := 26) (by decide +kernel)
theorem ks_X11_isTaught : Cond.selects RX11 yX11_isTaught yX11_isTaught ∈ lw_tbl := List.mem_of_getElem? (i := 27) (by decide +kernel)
theorem ks_X11_hearOn : Cond.selects RX11 yX11_hearOn yX11_hearOn ∈ lw_tbl := List.mem_of_getElem? (i := 28) (by decide +kernel)
theorem ks_X11_layRight : Cond.selects RX11 yX11_layRight yX11_layRight ∈ lw_tbl := List.mem_of_getElem? (i := 29) (by decide +kernel)
theorem ks_X11_areRight : Cond.selects RX11 yX11_areRight yX11_areRight ∈ lw_tbl := List.mem_of_getElem? (i := 30) (by decide +kernel)
theorem ks_X11_teaches : Cond.selects RX11 yX11_teaches yX11_teaches ∈ lw_tbl := List.mem_of_getElem? (i := 31) (by decide +kernel)
theorem ks_X11_layOrder : Cond.selects RX11 yX11_layOrder yX11_layOrder ∈ lw_tbl := List.mem_of_getElem? (i := 32) (by decide +kernel)
theorem ks_X11_allWrong : Cond.selects RX11 yX11_allWrong yX11_allWrong ∈ lw_tbl := List.mem_of_getElem? (i := 33) (by decide +kernel)
theorem ks_X11_layPairs : Cond.selects RX11 yX11_layPairs yX11_layPairs ∈ lw_tbl := List.mem_of_getElem? (i := 34) (by decide +kernel)
theorem ks_X11_isSo : Cond.selects RX11 yX11_isSo yX11_isSo ∈ lw_tbl := List.mem_of_getElem? (i := 35) (by decide +kernel)
theorem ks_X11_rightOf : Cond.selects RX11 yX11_rightOf yX11_rightOf ∈ lw_tbl := List.mem_of_getElem? (i := 36) (by decide +kernel)
abbrev classes : List vw_C := [(RX0, TX0, 3), (RX1, TX1, 3), (RX2, TX2, 3), (RX3, TX3, 3), (RX4, TX4, 12), (RX5, TX5, 2), (RX6, TX6, 3), (RX7, TX7, 2), (RX8, TX8, 4), (RX9, TX9, 2), (RX10, TX10, 11), (RX11, TX11, 31)]
