/-! ===== BEGIN printed: names, fields, word lists, decode rows ===== -/
def RX0 : String := "PitForge$Books"
def TX0 : u_T := fun k => match k with
  | 0 => ("PitForge$Books", "truth", "[I", true)
  | 1 => ("PitForge$Books", "place", "[C", true)
  | 2 => ("PitForge$Books", "dumped", "I", false)
  | 3 => ("PitForge$Books", "trueSum", "I", false)
  | 4 => ("PitForge$Books", "modelSum", "I", false)
  | 5 => ("PitForge$Books", "weeksPassed", "I", false)
  | _ => ("PitForge$Books", "balance", "J", false)
def tyX0 : Nat → FieldType := fun k => match k with
  | 0 => .array .int
  | 1 => .array .char
  | 2 => .int
  | 3 => .int
  | 4 => .int
  | 5 => .int
  | _ => .long
theorem nmX0 : ∀ a, a < 7 → ∀ b, b < 7 → a ≠ b → (TX0 a).2.1 ≠ (TX0 b).2.1 := by decide +kernel
theorem tyX0_ok : ∀ k, k < 7 → parseFieldDescriptor (TX0 k).2.2.1 = some (tyX0 k) := by decide +kernel
abbrev cX0_init : ByteArray := prog_2_method_1_code
def yX0_init : MethodName := ⟨RX0, "<init>", "()V"⟩
abbrev cX0_truthOf : ByteArray := prog_2_method_2_code
def yX0_truthOf : MethodName := ⟨RX0, "truthOf", "(I)I"⟩
abbrev cX0_noteTruth : ByteArray := prog_2_method_3_code
def yX0_noteTruth : MethodName := ⟨RX0, "noteTruth", "(II)V"⟩
abbrev cX0_placeOf : ByteArray := prog_2_method_4_code
def yX0_placeOf : MethodName := ⟨RX0, "placeOf", "(I)C"⟩
abbrev cX0_notePlace : ByteArray := prog_2_method_5_code
def yX0_notePlace : MethodName := ⟨RX0, "notePlace", "(IC)V"⟩
abbrev cX0_noteGrades : ByteArray := prog_2_method_6_code
def yX0_noteGrades : MethodName := ⟨RX0, "noteGrades", "(II)V"⟩
def RX1 : String := "PitForge$Ground"
def TX1 : u_T := fun k => match k with
  | 0 => ("PitForge$Ground", "hard", "[Z", true)
  | 1 => ("PitForge$Ground", "turn", "[I", true)
  | 2 => ("PitForge$Ground", "weekDug", "[I", true)
  | _ => ("PitForge$Ground", "dugCount", "I", false)
def tyX1 : Nat → FieldType := fun k => match k with
  | 0 => .array .boolean
  | 1 => .array .int
  | 2 => .array .int
  | _ => .int
theorem nmX1 : ∀ a, a < 4 → ∀ b, b < 4 → a ≠ b → (TX1 a).2.1 ≠ (TX1 b).2.1 := by decide +kernel
theorem tyX1_ok : ∀ k, k < 4 → parseFieldDescriptor (TX1 k).2.2.1 = some (tyX1 k) := by decide +kernel
abbrev cX1_init : ByteArray := prog_3_method_1_code
def yX1_init : MethodName := ⟨RX1, "<init>", "()V"⟩
abbrev cX1_wasDug : ByteArray := prog_3_method_2_code
def yX1_wasDug : MethodName := ⟨RX1, "wasDug", "(I)Z"⟩
abbrev cX1_isHard : ByteArray := prog_3_method_3_code
def yX1_isHard : MethodName := ⟨RX1, "isHard", "(I)Z"⟩
abbrev cX1_harden : ByteArray := prog_3_method_4_code
def yX1_harden : MethodName := ⟨RX1, "harden", "(IZ)V"⟩
abbrev cX1_weekOf : ByteArray := prog_3_method_5_code
def yX1_weekOf : MethodName := ⟨RX1, "weekOf", "(I)I"⟩
abbrev cX1_markDug : ByteArray := prog_3_method_6_code
def yX1_markDug : MethodName := ⟨RX1, "markDug", "(II)V"⟩
abbrev cX1_neededAbove : ByteArray := prog_3_method_7_code
def yX1_neededAbove : MethodName := ⟨RX1, "neededAbove", "(II)I"⟩
abbrev cX1_liesFree : ByteArray := prog_3_method_8_code
def yX1_liesFree : MethodName := ⟨RX1, "liesFree", "(I)Z"⟩
abbrev cX1_dugInColumn : ByteArray := prog_3_method_9_code
def yX1_dugInColumn : MethodName := ⟨RX1, "dugInColumn", "(I)I"⟩
abbrev cX1_deepestDug : ByteArray := prog_3_method_10_code
def yX1_deepestDug : MethodName := ⟨RX1, "deepestDug", "()I"⟩
abbrev cX1_wasDugInOrder : ByteArray := prog_3_method_11_code
def yX1_wasDugInOrder : MethodName := ⟨RX1, "wasDugInOrder", "()Z"⟩
abbrev cX1_wasAhead : ByteArray := prog_3_method_12_code
def yX1_wasAhead : MethodName := ⟨RX1, "wasAhead", "(II)Z"⟩
def RX2 : String := "PitForge$Numbers"
def TX2 : u_T := fun k => match k with
  | _ => ("PitForge$Numbers", "values", "[I", true)
def tyX2 : Nat → FieldType := fun k => match k with
  | _ => .array .int
theorem nmX2 : ∀ a, a < 1 → ∀ b, b < 1 → a ≠ b → (TX2 a).2.1 ≠ (TX2 b).2.1 := by decide +kernel
theorem tyX2_ok : ∀ k, k < 1 → parseFieldDescriptor (TX2 k).2.2.1 = some (tyX2 k) := by decide +kernel
abbrev cX2_init : ByteArray := prog_4_method_1_code
def yX2_init : MethodName := ⟨RX2, "<init>", "()V"⟩
abbrev cX2_mostFor : ByteArray := prog_4_method_2_code
def yX2_mostFor : MethodName := ⟨RX2, "mostFor", "(C)I"⟩
abbrev cX2_current : ByteArray := prog_4_method_3_code
def yX2_current : MethodName := ⟨RX2, "current", "(C)I"⟩
abbrev cX2_change : ByteArray := prog_4_method_4_code
def yX2_change : MethodName := ⟨RX2, "change", "(CI)V"⟩
abbrev cX2_indexOf : ByteArray := prog_4_method_5_code
def yX2_indexOf : MethodName := ⟨RX2, "indexOf", "(C)I"⟩
def RX3 : String := "PitForge$Ore"
def TX3 : u_T := fun k => match k with
  | 0 => ("PitForge$Ore", "sampleBlock", "[I", true)
  | 1 => ("PitForge$Ore", "sampleGrade", "[I", true)
  | 2 => ("PitForge$Ore", "modelled", "[I", true)
  | _ => ("PitForge$Ore", "samples", "I", false)
def tyX3 : Nat → FieldType := fun k => match k with
  | 0 => .array .int
  | 1 => .array .int
  | 2 => .array .int
  | _ => .int
theorem nmX3 : ∀ a, a < 4 → ∀ b, b < 4 → a ≠ b → (TX3 a).2.1 ≠ (TX3 b).2.1 := by decide +kernel
theorem tyX3_ok : ∀ k, k < 4 → parseFieldDescriptor (TX3 k).2.2.1 = some (tyX3 k) := by decide +kernel
abbrev cX3_init : ByteArray := prog_5_method_1_code
def yX3_init : MethodName := ⟨RX3, "<init>", "()V"⟩
abbrev cX3_isFull : ByteArray := prog_5_method_2_code
def yX3_isFull : MethodName := ⟨RX3, "isFull", "()Z"⟩
abbrev cX3_addSample : ByteArray := prog_5_method_3_code
def yX3_addSample : MethodName := ⟨RX3, "addSample", "(II)V"⟩
abbrev cX3_estimate : ByteArray := prog_5_method_4_code
def yX3_estimate : MethodName := ⟨RX3, "estimate", "(I)I"⟩
abbrev cX3_valueOf : ByteArray := prog_5_method_5_code
def yX3_valueOf : MethodName := ⟨RX3, "valueOf", "(II)I"⟩
abbrev cX3_meanFor : ByteArray := prog_5_method_6_code
def yX3_meanFor : MethodName := ⟨RX3, "meanFor", "(I)D"⟩
abbrev cX3_meanByDistance : ByteArray := prog_5_method_7_code
def yX3_meanByDistance : MethodName := ⟨RX3, "meanByDistance", "(I)D"⟩
abbrev cX3_squareBetween : ByteArray := prog_5_method_8_code
def yX3_squareBetween : MethodName := ⟨RX3, "squareBetween", "(II)I"⟩
def RX4 : String := "PitForge$Phases"
def TX4 : u_T := fun k => match k with
  | 0 => ("PitForge$Phases", "ground", "LPitForge$Ground;", true)
  | 1 => ("PitForge$Phases", "search", "LPitForge$PitSearch;", true)
  | 2 => ("PitForge$Phases", "prices", "[I", true)
  | 3 => ("PitForge$Phases", "number", "[I", true)
  | 4 => ("PitForge$Phases", "told", "I", false)
  | _ => ("PitForge$Phases", "stale", "Z", false)
def tyX4 : Nat → FieldType := fun k => match k with
  | 0 => .object "PitForge$Ground"
  | 1 => .object "PitForge$PitSearch"
  | 2 => .array .int
  | 3 => .array .int
  | 4 => .int
  | _ => .boolean
theorem nmX4 : ∀ a, a < 6 → ∀ b, b < 6 → a ≠ b → (TX4 a).2.1 ≠ (TX4 b).2.1 := by decide +kernel
theorem tyX4_ok : ∀ k, k < 6 → parseFieldDescriptor (TX4 k).2.2.1 = some (tyX4 k) := by decide +kernel
abbrev cX4_init : ByteArray := prog_6_method_1_code
def yX4_init : MethodName := ⟨RX4, "<init>", "(LPitForge$Ground;LPitForge$PitSearch;)V"⟩
abbrev cX4_isFull : ByteArray := prog_6_method_2_code
def yX4_isFull : MethodName := ⟨RX4, "isFull", "()Z"⟩
abbrev cX4_lastPrice : ByteArray := prog_6_method_3_code
def yX4_lastPrice : MethodName := ⟨RX4, "lastPrice", "()I"⟩
abbrev cX4_addPrice : ByteArray := prog_6_method_4_code
def yX4_addPrice : MethodName := ⟨RX4, "addPrice", "(I)V"⟩
abbrev cX4_dropAll : ByteArray := prog_6_method_5_code
def yX4_dropAll : MethodName := ⟨RX4, "dropAll", "()V"⟩
abbrev cX4_forget : ByteArray := prog_6_method_6_code
def yX4_forget : MethodName := ⟨RX4, "forget", "()V"⟩
abbrev cX4_refresh : ByteArray := prog_6_method_7_code
def yX4_refresh : MethodName := ⟨RX4, "refresh", "()V"⟩
abbrev cX4_numberFor : ByteArray := prog_6_method_8_code
def yX4_numberFor : MethodName := ⟨RX4, "numberFor", "(I)I"⟩
abbrev cX4_numberFound : ByteArray := prog_6_method_9_code
def yX4_numberFound : MethodName := ⟨RX4, "numberFound", "(I)V"⟩
def RX5 : String := "PitForge$Pile"
def TX5 : u_T := fun k => match k with
  | 0 => ("PitForge$Pile", "layers", "[I", true)
  | 1 => ("PitForge$Pile", "first", "I", false)
  | 2 => ("PitForge$Pile", "end", "I", false)
  | 3 => ("PitForge$Pile", "layerSum", "I", false)
  | 4 => ("PitForge$Pile", "heapCount", "I", false)
  | 5 => ("PitForge$Pile", "heapSum", "I", false)
  | _ => ("PitForge$Pile", "mixing", "Z", false)
def tyX5 : Nat → FieldType := fun k => match k with
  | 0 => .array .int
  | 1 => .int
  | 2 => .int
  | 3 => .int
  | 4 => .int
  | 5 => .int
  | _ => .boolean
theorem nmX5 : ∀ a, a < 7 → ∀ b, b < 7 → a ≠ b → (TX5 a).2.1 ≠ (TX5 b).2.1 := by decide +kernel
theorem tyX5_ok : ∀ k, k < 7 → parseFieldDescriptor (TX5 k).2.2.1 = some (tyX5 k) := by decide +kernel
abbrev cX5_init : ByteArray := prog_7_method_1_code
def yX5_init : MethodName := ⟨RX5, "<init>", "()V"⟩
abbrev cX5_count : ByteArray := prog_7_method_2_code
def yX5_count : MethodName := ⟨RX5, "count", "()I"⟩
abbrev cX5_sum : ByteArray := prog_7_method_3_code
def yX5_sum : MethodName := ⟨RX5, "sum", "()I"⟩
abbrev cX5_put : ByteArray := prog_7_method_4_code
def yX5_put : MethodName := ⟨RX5, "put", "(I)V"⟩
abbrev cX5_give : ByteArray := prog_7_method_5_code
def yX5_give : MethodName := ⟨RX5, "give", "()I"⟩
abbrev cX5_heapUp : ByteArray := prog_7_method_6_code
def yX5_heapUp : MethodName := ⟨RX5, "heapUp", "()V"⟩
abbrev cX5_giveOfHeap : ByteArray := prog_7_method_7_code
def yX5_giveOfHeap : MethodName := ⟨RX5, "giveOfHeap", "()I"⟩
abbrev cX5_giveLayer : ByteArray := prog_7_method_8_code
def yX5_giveLayer : MethodName := ⟨RX5, "giveLayer", "()I"⟩
def RX6 : String := "PitForge$PitSearch"
def TX6 : u_T := fun k => match k with
  | 0 => ("PitForge$PitSearch", "ground", "LPitForge$Ground;", true)
  | 1 => ("PitForge$PitSearch", "ore", "LPitForge$Ore;", true)
  | 2 => ("PitForge$PitSearch", "top", "[I", true)
  | 3 => ("PitForge$PitSearch", "asks", "[[I", true)
  | 4 => ("PitForge$PitSearch", "score", "[[I", true)
  | 5 => ("PitForge$PitSearch", "left", "[[I", true)
  | 6 => ("PitForge$PitSearch", "depth", "[I", true)
  | 7 => ("PitForge$PitSearch", "mustGo", "[Z", true)
  | 8 => ("PitForge$PitSearch", "foundWorth", "J", false)
  | _ => ("PitForge$PitSearch", "foundSize", "I", false)
def tyX6 : Nat → FieldType := fun k => match k with
  | 0 => .object "PitForge$Ground"
  | 1 => .object "PitForge$Ore"
  | 2 => .array .int
  | 3 => .array (.array .int)
  | 4 => .array (.array .int)
  | 5 => .array (.array .int)
  | 6 => .array .int
  | 7 => .array .boolean
  | 8 => .long
  | _ => .int
theorem nmX6 : ∀ a, a < 10 → ∀ b, b < 10 → a ≠ b → (TX6 a).2.1 ≠ (TX6 b).2.1 := by decide +kernel
theorem tyX6_ok : ∀ k, k < 10 → parseFieldDescriptor (TX6 k).2.2.1 = some (tyX6 k) := by decide +kernel
abbrev cX6_init : ByteArray := prog_8_method_1_code
def yX6_init : MethodName := ⟨RX6, "<init>", "(LPitForge$Ground;LPitForge$Ore;)V"⟩
abbrev cX6_find : ByteArray := prog_8_method_2_code
def yX6_find : MethodName := ⟨RX6, "find", "(I)V"⟩
abbrev cX6_covers : ByteArray := prog_8_method_3_code
def yX6_covers : MethodName := ⟨RX6, "covers", "(I)Z"⟩
abbrev cX6_isDepth : ByteArray := prog_8_method_4_code
def yX6_isDepth : MethodName := ⟨RX6, "isDepth", "(I)Z"⟩
abbrev cX6_measureColumns : ByteArray := prog_8_method_5_code
def yX6_measureColumns : MethodName := ⟨RX6, "measureColumns", "(I)V"⟩
abbrev cX6_joinColumns : ByteArray := prog_8_method_6_code
def yX6_joinColumns : MethodName := ⟨RX6, "joinColumns", "()V"⟩
abbrev cX6_bestDepth : ByteArray := prog_8_method_7_code
def yX6_bestDepth : MethodName := ⟨RX6, "bestDepth", "(III)I"⟩
abbrev cX6_readDepths : ByteArray := prog_8_method_8_code
def yX6_readDepths : MethodName := ⟨RX6, "readDepths", "(I)V"⟩
abbrev cX6_leastPitValue : ByteArray := prog_8_method_9_code
def yX6_leastPitValue : MethodName := ⟨RX6, "leastPitValue", "(II)J"⟩
abbrev cX6_markNeeded : ByteArray := prog_8_method_10_code
def yX6_markNeeded : MethodName := ⟨RX6, "markNeeded", "(I)V"⟩
def RX7 : String := "PitForge$Plant"
def TX7 : u_T := fun k => match k with
  | 0 => ("PitForge$Plant", "grades", "[I", true)
  | 1 => ("PitForge$Plant", "fedNow", "I", false)
  | 2 => ("PitForge$Plant", "gradesNow", "I", false)
  | 3 => ("PitForge$Plant", "allFed", "I", false)
  | 4 => ("PitForge$Plant", "allGrades", "I", false)
  | 5 => ("PitForge$Plant", "everRan", "Z", false)
  | 6 => ("PitForge$Plant", "lastMean", "D", false)
  | 7 => ("PitForge$Plant", "lastRecovery", "I", false)
  | _ => ("PitForge$Plant", "metalMade", "J", false)
def tyX7 : Nat → FieldType := fun k => match k with
  | 0 => .array .int
  | 1 => .int
  | 2 => .int
  | 3 => .int
  | 4 => .int
  | 5 => .boolean
  | 6 => .double
  | 7 => .int
  | _ => .long
theorem nmX7 : ∀ a, a < 9 → ∀ b, b < 9 → a ≠ b → (TX7 a).2.1 ≠ (TX7 b).2.1 := by decide +kernel
theorem tyX7_ok : ∀ k, k < 9 → parseFieldDescriptor (TX7 k).2.2.1 = some (tyX7 k) := by decide +kernel
abbrev cX7_init : ByteArray := prog_9_method_1_code
def yX7_init : MethodName := ⟨RX7, "<init>", "()V"⟩
abbrev cX7_openWeek : ByteArray := prog_9_method_2_code
def yX7_openWeek : MethodName := ⟨RX7, "openWeek", "()V"⟩
abbrev cX7_feed : ByteArray := prog_9_method_3_code
def yX7_feed : MethodName := ⟨RX7, "feed", "(I)V"⟩
abbrev cX7_closeWeek : ByteArray := prog_9_method_4_code
def yX7_closeWeek : MethodName := ⟨RX7, "closeWeek", "()J"⟩
abbrev cX7_recoveryAt : ByteArray := prog_9_method_5_code
def yX7_recoveryAt : MethodName := ⟨RX7, "recoveryAt", "(D)I"⟩
def RX8 : String := "PitForge$Sump"
def TX8 : u_T := fun k => match k with
  | _ => ("PitForge$Sump", "units", "I", false)
def tyX8 : Nat → FieldType := fun k => match k with
  | _ => .int
theorem nmX8 : ∀ a, a < 1 → ∀ b, b < 1 → a ≠ b → (TX8 a).2.1 ≠ (TX8 b).2.1 := by decide +kernel
theorem tyX8_ok : ∀ k, k < 1 → parseFieldDescriptor (TX8 k).2.2.1 = some (tyX8 k) := by decide +kernel
abbrev cX8_init : ByteArray := prog_10_method_1_code
def yX8_init : MethodName := ⟨RX8, "<init>", "()V"⟩
abbrev cX8_rainAndPump : ByteArray := prog_10_method_2_code
def yX8_rainAndPump : MethodName := ⟨RX8, "rainAndPump", "(II)I"⟩
def RX9 : String := "PitForge"
def TX9 : u_T := fun k => match k with
  | 0 => ("PitForge", "ground", "LPitForge$Ground;", true)
  | 1 => ("PitForge", "ore", "LPitForge$Ore;", true)
  | 2 => ("PitForge", "search", "LPitForge$PitSearch;", true)
  | 3 => ("PitForge", "phases", "LPitForge$Phases;", true)
  | 4 => ("PitForge", "numbers", "LPitForge$Numbers;", true)
  | 5 => ("PitForge", "pile", "LPitForge$Pile;", true)
  | 6 => ("PitForge", "plant", "LPitForge$Plant;", true)
  | 7 => ("PitForge", "sump", "LPitForge$Sump;", true)
  | _ => ("PitForge", "books", "LPitForge$Books;", true)
def tyX9 : Nat → FieldType := fun k => match k with
  | 0 => .object "PitForge$Ground"
  | 1 => .object "PitForge$Ore"
  | 2 => .object "PitForge$PitSearch"
  | 3 => .object "PitForge$Phases"
  | 4 => .object "PitForge$Numbers"
  | 5 => .object "PitForge$Pile"
  | 6 => .object "PitForge$Plant"
  | 7 => .object "PitForge$Sump"
  | _ => .object "PitForge$Books"
theorem nmX9 : ∀ a, a < 9 → ∀ b, b < 9 → a ≠ b → (TX9 a).2.1 ≠ (TX9 b).2.1 := by decide +kernel
theorem tyX9_ok : ∀ k, k < 9 → parseFieldDescriptor (TX9 k).2.2.1 = some (tyX9 k) := by decide +kernel
abbrev cX9_init : ByteArray := prog_1_method_1_code
def yX9_init : MethodName := ⟨RX9, "<init>", "()V"⟩
abbrev cX9_rock : ByteArray := prog_1_method_2_code
def yX9_rock : MethodName := ⟨RX9, "rock", "(IC)C"⟩
abbrev cX9_sample : ByteArray := prog_1_method_3_code
def yX9_sample : MethodName := ⟨RX9, "sample", "(II)I"⟩
abbrev cX9_tellTruth : ByteArray := prog_1_method_4_code
def yX9_tellTruth : MethodName := ⟨RX9, "tellTruth", "(II)I"⟩
abbrev cX9_grade : ByteArray := prog_1_method_5_code
def yX9_grade : MethodName := ⟨RX9, "grade", "(I)I"⟩
abbrev cX9_worth : ByteArray := prog_1_method_6_code
def yX9_worth : MethodName := ⟨RX9, "worth", "(II)I"⟩
abbrev cX9_isFree : ByteArray := prog_1_method_7_code
def yX9_isFree : MethodName := ⟨RX9, "isFree", "(I)Z"⟩
abbrev cX9_isDug : ByteArray := prog_1_method_8_code
def yX9_isDug : MethodName := ⟨RX9, "isDug", "(I)Z"⟩
abbrev cX9_pitWorth : ByteArray := prog_1_method_9_code
def yX9_pitWorth : MethodName := ⟨RX9, "pitWorth", "(I)J"⟩
abbrev cX9_pitSize : ByteArray := prog_1_method_10_code
def yX9_pitSize : MethodName := ⟨RX9, "pitSize", "(I)I"⟩
abbrev cX9_isInPit : ByteArray := prog_1_method_11_code
def yX9_isInPit : MethodName := ⟨RX9, "isInPit", "(II)Z"⟩
abbrev cX9_worthWith : ByteArray := prog_1_method_12_code
def yX9_worthWith : MethodName := ⟨RX9, "worthWith", "(II)J"⟩
abbrev cX9_phase : ByteArray := prog_1_method_13_code
def yX9_phase : MethodName := ⟨RX9, "phase", "(I)I"⟩
abbrev cX9_clearPhases : ByteArray := prog_1_method_14_code
def yX9_clearPhases : MethodName := ⟨RX9, "clearPhases", "()I"⟩
abbrev cX9_phaseOf : ByteArray := prog_1_method_15_code
def yX9_phaseOf : MethodName := ⟨RX9, "phaseOf", "(I)I"⟩
abbrev cX9_set : ByteArray := prog_1_method_16_code
def yX9_set : MethodName := ⟨RX9, "set", "(CI)I"⟩
abbrev cX9_mix : ByteArray := prog_1_method_17_code
def yX9_mix : MethodName := ⟨RX9, "mix", "(Z)Z"⟩
abbrev cX9_goOn : ByteArray := prog_1_method_18_code
def yX9_goOn : MethodName := ⟨RX9, "goOn", "(I)I"⟩
abbrev cX9_week : ByteArray := prog_1_method_19_code
def yX9_week : MethodName := ⟨RX9, "week", "()I"⟩
abbrev cX9_wentTo : ByteArray := prog_1_method_20_code
def yX9_wentTo : MethodName := ⟨RX9, "wentTo", "(I)C"⟩
abbrev cX9_dugIn : ByteArray := prog_1_method_21_code
def yX9_dugIn : MethodName := ⟨RX9, "dugIn", "(I)I"⟩
abbrev cX9_stock : ByteArray := prog_1_method_22_code
def yX9_stock : MethodName := ⟨RX9, "stock", "()I"⟩
abbrev cX9_stockGrades : ByteArray := prog_1_method_23_code
def yX9_stockGrades : MethodName := ⟨RX9, "stockGrades", "()I"⟩
abbrev cX9_water : ByteArray := prog_1_method_24_code
def yX9_water : MethodName := ⟨RX9, "water", "()I"⟩
abbrev cX9_recovery : ByteArray := prog_1_method_25_code
def yX9_recovery : MethodName := ⟨RX9, "recovery", "()I"⟩
abbrev cX9_metal : ByteArray := prog_1_method_26_code
def yX9_metal : MethodName := ⟨RX9, "metal", "()J"⟩
abbrev cX9_money : ByteArray := prog_1_method_27_code
def yX9_money : MethodName := ⟨RX9, "money", "()J"⟩
abbrev cX9_tons : ByteArray := prog_1_method_28_code
def yX9_tons : MethodName := ⟨RX9, "tons", "(C)I"⟩
abbrev cX9_factor : ByteArray := prog_1_method_29_code
def yX9_factor : MethodName := ⟨RX9, "factor", "()I"⟩
abbrev cX9_isBalanced : ByteArray := prog_1_method_30_code
def yX9_isBalanced : MethodName := ⟨RX9, "isBalanced", "()Z"⟩
abbrev cX9_dugShare : ByteArray := prog_1_method_31_code
def yX9_dugShare : MethodName := ⟨RX9, "dugShare", "()F"⟩
abbrev cX9_meanFed : ByteArray := prog_1_method_32_code
def yX9_meanFed : MethodName := ⟨RX9, "meanFed", "()D"⟩
abbrev cX9_passWeek : ByteArray := prog_1_method_33_code
def yX9_passWeek : MethodName := ⟨RX9, "passWeek", "()V"⟩
abbrev cX9_dryLevels : ByteArray := prog_1_method_34_code
def yX9_dryLevels : MethodName := ⟨RX9, "dryLevels", "()I"⟩
abbrev cX9_nextBlock : ByteArray := prog_1_method_35_code
def yX9_nextBlock : MethodName := ⟨RX9, "nextBlock", "(I)I"⟩
abbrev cX9_digOut : ByteArray := prog_1_method_36_code
def yX9_digOut : MethodName := ⟨RX9, "digOut", "(I)V"⟩
abbrev cX9_haul : ByteArray := prog_1_method_37_code
def yX9_haul : MethodName := ⟨RX9, "haul", "(II)V"⟩
abbrev cX9_feedFromPile : ByteArray := prog_1_method_38_code
def yX9_feedFromPile : MethodName := ⟨RX9, "feedFromPile", "()V"⟩
abbrev cX9_requireBlock : ByteArray := prog_1_method_39_code
def yX9_requireBlock : MethodName := ⟨RX9, "requireBlock", "(I)V"⟩
abbrev cX9_requireHundred : ByteArray := prog_1_method_40_code
def yX9_requireHundred : MethodName := ⟨RX9, "requireHundred", "(I)V"⟩
abbrev cX9_requireUndug : ByteArray := prog_1_method_41_code
def yX9_requireUndug : MethodName := ⟨RX9, "requireUndug", "(I)V"⟩
abbrev cX9_requireDug : ByteArray := prog_1_method_42_code
def yX9_requireDug : MethodName := ⟨RX9, "requireDug", "(I)V"⟩
abbrev cX9_isBlock : ByteArray := prog_1_method_43_code
def yX9_isBlock : MethodName := ⟨RX9, "isBlock", "(I)Z"⟩
abbrev cX9_diggingCost : ByteArray := prog_1_method_44_code
def yX9_diggingCost : MethodName := ⟨RX9, "diggingCost", "(I)I"⟩
abbrev cX9_toNearest : ByteArray := prog_1_method_45_code
def yX9_toNearest : MethodName := ⟨RX9, "toNearest", "(D)I"⟩
def RX10 : String := "PitForgeModel$Block"
def TX10 : u_T := fun k => match k with
  | 0 => ("PitForgeModel$Block", "isHard", "Z", false)
  | 1 => ("PitForgeModel$Block", "isDug", "Z", false)
  | 2 => ("PitForgeModel$Block", "truth", "I", false)
  | 3 => ("PitForgeModel$Block", "week", "I", false)
  | _ => ("PitForgeModel$Block", "went", "C", false)
def tyX10 : Nat → FieldType := fun k => match k with
  | 0 => .boolean
  | 1 => .boolean
  | 2 => .int
  | 3 => .int
  | _ => .char
theorem nmX10 : ∀ a, a < 5 → ∀ b, b < 5 → a ≠ b → (TX10 a).2.1 ≠ (TX10 b).2.1 := by decide +kernel
theorem tyX10_ok : ∀ k, k < 5 → parseFieldDescriptor (TX10 k).2.2.1 = some (tyX10 k) := by decide +kernel
abbrev cX10_init : ByteArray := prog_13_method_1_code
def yX10_init : MethodName := ⟨RX10, "<init>", "()V"⟩
def RX11 : String := "PitForgeModel$Flow"
def TX11 : u_T := fun k => match k with
  | 0 => ("PitForgeModel$Flow", "rooms", "[[I", true)
  | 1 => ("PitForgeModel$Flow", "isReached", "[Z", false)
  | _ => ("PitForgeModel$Flow", "this$0", "LPitForgeModel;", true)
def tyX11 : Nat → FieldType := fun k => match k with
  | 0 => .array (.array .int)
  | 1 => .array .boolean
  | _ => .object "PitForgeModel"
theorem nmX11 : ∀ a, a < 3 → ∀ b, b < 3 → a ≠ b → (TX11 a).2.1 ≠ (TX11 b).2.1 := by decide +kernel
theorem tyX11_ok : ∀ k, k < 3 → parseFieldDescriptor (TX11 k).2.2.1 = some (tyX11 k) := by decide +kernel
abbrev cX11_init : ByteArray := prog_14_method_1_code
def yX11_init : MethodName := ⟨RX11, "<init>", "(LPitForgeModel;I)V"⟩
abbrev cX11_way : ByteArray := prog_14_method_2_code
def yX11_way : MethodName := ⟨RX11, "way", "()[I"⟩
abbrev cX11_has : ByteArray := prog_14_method_3_code
def yX11_has : MethodName := ⟨RX11, "has", "(I)Z"⟩
def RX12 : String := "PitForgeModel$Sample"
def TX12 : u_T := fun k => match k with
  | 0 => ("PitForgeModel$Sample", "block", "I", true)
  | _ => ("PitForgeModel$Sample", "grade", "I", true)
def tyX12 : Nat → FieldType := fun k => match k with
  | 0 => .int
  | _ => .int
theorem nmX12 : ∀ a, a < 2 → ∀ b, b < 2 → a ≠ b → (TX12 a).2.1 ≠ (TX12 b).2.1 := by decide +kernel
theorem tyX12_ok : ∀ k, k < 2 → parseFieldDescriptor (TX12 k).2.2.1 = some (tyX12 k) := by decide +kernel
abbrev cX12_init : ByteArray := prog_15_method_1_code
def yX12_init : MethodName := ⟨RX12, "<init>", "(II)V"⟩
def RX13 : String := "PitForgeModel"
def TX13 : u_T := fun k => match k with
  | 0 => ("PitForgeModel", "thrown", "I", false)
  | 1 => ("PitForgeModel", "blocks", "Ljava/util/List;", true)
  | 2 => ("PitForgeModel", "samples", "Ljava/util/List;", true)
  | 3 => ("PitForgeModel", "phases", "Ljava/util/List;", true)
  | 4 => ("PitForgeModel", "stock", "Ljava/util/List;", true)
  | 5 => ("PitForgeModel", "told", "[I", true)
  | 6 => ("PitForgeModel", "mixes", "Z", false)
  | 7 => ("PitForgeModel", "hasFed", "Z", false)
  | 8 => ("PitForgeModel", "week", "I", false)
  | 9 => ("PitForgeModel", "water", "I", false)
  | 10 => ("PitForgeModel", "recovery", "I", false)
  | 11 => ("PitForgeModel", "trues", "I", false)
  | 12 => ("PitForgeModel", "models", "I", false)
  | 13 => ("PitForgeModel", "fed", "I", false)
  | 14 => ("PitForgeModel", "fedGrades", "I", false)
  | 15 => ("PitForgeModel", "dumped", "I", false)
  | 16 => ("PitForgeModel", "stocked", "I", false)
  | 17 => ("PitForgeModel", "stockSum", "I", false)
  | 18 => ("PitForgeModel", "heap", "I", false)
  | 19 => ("PitForgeModel", "heapSum", "I", false)
  | 20 => ("PitForgeModel", "lastMean", "D", false)
  | 21 => ("PitForgeModel", "metal", "J", false)
  | _ => ("PitForgeModel", "money", "J", false)
def tyX13 : Nat → FieldType := fun k => match k with
  | 0 => .int
  | 1 => .object "java/util/List"
  | 2 => .object "java/util/List"
  | 3 => .object "java/util/List"
  | 4 => .object "java/util/List"
  | 5 => .array .int
  | 6 => .boolean
  | 7 => .boolean
  | 8 => .int
  | 9 => .int
  | 10 => .int
  | 11 => .int
  | 12 => .int
  | 13 => .int
  | 14 => .int
  | 15 => .int
  | 16 => .int
  | 17 => .int
  | 18 => .int
  | 19 => .int
  | 20 => .double
  | 21 => .long
  | _ => .long
theorem nmX13 : ∀ a, a < 23 → ∀ b, b < 23 → a ≠ b → (TX13 a).2.1 ≠ (TX13 b).2.1 := by decide +kernel
theorem tyX13_ok : ∀ k, k < 23 → parseFieldDescriptor (TX13 k).2.2.1 = some (tyX13 k) := by decide +kernel
abbrev cX13_thrown : ByteArray := prog_12_method_1_code
def yX13_thrown : MethodName := ⟨RX13, "thrown", "()I"⟩
abbrev cX13_isWrong : ByteArray := prog_12_method_2_code
def yX13_isWrong : MethodName := ⟨RX13, "isWrong", "(I)Z"⟩
abbrev cX13_isBetween : ByteArray := prog_12_method_3_code
def yX13_isBetween : MethodName := ⟨RX13, "isBetween", "(III)Z"⟩
abbrev cX13_isBlock : ByteArray := prog_12_method_4_code
def yX13_isBlock : MethodName := ⟨RX13, "isBlock", "(I)Z"⟩
abbrev cX13_init : ByteArray := prog_12_method_5_code
def yX13_init : MethodName := ⟨RX13, "<init>", "()V"⟩
abbrev cX13_rock : ByteArray := prog_12_method_6_code
def yX13_rock : MethodName := ⟨RX13, "rock", "(IC)C"⟩
abbrev cX13_sample : ByteArray := prog_12_method_7_code
def yX13_sample : MethodName := ⟨RX13, "sample", "(II)I"⟩
abbrev cX13_tellTruth : ByteArray := prog_12_method_8_code
def yX13_tellTruth : MethodName := ⟨RX13, "tellTruth", "(II)I"⟩
abbrev cX13_gradeOf : ByteArray := prog_12_method_9_code
def yX13_gradeOf : MethodName := ⟨RX13, "gradeOf", "(I)I"⟩
abbrev cX13_grade : ByteArray := prog_12_method_10_code
def yX13_grade : MethodName := ⟨RX13, "grade", "(I)I"⟩
abbrev cX13_digging : ByteArray := prog_12_method_11_code
def yX13_digging : MethodName := ⟨RX13, "digging", "(I)I"⟩
abbrev cX13_worthOf : ByteArray := prog_12_method_12_code
def yX13_worthOf : MethodName := ⟨RX13, "worthOf", "(II)I"⟩
abbrev cX13_isPrice : ByteArray := prog_12_method_13_code
def yX13_isPrice : MethodName := ⟨RX13, "isPrice", "(I)Z"⟩
abbrev cX13_worth : ByteArray := prog_12_method_14_code
def yX13_worth : MethodName := ⟨RX13, "worth", "(II)I"⟩
abbrev cX13_above : ByteArray := prog_12_method_15_code
def yX13_above : MethodName := ⟨RX13, "above", "(I)Ljava/util/List;"⟩
abbrev cX13_liesFree : ByteArray := prog_12_method_16_code
def yX13_liesFree : MethodName := ⟨RX13, "liesFree", "(I)Z"⟩
abbrev cX13_isFree : ByteArray := prog_12_method_17_code
def yX13_isFree : MethodName := ⟨RX13, "isFree", "(I)Z"⟩
abbrev cX13_isDug : ByteArray := prog_12_method_18_code
def yX13_isDug : MethodName := ⟨RX13, "isDug", "(I)Z"⟩
abbrev cX13_pitWorth : ByteArray := prog_12_method_19_code
def yX13_pitWorth : MethodName := ⟨RX13, "pitWorth", "(I)J"⟩
abbrev cX13_pitSize : ByteArray := prog_12_method_20_code
def yX13_pitSize : MethodName := ⟨RX13, "pitSize", "(I)I"⟩
abbrev cX13_isInPit : ByteArray := prog_12_method_21_code
def yX13_isInPit : MethodName := ⟨RX13, "isInPit", "(II)Z"⟩
abbrev cX13_worthWith : ByteArray := prog_12_method_22_code
def yX13_worthWith : MethodName := ⟨RX13, "worthWith", "(II)J"⟩
abbrev cX13_phase : ByteArray := prog_12_method_23_code
def yX13_phase : MethodName := ⟨RX13, "phase", "(I)I"⟩
abbrev cX13_clearPhases : ByteArray := prog_12_method_24_code
def yX13_clearPhases : MethodName := ⟨RX13, "clearPhases", "()I"⟩
abbrev cX13_phasesNow : ByteArray := prog_12_method_25_code
def yX13_phasesNow : MethodName := ⟨RX13, "phasesNow", "()[I"⟩
abbrev cX13_phaseOf : ByteArray := prog_12_method_26_code
def yX13_phaseOf : MethodName := ⟨RX13, "phaseOf", "(I)I"⟩
abbrev cX13_set : ByteArray := prog_12_method_27_code
def yX13_set : MethodName := ⟨RX13, "set", "(CI)I"⟩
abbrev cX13_toldOf : ByteArray := prog_12_method_28_code
def yX13_toldOf : MethodName := ⟨RX13, "toldOf", "(C)I"⟩
abbrev cX13_mix : ByteArray := prog_12_method_29_code
def yX13_mix : MethodName := ⟨RX13, "mix", "(Z)Z"⟩
abbrev cX13_flooded : ByteArray := prog_12_method_30_code
def yX13_flooded : MethodName := ⟨RX13, "flooded", "()I"⟩
abbrev cX13_next : ByteArray := prog_12_method_31_code
def yX13_next : MethodName := ⟨RX13, "next", "(I[I)I"⟩
abbrev cX13_aWeek : ByteArray := prog_12_method_32_code
def yX13_aWeek : MethodName := ⟨RX13, "aWeek", "()V"⟩
abbrev cX13_digs : ByteArray := prog_12_method_33_code
def yX13_digs : MethodName := ⟨RX13, "digs", "(ILjava/util/List;I)V"⟩
abbrev cX13_given : ByteArray := prog_12_method_34_code
def yX13_given : MethodName := ⟨RX13, "given", "()I"⟩
abbrev cX13_mills : ByteArray := prog_12_method_35_code
def yX13_mills : MethodName := ⟨RX13, "mills", "(Ljava/util/List;)V"⟩
abbrev cX13_goOn : ByteArray := prog_12_method_36_code
def yX13_goOn : MethodName := ⟨RX13, "goOn", "(I)I"⟩
abbrev cX13_dug : ByteArray := prog_12_method_37_code
def yX13_dug : MethodName := ⟨RX13, "dug", "()I"⟩
abbrev cX13_week : ByteArray := prog_12_method_38_code
def yX13_week : MethodName := ⟨RX13, "week", "()I"⟩
abbrev cX13_isNotDug : ByteArray := prog_12_method_39_code
def yX13_isNotDug : MethodName := ⟨RX13, "isNotDug", "(I)Z"⟩
abbrev cX13_wentTo : ByteArray := prog_12_method_40_code
def yX13_wentTo : MethodName := ⟨RX13, "wentTo", "(I)C"⟩
abbrev cX13_dugIn : ByteArray := prog_12_method_41_code
def yX13_dugIn : MethodName := ⟨RX13, "dugIn", "(I)I"⟩
abbrev cX13_stock : ByteArray := prog_12_method_42_code
def yX13_stock : MethodName := ⟨RX13, "stock", "()I"⟩
abbrev cX13_stockGrades : ByteArray := prog_12_method_43_code
def yX13_stockGrades : MethodName := ⟨RX13, "stockGrades", "()I"⟩
abbrev cX13_water : ByteArray := prog_12_method_44_code
def yX13_water : MethodName := ⟨RX13, "water", "()I"⟩
abbrev cX13_recovery : ByteArray := prog_12_method_45_code
def yX13_recovery : MethodName := ⟨RX13, "recovery", "()I"⟩
abbrev cX13_metal : ByteArray := prog_12_method_46_code
def yX13_metal : MethodName := ⟨RX13, "metal", "()J"⟩
abbrev cX13_money : ByteArray := prog_12_method_47_code
def yX13_money : MethodName := ⟨RX13, "money", "()J"⟩
abbrev cX13_tons : ByteArray := prog_12_method_48_code
def yX13_tons : MethodName := ⟨RX13, "tons", "(C)I"⟩
abbrev cX13_factor : ByteArray := prog_12_method_49_code
def yX13_factor : MethodName := ⟨RX13, "factor", "()I"⟩
abbrev cX13_isBalanced : ByteArray := prog_12_method_50_code
def yX13_isBalanced : MethodName := ⟨RX13, "isBalanced", "()Z"⟩
abbrev cX13_dugShare : ByteArray := prog_12_method_51_code
def yX13_dugShare : MethodName := ⟨RX13, "dugShare", "()F"⟩
abbrev cX13_meanFed : ByteArray := prog_12_method_52_code
def yX13_meanFed : MethodName := ⟨RX13, "meanFed", "()D"⟩
def RJx145de : String := "java/io/Serializable"
def TJx145de : u_T := fun k => match k with
  | _ => ("", "", "", false)
def tyJx145de : Nat → FieldType := fun k => match k with
  | _ => .int
theorem nmJx145de : ∀ a, a < 0 → ∀ b, b < 0 → a ≠ b → (TJx145de a).2.1 ≠ (TJx145de b).2.1 := by decide +kernel
theorem tyJx145de_ok : ∀ k, k < 0 → parseFieldDescriptor (TJx145de k).2.2.1 = some (tyJx145de k) := by decide +kernel
def RJx00060 : String := "java/lang/ArrayIndexOutOfBoundsException"
def TJx00060 : u_T := fun k => match k with
  | 0 => ("java/lang/Throwable", "backtrace", "Ljava/lang/Object;", false)
  | 1 => ("java/lang/Throwable", "detailMessage", "Ljava/lang/String;", false)
  | 2 => ("java/lang/Throwable", "cause", "Ljava/lang/Throwable;", false)
  | 3 => ("java/lang/Throwable", "stackTrace", "[Ljava/lang/StackTraceElement;", false)
  | 4 => ("java/lang/Throwable", "depth", "I", false)
  | _ => ("java/lang/Throwable", "suppressedExceptions", "Ljava/util/List;", false)
def tyJx00060 : Nat → FieldType := fun k => match k with
  | 0 => .object "java/lang/Object"
  | 1 => .object "java/lang/String"
  | 2 => .object "java/lang/Throwable"
  | 3 => .array (.object "java/lang/StackTraceElement")
  | 4 => .int
  | _ => .object "java/util/List"
theorem nmJx00060 : ∀ a, a < 6 → ∀ b, b < 6 → a ≠ b → (TJx00060 a).2.1 ≠ (TJx00060 b).2.1 := by decide +kernel
theorem tyJx00060_ok : ∀ k, k < 6 → parseFieldDescriptor (TJx00060 k).2.2.1 = some (tyJx00060 k) := by decide +kernel
abbrev cJx00060_init_a7421 : ByteArray := prog_18_method_2_code
def yJx00060_init_a7421 : MethodName := ⟨RJx00060, "<init>", "(Ljava/lang/String;)V"⟩
def RJx9f9b0 : String := "java/lang/CharSequence"
def TJx9f9b0 : u_T := fun k => match k with
  | _ => ("", "", "", false)
def tyJx9f9b0 : Nat → FieldType := fun k => match k with
  | _ => .int
theorem nmJx9f9b0 : ∀ a, a < 0 → ∀ b, b < 0 → a ≠ b → (TJx9f9b0 a).2.1 ≠ (TJx9f9b0 b).2.1 := by decide +kernel
theorem tyJx9f9b0_ok : ∀ k, k < 0 → parseFieldDescriptor (TJx9f9b0 k).2.2.1 = some (tyJx9f9b0 k) := by decide +kernel
def RJ11 : String := "java/lang/Character"
def TJ11 : u_T := fun k => match k with
  | _ => ("", "", "", false)
def tyJ11 : Nat → FieldType := fun k => match k with
  | _ => .int
theorem nmJ11 : ∀ a, a < 0 → ∀ b, b < 0 → a ≠ b → (TJ11 a).2.1 ≠ (TJ11 b).2.1 := by decide +kernel
theorem tyJ11_ok : ∀ k, k < 0 → parseFieldDescriptor (TJ11 k).2.2.1 = some (tyJ11 k) := by decide +kernel
abbrev cJ11_isValidCodePoint_9a6ad : ByteArray := prog_20_method_11_code
def yJ11_isValidCodePoint_9a6ad : MethodName := ⟨RJ11, "isValidCodePoint", "(I)Z"⟩
abbrev cJ11_highSurrogate_5068e : ByteArray := prog_20_method_28_code
def yJ11_highSurrogate_5068e : MethodName := ⟨RJ11, "highSurrogate", "(I)C"⟩
abbrev cJ11_lowSurrogate_5068e : ByteArray := prog_20_method_29_code
def yJ11_lowSurrogate_5068e : MethodName := ⟨RJ11, "lowSurrogate", "(I)C"⟩
def RJx8e188 : String := "java/lang/Cloneable"
def TJx8e188 : u_T := fun k => match k with
  | _ => ("", "", "", false)
def tyJx8e188 : Nat → FieldType := fun k => match k with
  | _ => .int
theorem nmJx8e188 : ∀ a, a < 0 → ∀ b, b < 0 → a ≠ b → (TJx8e188 a).2.1 ≠ (TJx8e188 b).2.1 := by decide +kernel
theorem tyJx8e188_ok : ∀ k, k < 0 → parseFieldDescriptor (TJx8e188 k).2.2.1 = some (tyJx8e188 k) := by decide +kernel
def RJxb160c : String := "java/lang/Comparable"
def TJxb160c : u_T := fun k => match k with
  | _ => ("", "", "", false)
def tyJxb160c : Nat → FieldType := fun k => match k with
  | _ => .int
theorem nmJxb160c : ∀ a, a < 0 → ∀ b, b < 0 → a ≠ b → (TJxb160c a).2.1 ≠ (TJxb160c b).2.1 := by decide +kernel
theorem tyJxb160c_ok : ∀ k, k < 0 → parseFieldDescriptor (TJxb160c k).2.2.1 = some (tyJxb160c k) := by decide +kernel
def RJxe99ae : String := "java/lang/Double"
def TJxe99ae : u_T := fun k => match k with
  | _ => ("", "", "", false)
def tyJxe99ae : Nat → FieldType := fun k => match k with
  | _ => .int
theorem nmJxe99ae : ∀ a, a < 0 → ∀ b, b < 0 → a ≠ b → (TJxe99ae a).2.1 ≠ (TJxe99ae b).2.1 := by decide +kernel
theorem tyJxe99ae_ok : ∀ k, k < 0 → parseFieldDescriptor (TJxe99ae k).2.2.1 = some (tyJxe99ae k) := by decide +kernel
def RJxabbfe : String := "java/lang/Integer$IntegerCache"
def TJxabbfe : u_T := fun k => match k with
  | _ => ("", "", "", false)
def tyJxabbfe : Nat → FieldType := fun k => match k with
  | _ => .int
theorem nmJxabbfe : ∀ a, a < 0 → ∀ b, b < 0 → a ≠ b → (TJxabbfe a).2.1 ≠ (TJxabbfe b).2.1 := by decide +kernel
theorem tyJxabbfe_ok : ∀ k, k < 0 → parseFieldDescriptor (TJxabbfe k).2.2.1 = some (tyJxabbfe k) := by decide +kernel
def RJ6 : String := "java/lang/Integer"
def TJ6 : u_T := fun k => match k with
  | _ => ("java/lang/Integer", "value", "I", true)
def tyJ6 : Nat → FieldType := fun k => match k with
  | _ => .int
theorem nmJ6 : ∀ a, a < 1 → ∀ b, b < 1 → a ≠ b → (TJ6 a).2.1 ≠ (TJ6 b).2.1 := by decide +kernel
theorem tyJ6_ok : ∀ k, k < 1 → parseFieldDescriptor (TJ6 k).2.2.1 = some (tyJ6 k) := by decide +kernel
abbrev cJ6_valueOf_2dffe : ByteArray := prog_28_method_22_code
def yJ6_valueOf_2dffe : MethodName := ⟨RJ6, "valueOf", "(I)Ljava/lang/Integer;"⟩
abbrev cJ6_init_d00df : ByteArray := prog_28_method_23_code
def yJ6_init_d00df : MethodName := ⟨RJ6, "<init>", "(I)V"⟩
abbrev cJ6_intValue_8abf5 : ByteArray := prog_28_method_27_code
def yJ6_intValue_8abf5 : MethodName := ⟨RJ6, "intValue", "()I"⟩
def RJxab1ab : String := "java/lang/Iterable"
def TJxab1ab : u_T := fun k => match k with
  | _ => ("", "", "", false)
def tyJxab1ab : Nat → FieldType := fun k => match k with
  | _ => .int
theorem nmJxab1ab : ∀ a, a < 0 → ∀ b, b < 0 → a ≠ b → (TJxab1ab a).2.1 ≠ (TJxab1ab b).2.1 := by decide +kernel
theorem tyJxab1ab_ok : ∀ k, k < 0 → parseFieldDescriptor (TJxab1ab k).2.2.1 = some (tyJxab1ab k) := by decide +kernel
def RJ9 : String := "java/lang/Math"
def TJ9 : u_T := fun k => match k with
  | _ => ("", "", "", false)
def tyJ9 : Nat → FieldType := fun k => match k with
  | _ => .int
theorem nmJ9 : ∀ a, a < 0 → ∀ b, b < 0 → a ≠ b → (TJ9 a).2.1 ≠ (TJ9 b).2.1 := by decide +kernel
theorem tyJ9_ok : ∀ k, k < 0 → parseFieldDescriptor (TJ9 k).2.2.1 = some (tyJ9 k) := by decide +kernel
abbrev cJ9_rint_294c1 : ByteArray := prog_31_method_18_code
def yJ9_rint_294c1 : MethodName := ⟨RJ9, "rint", "(D)D"⟩
abbrev cJ9_abs_294c1 : ByteArray := prog_31_method_64_code
def yJ9_abs_294c1 : MethodName := ⟨RJ9, "abs", "(D)D"⟩
abbrev cJ9_max_7cf53 : ByteArray := prog_31_method_65_code
def yJ9_max_7cf53 : MethodName := ⟨RJ9, "max", "(II)I"⟩
abbrev cJ9_max_eb370 : ByteArray := prog_31_method_68_code
def yJ9_max_eb370 : MethodName := ⟨RJ9, "max", "(DD)D"⟩
abbrev cJ9_min_7cf53 : ByteArray := prog_31_method_69_code
def yJ9_min_7cf53 : MethodName := ⟨RJ9, "min", "(II)I"⟩
abbrev cJ9_copySign_eb370 : ByteArray := prog_31_method_89_code
def yJ9_copySign_eb370 : MethodName := ⟨RJ9, "copySign", "(DD)D"⟩
def RJxd2413 : String := "java/lang/Number"
def TJxd2413 : u_T := fun k => match k with
  | _ => ("", "", "", false)
def tyJxd2413 : Nat → FieldType := fun k => match k with
  | _ => .int
theorem nmJxd2413 : ∀ a, a < 0 → ∀ b, b < 0 → a ≠ b → (TJxd2413 a).2.1 ≠ (TJxd2413 b).2.1 := by decide +kernel
theorem tyJxd2413_ok : ∀ k, k < 0 → parseFieldDescriptor (TJxd2413 k).2.2.1 = some (tyJxd2413 k) := by decide +kernel
abbrev cJxd2413_init_da8c8 : ByteArray := prog_32_method_1_code
def yJxd2413_init_da8c8 : MethodName := ⟨RJxd2413, "<init>", "()V"⟩
def RJxfc994 : String := "java/lang/StrictMath"
def TJxfc994 : u_T := fun k => match k with
  | _ => ("", "", "", false)
def tyJxfc994 : Nat → FieldType := fun k => match k with
  | _ => .int
theorem nmJxfc994 : ∀ a, a < 0 → ∀ b, b < 0 → a ≠ b → (TJxfc994 a).2.1 ≠ (TJxfc994 b).2.1 := by decide +kernel
theorem tyJxfc994_ok : ∀ k, k < 0 → parseFieldDescriptor (TJxfc994 k).2.2.1 = some (tyJxfc994 k) := by decide +kernel
abbrev cJxfc994_rint_294c1 : ByteArray := prog_34_method_19_code
def yJxfc994_rint_294c1 : MethodName := ⟨RJxfc994, "rint", "(D)D"⟩
def RJ0 : String := "java/lang/String"
def TJ0 : u_T := fun k => match k with
  | 0 => ("java/lang/String", "value", "[B", true)
  | _ => ("java/lang/String", "coder", "B", true)
def tyJ0 : Nat → FieldType := fun k => match k with
  | 0 => .array .byte
  | _ => .byte
theorem nmJ0 : ∀ a, a < 2 → ∀ b, b < 2 → a ≠ b → (TJ0 a).2.1 ≠ (TJ0 b).2.1 := by decide +kernel
theorem tyJ0_ok : ∀ k, k < 2 → parseFieldDescriptor (TJ0 k).2.2.1 = some (tyJ0 k) := by decide +kernel
abbrev cJ0_length_8abf5 : ByteArray := prog_35_method_54_code
def yJ0_length_8abf5 : MethodName := ⟨RJ0, "length", "()I"⟩
abbrev cJ0_indexOf_0f7a4 : ByteArray := prog_35_method_79_code
def yJ0_indexOf_0f7a4 : MethodName := ⟨RJ0, "indexOf", "(I)I"⟩
abbrev cJ0_indexOf_7cf53 : ByteArray := prog_35_method_80_code
def yJ0_indexOf_7cf53 : MethodName := ⟨RJ0, "indexOf", "(II)I"⟩
abbrev cJ0_coder_7d493 : ByteArray := prog_35_method_152_code
def yJ0_coder_7d493 : MethodName := ⟨RJ0, "coder", "()B"⟩
abbrev cJ0_isLatin1_aae02 : ByteArray := prog_35_method_154_code
def yJ0_isLatin1_aae02 : MethodName := ⟨RJ0, "isLatin1", "()Z"⟩
abbrev cJ0_checkBoundsBeginEnd_23922 : ByteArray := prog_35_method_158_code
def yJ0_checkBoundsBeginEnd_23922 : MethodName := ⟨RJ0, "checkBoundsBeginEnd", "(III)V"⟩
def RJ1 : String := "java/lang/StringLatin1"
def TJ1 : u_T := fun k => match k with
  | _ => ("", "", "", false)
def tyJ1 : Nat → FieldType := fun k => match k with
  | _ => .int
theorem nmJ1 : ∀ a, a < 0 → ∀ b, b < 0 → a ≠ b → (TJ1 a).2.1 ≠ (TJ1 b).2.1 := by decide +kernel
theorem tyJ1_ok : ∀ k, k < 0 → parseFieldDescriptor (TJ1 k).2.2.1 = some (tyJ1 k) := by decide +kernel
abbrev cJ1_canEncode_9a6ad : ByteArray := prog_36_method_4_code
def yJ1_canEncode_9a6ad : MethodName := ⟨RJ1, "canEncode", "(I)Z"⟩
abbrev cJ1_indexOf_4cfef : ByteArray := prog_36_method_22_code
def yJ1_indexOf_4cfef : MethodName := ⟨RJ1, "indexOf", "([BIII)I"⟩
abbrev cJ1_indexOfChar_4cfef : ByteArray := prog_36_method_23_code
def yJ1_indexOfChar_4cfef : MethodName := ⟨RJ1, "indexOfChar", "([BIII)I"⟩
def RJ2 : String := "java/lang/StringUTF16"
def TJ2 : u_T := fun k => match k with
  | _ => ("", "", "", false)
def tyJ2 : Nat → FieldType := fun k => match k with
  | _ => .int
theorem nmJ2 : ∀ a, a < 0 → ∀ b, b < 0 → a ≠ b → (TJ2 a).2.1 ≠ (TJ2 b).2.1 := by decide +kernel
theorem tyJ2_ok : ∀ k, k < 0 → parseFieldDescriptor (TJ2 k).2.2.1 = some (tyJ2 k) := by decide +kernel
abbrev cJ2_getChar_3b067 : ByteArray := prog_37_method_5_code
def yJ2_getChar_3b067 : MethodName := ⟨RJ2, "getChar", "([BI)C"⟩
abbrev cJ2_length_9d52b : ByteArray := prog_37_method_6_code
def yJ2_length_9d52b : MethodName := ⟨RJ2, "length", "([B)I"⟩
abbrev cJ2_indexOf_4cfef : ByteArray := prog_37_method_40_code
def yJ2_indexOf_4cfef : MethodName := ⟨RJ2, "indexOf", "([BIII)I"⟩
abbrev cJ2_indexOfChar_4cfef : ByteArray := prog_37_method_47_code
def yJ2_indexOfChar_4cfef : MethodName := ⟨RJ2, "indexOfChar", "([BIII)I"⟩
abbrev cJ2_indexOfCharUnsafe_4cfef : ByteArray := prog_37_method_48_code
def yJ2_indexOfCharUnsafe_4cfef : MethodName := ⟨RJ2, "indexOfCharUnsafe", "([BIII)I"⟩
abbrev cJ2_indexOfSupplementary_4cfef : ByteArray := prog_37_method_49_code
def yJ2_indexOfSupplementary_4cfef : MethodName := ⟨RJ2, "indexOfSupplementary", "([BIII)I"⟩
abbrev cJ2_checkBoundsBeginEnd_d044e : ByteArray := prog_37_method_93_code
def yJ2_checkBoundsBeginEnd_d044e : MethodName := ⟨RJ2, "checkBoundsBeginEnd", "(II[B)V"⟩
def RJ10 : String := "java/lang/System"
def TJ10 : u_T := fun k => match k with
  | _ => ("", "", "", false)
def tyJ10 : Nat → FieldType := fun k => match k with
  | _ => .int
theorem nmJ10 : ∀ a, a < 0 → ∀ b, b < 0 → a ≠ b → (TJ10 a).2.1 ≠ (TJ10 b).2.1 := by decide +kernel
theorem tyJ10_ok : ∀ k, k < 0 → parseFieldDescriptor (TJ10 k).2.2.1 = some (tyJ10 k) := by decide +kernel
def RJxfd54e : String := "java/lang/constant/Constable"
def TJxfd54e : u_T := fun k => match k with
  | _ => ("", "", "", false)
def tyJxfd54e : Nat → FieldType := fun k => match k with
  | _ => .int
theorem nmJxfd54e : ∀ a, a < 0 → ∀ b, b < 0 → a ≠ b → (TJxfd54e a).2.1 ≠ (TJxfd54e b).2.1 := by decide +kernel
theorem tyJxfd54e_ok : ∀ k, k < 0 → parseFieldDescriptor (TJxfd54e k).2.2.1 = some (tyJxfd54e k) := by decide +kernel
def RJx3cf43 : String := "java/lang/constant/ConstantDesc"
def TJx3cf43 : u_T := fun k => match k with
  | _ => ("", "", "", false)
def tyJx3cf43 : Nat → FieldType := fun k => match k with
  | _ => .int
theorem nmJx3cf43 : ∀ a, a < 0 → ∀ b, b < 0 → a ≠ b → (TJx3cf43 a).2.1 ≠ (TJx3cf43 b).2.1 := by decide +kernel
theorem tyJx3cf43_ok : ∀ k, k < 0 → parseFieldDescriptor (TJx3cf43 k).2.2.1 = some (tyJx3cf43 k) := by decide +kernel
def RJxa1e45 : String := "java/util/AbstractCollection"
def TJxa1e45 : u_T := fun k => match k with
  | _ => ("", "", "", false)
def tyJxa1e45 : Nat → FieldType := fun k => match k with
  | _ => .int
theorem nmJxa1e45 : ∀ a, a < 0 → ∀ b, b < 0 → a ≠ b → (TJxa1e45 a).2.1 ≠ (TJxa1e45 b).2.1 := by decide +kernel
theorem tyJxa1e45_ok : ∀ k, k < 0 → parseFieldDescriptor (TJxa1e45 k).2.2.1 = some (tyJxa1e45 k) := by decide +kernel
abbrev cJxa1e45_init_da8c8 : ByteArray := prog_43_method_1_code
def yJxa1e45_init_da8c8 : MethodName := ⟨RJxa1e45, "<init>", "()V"⟩
def RJxc12de : String := "java/util/AbstractList"
def TJxc12de : u_T := fun k => match k with
  | _ => ("", "", "", false)
def tyJxc12de : Nat → FieldType := fun k => match k with
  | _ => .int
theorem nmJxc12de : ∀ a, a < 0 → ∀ b, b < 0 → a ≠ b → (TJxc12de a).2.1 ≠ (TJxc12de b).2.1 := by decide +kernel
theorem tyJxc12de_ok : ∀ k, k < 0 → parseFieldDescriptor (TJxc12de k).2.2.1 = some (tyJxc12de k) := by decide +kernel
abbrev cJxc12de_init_da8c8 : ByteArray := prog_44_method_1_code
def yJxc12de_init_da8c8 : MethodName := ⟨RJxc12de, "<init>", "()V"⟩
def RJx35411 : String := "java/util/ArrayList$Itr"
def TJx35411 : u_T := fun k => match k with
  | 0 => ("java/util/ArrayList$Itr", "cursor", "I", false)
  | 1 => ("java/util/ArrayList$Itr", "lastRet", "I", false)
  | 2 => ("java/util/ArrayList$Itr", "expectedModCount", "I", false)
  | _ => ("java/util/ArrayList$Itr", "this$0", "Ljava/util/ArrayList;", true)
def tyJx35411 : Nat → FieldType := fun k => match k with
  | 0 => .int
  | 1 => .int
  | 2 => .int
  | _ => .object "java/util/ArrayList"
theorem nmJx35411 : ∀ a, a < 4 → ∀ b, b < 4 → a ≠ b → (TJx35411 a).2.1 ≠ (TJx35411 b).2.1 := by decide +kernel
theorem tyJx35411_ok : ∀ k, k < 4 → parseFieldDescriptor (TJx35411 k).2.2.1 = some (tyJx35411 k) := by decide +kernel
abbrev cJx35411_init_45d68 : ByteArray := prog_46_method_1_code
def yJx35411_init_45d68 : MethodName := ⟨RJx35411, "<init>", "(Ljava/util/ArrayList;)V"⟩
abbrev cJx35411_hasNext_aae02 : ByteArray := prog_46_method_2_code
def yJx35411_hasNext_aae02 : MethodName := ⟨RJx35411, "hasNext", "()Z"⟩
abbrev cJx35411_next_0502b : ByteArray := prog_46_method_3_code
def yJx35411_next_0502b : MethodName := ⟨RJx35411, "next", "()Ljava/lang/Object;"⟩
abbrev cJx35411_checkForComodification_da8c8 : ByteArray := prog_46_method_6_code
def yJx35411_checkForComodification_da8c8 : MethodName := ⟨RJx35411, "checkForComodification", "()V"⟩
def RJx4a65c : String := "java/util/ArrayList"
def TJx4a65c : u_T := fun k => match k with
  | 0 => ("java/util/AbstractList", "modCount", "I", false)
  | 1 => ("java/util/ArrayList", "elementData", "[Ljava/lang/Object;", false)
  | _ => ("java/util/ArrayList", "size", "I", false)
def tyJx4a65c : Nat → FieldType := fun k => match k with
  | 0 => .int
  | 1 => .array (.object "java/lang/Object")
  | _ => .int
theorem nmJx4a65c : ∀ a, a < 3 → ∀ b, b < 3 → a ≠ b → (TJx4a65c a).2.1 ≠ (TJx4a65c b).2.1 := by decide +kernel
theorem tyJx4a65c_ok : ∀ k, k < 3 → parseFieldDescriptor (TJx4a65c k).2.2.1 = some (tyJx4a65c k) := by decide +kernel
abbrev cJx4a65c_init_da8c8 : ByteArray := prog_45_method_2_code
def yJx4a65c_init_da8c8 : MethodName := ⟨RJx4a65c, "<init>", "()V"⟩
abbrev cJx4a65c_grow_92f84 : ByteArray := prog_45_method_6_code
def yJx4a65c_grow_92f84 : MethodName := ⟨RJx4a65c, "grow", "(I)[Ljava/lang/Object;"⟩
abbrev cJx4a65c_grow_d5877 : ByteArray := prog_45_method_7_code
def yJx4a65c_grow_d5877 : MethodName := ⟨RJx4a65c, "grow", "()[Ljava/lang/Object;"⟩
abbrev cJx4a65c_size_8abf5 : ByteArray := prog_45_method_8_code
def yJx4a65c_size_8abf5 : MethodName := ⟨RJx4a65c, "size", "()I"⟩
abbrev cJx4a65c_isEmpty_aae02 : ByteArray := prog_45_method_9_code
def yJx4a65c_isEmpty_aae02 : MethodName := ⟨RJx4a65c, "isEmpty", "()Z"⟩
abbrev cJx4a65c_elementData_915e3 : ByteArray := prog_45_method_18_code
def yJx4a65c_elementData_915e3 : MethodName := ⟨RJx4a65c, "elementData", "(I)Ljava/lang/Object;"⟩
abbrev cJx4a65c_get_915e3 : ByteArray := prog_45_method_20_code
def yJx4a65c_get_915e3 : MethodName := ⟨RJx4a65c, "get", "(I)Ljava/lang/Object;"⟩
abbrev cJx4a65c_add_72be8 : ByteArray := prog_45_method_24_code
def yJx4a65c_add_72be8 : MethodName := ⟨RJx4a65c, "add", "(Ljava/lang/Object;[Ljava/lang/Object;I)V"⟩
abbrev cJx4a65c_add_9ea2d : ByteArray := prog_45_method_25_code
def yJx4a65c_add_9ea2d : MethodName := ⟨RJx4a65c, "add", "(Ljava/lang/Object;)Z"⟩
abbrev cJx4a65c_remove_915e3 : ByteArray := prog_45_method_29_code
def yJx4a65c_remove_915e3 : MethodName := ⟨RJx4a65c, "remove", "(I)Ljava/lang/Object;"⟩
abbrev cJx4a65c_fastRemove_b59b0 : ByteArray := prog_45_method_39_code
def yJx4a65c_fastRemove_b59b0 : MethodName := ⟨RJx4a65c, "fastRemove", "([Ljava/lang/Object;I)V"⟩
abbrev cJx4a65c_clear_da8c8 : ByteArray := prog_45_method_40_code
def yJx4a65c_clear_da8c8 : MethodName := ⟨RJx4a65c, "clear", "()V"⟩
abbrev cJx4a65c_iterator_32c93 : ByteArray := prog_45_method_55_code
def yJx4a65c_iterator_32c93 : MethodName := ⟨RJx4a65c, "iterator", "()Ljava/util/Iterator;"⟩
def RJ7 : String := "java/util/Arrays"
def TJ7 : u_T := fun k => match k with
  | _ => ("", "", "", false)
def tyJ7 : Nat → FieldType := fun k => match k with
  | _ => .int
theorem nmJ7 : ∀ a, a < 0 → ∀ b, b < 0 → a ≠ b → (TJ7 a).2.1 ≠ (TJ7 b).2.1 := by decide +kernel
theorem tyJ7_ok : ∀ k, k < 0 → parseFieldDescriptor (TJ7 k).2.2.1 = some (tyJ7 k) := by decide +kernel
abbrev cJ7_fill_53178 : ByteArray := prog_47_method_103_code
def yJ7_fill_53178 : MethodName := ⟨RJ7, "fill", "([II)V"⟩
abbrev cJ7_copyOf_1904c : ByteArray := prog_47_method_119_code
def yJ7_copyOf_1904c : MethodName := ⟨RJ7, "copyOf", "([Ljava/lang/Object;I)[Ljava/lang/Object;"⟩
abbrev cJ7_copyOf_6403c : ByteArray := prog_47_method_120_code
def yJ7_copyOf_6403c : MethodName := ⟨RJ7, "copyOf", "([Ljava/lang/Object;ILjava/lang/Class;)[Ljava/lang/Object;"⟩
def RJx5ef63 : String := "java/util/Collection"
def TJx5ef63 : u_T := fun k => match k with
  | _ => ("", "", "", false)
def tyJx5ef63 : Nat → FieldType := fun k => match k with
  | _ => .int
theorem nmJx5ef63 : ∀ a, a < 0 → ∀ b, b < 0 → a ≠ b → (TJx5ef63 a).2.1 ≠ (TJx5ef63 b).2.1 := by decide +kernel
theorem tyJx5ef63_ok : ∀ k, k < 0 → parseFieldDescriptor (TJx5ef63 k).2.2.1 = some (tyJx5ef63 k) := by decide +kernel
def RJx4d0d8 : String := "java/util/Iterator"
def TJx4d0d8 : u_T := fun k => match k with
  | _ => ("", "", "", false)
def tyJx4d0d8 : Nat → FieldType := fun k => match k with
  | _ => .int
theorem nmJx4d0d8 : ∀ a, a < 0 → ∀ b, b < 0 → a ≠ b → (TJx4d0d8 a).2.1 ≠ (TJx4d0d8 b).2.1 := by decide +kernel
theorem tyJx4d0d8_ok : ∀ k, k < 0 → parseFieldDescriptor (TJx4d0d8 k).2.2.1 = some (tyJx4d0d8 k) := by decide +kernel
def RJxbd725 : String := "java/util/List"
def TJxbd725 : u_T := fun k => match k with
  | _ => ("", "", "", false)
def tyJxbd725 : Nat → FieldType := fun k => match k with
  | _ => .int
theorem nmJxbd725 : ∀ a, a < 0 → ∀ b, b < 0 → a ≠ b → (TJxbd725 a).2.1 ≠ (TJxbd725 b).2.1 := by decide +kernel
theorem tyJxbd725_ok : ∀ k, k < 0 → parseFieldDescriptor (TJxbd725 k).2.2.1 = some (tyJxbd725 k) := by decide +kernel
def RJ15 : String := "java/util/Objects"
def TJ15 : u_T := fun k => match k with
  | _ => ("", "", "", false)
def tyJ15 : Nat → FieldType := fun k => match k with
  | _ => .int
theorem nmJ15 : ∀ a, a < 0 → ∀ b, b < 0 → a ≠ b → (TJ15 a).2.1 ≠ (TJ15 b).2.1 := by decide +kernel
theorem tyJ15_ok : ∀ k, k < 0 → parseFieldDescriptor (TJ15 k).2.2.1 = some (tyJ15 k) := by decide +kernel
abbrev cJ15_checkIndex_7cf53 : ByteArray := prog_52_method_17_code
def yJ15_checkIndex_7cf53 : MethodName := ⟨RJ15, "checkIndex", "(II)I"⟩
def RJxf0a74 : String := "java/util/RandomAccess"
def TJxf0a74 : u_T := fun k => match k with
  | _ => ("", "", "", false)
def tyJxf0a74 : Nat → FieldType := fun k => match k with
  | _ => .int
theorem nmJxf0a74 : ∀ a, a < 0 → ∀ b, b < 0 → a ≠ b → (TJxf0a74 a).2.1 ≠ (TJxf0a74 b).2.1 := by decide +kernel
theorem tyJxf0a74_ok : ∀ k, k < 0 → parseFieldDescriptor (TJxf0a74 k).2.2.1 = some (tyJxf0a74 k) := by decide +kernel
def RJxa66e6 : String := "java/util/SequencedCollection"
def TJxa66e6 : u_T := fun k => match k with
  | _ => ("", "", "", false)
def tyJxa66e6 : Nat → FieldType := fun k => match k with
  | _ => .int
theorem nmJxa66e6 : ∀ a, a < 0 → ∀ b, b < 0 → a ≠ b → (TJxa66e6 a).2.1 ≠ (TJxa66e6 b).2.1 := by decide +kernel
theorem tyJxa66e6_ok : ∀ k, k < 0 → parseFieldDescriptor (TJxa66e6 k).2.2.1 = some (tyJxa66e6 k) := by decide +kernel
def RJ8 : String := "jdk/internal/util/ArraysSupport"
def TJ8 : u_T := fun k => match k with
  | _ => ("", "", "", false)
def tyJ8 : Nat → FieldType := fun k => match k with
  | _ => .int
theorem nmJ8 : ∀ a, a < 0 → ∀ b, b < 0 → a ≠ b → (TJ8 a).2.1 ≠ (TJ8 b).2.1 := by decide +kernel
theorem tyJ8_ok : ∀ k, k < 0 → parseFieldDescriptor (TJ8 k).2.2.1 = some (tyJ8 k) := by decide +kernel
abbrev cJ8_newLength_cabcc : ByteArray := prog_55_method_27_code
def yJ8_newLength_cabcc : MethodName := ⟨RJ8, "newLength", "(III)I"⟩
abbrev cJ8_hugeLength_7cf53 : ByteArray := prog_55_method_28_code
def yJ8_hugeLength_7cf53 : MethodName := ⟨RJ8, "hugeLength", "(II)I"⟩
def RJ3 : String := "jdk/internal/util/Preconditions"
def TJ3 : u_T := fun k => match k with
  | _ => ("", "", "", false)
def tyJ3 : Nat → FieldType := fun k => match k with
  | _ => .int
theorem nmJ3 : ∀ a, a < 0 → ∀ b, b < 0 → a ≠ b → (TJ3 a).2.1 ≠ (TJ3 b).2.1 := by decide +kernel
theorem tyJ3_ok : ∀ k, k < 0 → parseFieldDescriptor (TJ3 k).2.2.1 = some (tyJ3 k) := by decide +kernel
abbrev cJ3_checkIndex_8e157 : ByteArray := prog_56_method_11_code
def yJ3_checkIndex_8e157 : MethodName := ⟨RJ3, "checkIndex", "(IILjava/util/function/BiFunction;)I"⟩
abbrev cJ3_checkFromToIndex_8c36e : ByteArray := prog_56_method_12_code
def yJ3_checkFromToIndex_8c36e : MethodName := ⟨RJ3, "checkFromToIndex", "(IIILjava/util/function/BiFunction;)I"⟩
def RL : String := "PitForgeLaw"
abbrev cL_rock : ByteArray := method_3_code
def yL_rock : MethodName := ⟨RL, "rock", "(LPitForge;IC[J)I"⟩
abbrev cL_sample : ByteArray := method_4_code
def yL_sample : MethodName := ⟨RL, "sample", "(LPitForge;II[J)I"⟩
abbrev cL_tellTruth : ByteArray := method_5_code
def yL_tellTruth : MethodName := ⟨RL, "tellTruth", "(LPitForge;II[J)I"⟩
abbrev cL_grade : ByteArray := method_6_code
def yL_grade : MethodName := ⟨RL, "grade", "(LPitForge;I[J)I"⟩
abbrev cL_worth : ByteArray := method_7_code
def yL_worth : MethodName := ⟨RL, "worth", "(LPitForge;II[J)I"⟩
abbrev cL_isFree : ByteArray := method_8_code
def yL_isFree : MethodName := ⟨RL, "isFree", "(LPitForge;I[J)I"⟩
abbrev cL_isDug : ByteArray := method_9_code
def yL_isDug : MethodName := ⟨RL, "isDug", "(LPitForge;I[J)I"⟩
abbrev cL_pitWorth : ByteArray := method_10_code
def yL_pitWorth : MethodName := ⟨RL, "pitWorth", "(LPitForge;I[J)I"⟩
abbrev cL_pitSize : ByteArray := method_11_code
def yL_pitSize : MethodName := ⟨RL, "pitSize", "(LPitForge;I[J)I"⟩
abbrev cL_isInPit : ByteArray := method_12_code
def yL_isInPit : MethodName := ⟨RL, "isInPit", "(LPitForge;II[J)I"⟩
abbrev cL_worthWith : ByteArray := method_13_code
def yL_worthWith : MethodName := ⟨RL, "worthWith", "(LPitForge;II[J)I"⟩
abbrev cL_phase : ByteArray := method_14_code
def yL_phase : MethodName := ⟨RL, "phase", "(LPitForge;I[J)I"⟩
abbrev cL_phaseOf : ByteArray := method_15_code
def yL_phaseOf : MethodName := ⟨RL, "phaseOf", "(LPitForge;I[J)I"⟩
abbrev cL_set : ByteArray := method_16_code
def yL_set : MethodName := ⟨RL, "set", "(LPitForge;CI[J)I"⟩
abbrev cL_goOn : ByteArray := method_17_code
def yL_goOn : MethodName := ⟨RL, "goOn", "(LPitForge;I[J)I"⟩
abbrev cL_wentTo : ByteArray := method_18_code
def yL_wentTo : MethodName := ⟨RL, "wentTo", "(LPitForge;I[J)I"⟩
abbrev cL_dugIn : ByteArray := method_19_code
def yL_dugIn : MethodName := ⟨RL, "dugIn", "(LPitForge;I[J)I"⟩
abbrev cL_recovery : ByteArray := method_20_code
def yL_recovery : MethodName := ⟨RL, "recovery", "(LPitForge;[J)I"⟩
abbrev cL_tons : ByteArray := method_21_code
def yL_tons : MethodName := ⟨RL, "tons", "(LPitForge;C[J)I"⟩
abbrev cL_factor : ByteArray := method_22_code
def yL_factor : MethodName := ⟨RL, "factor", "(LPitForge;[J)I"⟩
abbrev cL_meanFed : ByteArray := method_23_code
def yL_meanFed : MethodName := ⟨RL, "meanFed", "(LPitForge;[D)I"⟩
abbrev cL_law : ByteArray := code
def yL_law : MethodName := ⟨RL, "law", "([I)Z"⟩
theorem dX0_init_0 : decode cX0_init 0 = .ok (.aload_n 0, 1) := by decide +kernel
theorem dX0_init_1 : decode cX0_init 1 = .ok (.invokespecial 3, 3) := by decide +kernel
theorem dX0_init_4 : decode cX0_init 4 = .ok (.aload_n 0, 1) := by decide +kernel
theorem dX0_init_5 : decode cX0_init 5 = .ok (.bipush 60, 2) := by decide +kernel
theorem dX0_init_7 : decode cX0_init 7 = .ok (.newarray .int, 2) := by decide +kernel
theorem dX0_init_9 : decode cX0_init 9 = .ok (.putfield 9, 3) := by decide +kernel
theorem dX0_init_12 : decode cX0_init 12 = .ok (.aload_n 0, 1) := by decide +kernel
theorem dX0_init_13 : decode cX0_init 13 = .ok (.bipush 60, 2) := by decide +kernel
theorem dX0_init_15 : decode cX0_init 15 = .ok (.newarray .char, 2) := by decide +kernel
theorem dX0_init_17 : decode cX0_init 17 = .ok (.putfield 15, 3) := by decide +kernel
theorem dX0_init_20 : decode cX0_init 20 = .ok (.return_, 1) := by decide +kernel
theorem dX0_truthOf_0 : decode cX0_truthOf 0 = .ok (.iload_n 1, 1) := by decide +kernel
theorem dX0_truthOf_1 : decode cX0_truthOf 1 = .ok (.invokestatic 19, 3) := by decide +kernel
theorem dX0_truthOf_4 : decode cX0_truthOf 4 = .ok (.ifCond .eq 14, 3) := by decide +kernel
theorem dX0_truthOf_7 : decode cX0_truthOf 7 = .ok (.aload_n 0, 1) := by decide +kernel
theorem dX0_truthOf_8 : decode cX0_truthOf 8 = .ok (.getfield 9, 3) := by decide +kernel
theorem dX0_truthOf_11 : decode cX0_truthOf 11 = .ok (.iload_n 1, 1) := by decide +kernel
theorem dX0_truthOf_12 : decode cX0_truthOf 12 = .ok (.iaload, 1) := by decide +kernel
theorem dX0_truthOf_13 : decode cX0_truthOf 13 = .ok (.iconst 1, 1) := by decide +kernel
theorem dX0_truthOf_14 : decode cX0_truthOf 14 = .ok (.isub, 1) := by decide +kernel
theorem dX0_truthOf_15 : decode cX0_truthOf 15 = .ok (.goto 4, 3) := by decide +kernel
theorem dX0_truthOf_18 : decode cX0_truthOf 18 = .ok (.iconst (-1), 1) := by decide +kernel
theorem dX0_truthOf_19 : decode cX0_truthOf 19 = .ok (.ireturn, 1) := by decide +kernel
theorem dX0_noteTruth_0 : decode cX0_noteTruth 0 = .ok (.iload_n 1, 1) := by decide +kernel
theorem dX0_noteTruth_1 : decode cX0_noteTruth 1 = .ok (.invokestatic 19, 3) := by decide +kernel
theorem dX0_noteTruth_4 : decode cX0_noteTruth 4 = .ok (.ifCond .eq 12, 3) := by decide +kernel
theorem dX0_noteTruth_7 : decode cX0_noteTruth 7 = .ok (.aload_n 0, 1) := by decide +kernel
theorem dX0_noteTruth_8 : decode cX0_noteTruth 8 = .ok (.getfield 9, 3) := by decide +kernel
theorem dX0_noteTruth_11 : decode cX0_noteTruth 11 = .ok (.iload_n 1, 1) := by decide +kernel
theorem dX0_noteTruth_12 : decode cX0_noteTruth 12 = .ok (.iload_n 2, 1) := by decide +kernel
theorem dX0_noteTruth_13 : decode cX0_noteTruth 13 = .ok (.iconst 1, 1) := by decide +kernel
theorem dX0_noteTruth_14 : decode cX0_noteTruth 14 = .ok (.iadd, 1) := by decide +kernel
theorem dX0_noteTruth_15 : decode cX0_noteTruth 15 = .ok (.iastore, 1) := by decide +kernel
theorem dX0_noteTruth_16 : decode cX0_noteTruth 16 = .ok (.return_, 1) := by decide +kernel
theorem dX0_placeOf_0 : decode cX0_placeOf 0 = .ok (.iload_n 1, 1) := by decide +kernel
theorem dX0_placeOf_1 : decode cX0_placeOf 1 = .ok (.invokestatic 19, 3) := by decide +kernel
theorem dX0_placeOf_4 : decode cX0_placeOf 4 = .ok (.ifCond .eq 12, 3) := by decide +kernel
theorem dX0_placeOf_7 : decode cX0_placeOf 7 = .ok (.aload_n 0, 1) := by decide +kernel
theorem dX0_placeOf_8 : decode cX0_placeOf 8 = .ok (.getfield 15, 3) := by decide +kernel
theorem dX0_placeOf_11 : decode cX0_placeOf 11 = .ok (.iload_n 1, 1) := by decide +kernel
theorem dX0_placeOf_12 : decode cX0_placeOf 12 = .ok (.caload, 1) := by decide +kernel
theorem dX0_placeOf_13 : decode cX0_placeOf 13 = .ok (.goto 5, 3) := by decide +kernel
theorem dX0_placeOf_16 : decode cX0_placeOf 16 = .ok (.bipush 32, 2) := by decide +kernel
theorem dX0_placeOf_18 : decode cX0_placeOf 18 = .ok (.ireturn, 1) := by decide +kernel
theorem dX0_notePlace_0 : decode cX0_notePlace 0 = .ok (.iload_n 1, 1) := by decide +kernel
theorem dX0_notePlace_1 : decode cX0_notePlace 1 = .ok (.invokestatic 19, 3) := by decide +kernel
theorem dX0_notePlace_4 : decode cX0_notePlace 4 = .ok (.ifCond .eq 10, 3) := by decide +kernel
theorem dX0_notePlace_7 : decode cX0_notePlace 7 = .ok (.aload_n 0, 1) := by decide +kernel
theorem dX0_notePlace_8 : decode cX0_notePlace 8 = .ok (.getfield 15, 3) := by decide +kernel
theorem dX0_notePlace_11 : decode cX0_notePlace 11 = .ok (.iload_n 1, 1) := by decide +kernel
theorem dX0_notePlace_12 : decode cX0_notePlace 12 = .ok (.iload_n 2, 1) := by decide +kernel
theorem dX0_notePlace_13 : decode cX0_notePlace 13 = .ok (.castore, 1) := by decide +kernel
theorem dX0_notePlace_14 : decode cX0_notePlace 14 = .ok (.return_, 1) := by decide +kernel
theorem dX0_noteGrades_0 : decode cX0_noteGrades 0 = .ok (.aload_n 0, 1) := by decide +kernel
theorem dX0_noteGrades_1 : decode cX0_noteGrades 1 = .ok (.dup, 1) := by decide +kernel
theorem dX0_noteGrades_2 : decode cX0_noteGrades 2 = .ok (.getfield 23, 3) := by decide +kernel
theorem dX0_noteGrades_5 : decode cX0_noteGrades 5 = .ok (.iload_n 1, 1) := by decide +kernel
theorem dX0_noteGrades_6 : decode cX0_noteGrades 6 = .ok (.iadd, 1) := by decide +kernel
theorem dX0_noteGrades_7 : decode cX0_noteGrades 7 = .ok (.putfield 23, 3) := by decide +kernel
theorem dX0_noteGrades_10 : decode cX0_noteGrades 10 = .ok (.aload_n 0, 1) := by decide +kernel
theorem dX0_noteGrades_11 : decode cX0_noteGrades 11 = .ok (.dup, 1) := by decide +kernel
theorem dX0_noteGrades_12 : decode cX0_noteGrades 12 = .ok (.getfield 27, 3) := by decide +kernel
theorem dX0_noteGrades_15 : decode cX0_noteGrades 15 = .ok (.iload_n 2, 1) := by decide +kernel
theorem dX0_noteGrades_16 : decode cX0_noteGrades 16 = .ok (.iadd, 1) := by decide +kernel
theorem dX0_noteGrades_17 : decode cX0_noteGrades 17 = .ok (.putfield 27, 3) := by decide +kernel
theorem dX0_noteGrades_20 : decode cX0_noteGrades 20 = .ok (.return_, 1) := by decide +kernel
theorem dX1_init_0 : decode cX1_init 0 = .ok (.aload_n 0, 1) := by decide +kernel
theorem dX1_init_1 : decode cX1_init 1 = .ok (.invokespecial 3, 3) := by decide +kernel
theorem dX1_init_4 : decode cX1_init 4 = .ok (.aload_n 0, 1) := by decide +kernel
theorem dX1_init_5 : decode cX1_init 5 = .ok (.bipush 60, 2) := by decide +kernel
theorem dX1_init_7 : decode cX1_init 7 = .ok (.newarray .boolean, 2) := by decide +kernel
theorem dX1_init_9 : decode cX1_init 9 = .ok (.putfield 9, 3) := by decide +kernel
theorem dX1_init_12 : decode cX1_init 12 = .ok (.aload_n 0, 1) := by decide +kernel
theorem dX1_init_13 : decode cX1_init 13 = .ok (.bipush 60, 2) := by decide +kernel
theorem dX1_init_15 : decode cX1_init 15 = .ok (.newarray .int, 2) := by decide +kernel
theorem dX1_init_17 : decode cX1_init 17 = .ok (.putfield 15, 3) := by decide +kernel
theorem dX1_init_20 : decode cX1_init 20 = .ok (.aload_n 0, 1) := by decide +kernel
theorem dX1_init_21 : decode cX1_init 21 = .ok (.bipush 60, 2) := by decide +kernel
theorem dX1_init_23 : decode cX1_init 23 = .ok (.newarray .int, 2) := by decide +kernel
theorem dX1_init_25 : decode cX1_init 25 = .ok (.putfield 19, 3) := by decide +kernel
theorem dX1_init_28 : decode cX1_init 28 = .ok (.return_, 1) := by decide +kernel
theorem dX1_wasDug_0 : decode cX1_wasDug 0 = .ok (.iload_n 1, 1) := by decide +kernel
theorem dX1_wasDug_1 : decode cX1_wasDug 1 = .ok (.invokestatic 22, 3) := by decide +kernel
theorem dX1_wasDug_4 : decode cX1_wasDug 4 = .ok (.ifCond .eq 16, 3) := by decide +kernel
theorem dX1_wasDug_7 : decode cX1_wasDug 7 = .ok (.aload_n 0, 1) := by decide +kernel
theorem dX1_wasDug_8 : decode cX1_wasDug 8 = .ok (.getfield 15, 3) := by decide +kernel
theorem dX1_wasDug_11 : decode cX1_wasDug 11 = .ok (.iload_n 1, 1) := by decide +kernel
theorem dX1_wasDug_12 : decode cX1_wasDug 12 = .ok (.iaload, 1) := by decide +kernel
theorem dX1_wasDug_13 : decode cX1_wasDug 13 = .ok (.ifCond .le 7, 3) := by decide +kernel
theorem dX1_wasDug_16 : decode cX1_wasDug 16 = .ok (.iconst 1, 1) := by decide +kernel
theorem dX1_wasDug_17 : decode cX1_wasDug 17 = .ok (.goto 4, 3) := by decide +kernel
theorem dX1_wasDug_20 : decode cX1_wasDug 20 = .ok (.iconst 0, 1) := by decide +kernel
theorem dX1_wasDug_21 : decode cX1_wasDug 21 = .ok (.ireturn, 1) := by decide +kernel
theorem dX1_isHard_0 : decode cX1_isHard 0 = .ok (.iload_n 1, 1) := by decide +kernel
theorem dX1_isHard_1 : decode cX1_isHard 1 = .ok (.invokestatic 22, 3) := by decide +kernel
theorem dX1_isHard_4 : decode cX1_isHard 4 = .ok (.ifCond .eq 16, 3) := by decide +kernel
theorem dX1_isHard_7 : decode cX1_isHard 7 = .ok (.aload_n 0, 1) := by decide +kernel
theorem dX1_isHard_8 : decode cX1_isHard 8 = .ok (.getfield 9, 3) := by decide +kernel
theorem dX1_isHard_11 : decode cX1_isHard 11 = .ok (.iload_n 1, 1) := by decide +kernel
theorem dX1_isHard_12 : decode cX1_isHard 12 = .ok (.baload, 1) := by decide +kernel
theorem dX1_isHard_13 : decode cX1_isHard 13 = .ok (.ifCond .eq 7, 3) := by decide +kernel
theorem dX1_isHard_16 : decode cX1_isHard 16 = .ok (.iconst 1, 1) := by decide +kernel
theorem dX1_isHard_17 : decode cX1_isHard 17 = .ok (.goto 4, 3) := by decide +kernel
theorem dX1_isHard_20 : decode cX1_isHard 20 = .ok (.iconst 0, 1) := by decide +kernel
theorem dX1_isHard_21 : decode cX1_isHard 21 = .ok (.ireturn, 1) := by decide +kernel
theorem dX1_harden_0 : decode cX1_harden 0 = .ok (.iload_n 1, 1) := by decide +kernel
theorem dX1_harden_1 : decode cX1_harden 1 = .ok (.invokestatic 22, 3) := by decide +kernel
theorem dX1_harden_4 : decode cX1_harden 4 = .ok (.ifCond .eq 10, 3) := by decide +kernel
theorem dX1_harden_7 : decode cX1_harden 7 = .ok (.aload_n 0, 1) := by decide +kernel
theorem dX1_harden_8 : decode cX1_harden 8 = .ok (.getfield 9, 3) := by decide +kernel
theorem dX1_harden_11 : decode cX1_harden 11 = .ok (.iload_n 1, 1) := by decide +kernel
theorem dX1_harden_12 : decode cX1_harden 12 = .ok (.iload_n 2, 1) := by decide +kernel
theorem dX1_harden_13 : decode cX1_harden 13 = .ok (.bastore, 1) := by decide +kernel
theorem dX1_harden_14 : decode cX1_harden 14 = .ok (.return_, 1) := by decide +kernel
theorem dX1_weekOf_0 : decode cX1_weekOf 0 = .ok (.iload_n 1, 1) := by decide +kernel
theorem dX1_weekOf_1 : decode cX1_weekOf 1 = .ok (.invokestatic 22, 3) := by decide +kernel
theorem dX1_weekOf_4 : decode cX1_weekOf 4 = .ok (.ifCond .eq 12, 3) := by decide +kernel
theorem dX1_weekOf_7 : decode cX1_weekOf 7 = .ok (.aload_n 0, 1) := by decide +kernel
theorem dX1_weekOf_8 : decode cX1_weekOf 8 = .ok (.getfield 19, 3) := by decide +kernel
theorem dX1_weekOf_11 : decode cX1_weekOf 11 = .ok (.iload_n 1, 1) := by decide +kernel
theorem dX1_weekOf_12 : decode cX1_weekOf 12 = .ok (.iaload, 1) := by decide +kernel
theorem dX1_weekOf_13 : decode cX1_weekOf 13 = .ok (.goto 4, 3) := by decide +kernel
theorem dX1_weekOf_16 : decode cX1_weekOf 16 = .ok (.iconst (-1), 1) := by decide +kernel
theorem dX1_weekOf_17 : decode cX1_weekOf 17 = .ok (.ireturn, 1) := by decide +kernel
theorem dX1_markDug_0 : decode cX1_markDug 0 = .ok (.iload_n 1, 1) := by decide +kernel
theorem dX1_markDug_1 : decode cX1_markDug 1 = .ok (.invokestatic 22, 3) := by decide +kernel
theorem dX1_markDug_4 : decode cX1_markDug 4 = .ok (.ifCond .eq 30, 3) := by decide +kernel
theorem dX1_markDug_7 : decode cX1_markDug 7 = .ok (.aload_n 0, 1) := by decide +kernel
theorem dX1_markDug_8 : decode cX1_markDug 8 = .ok (.dup, 1) := by decide +kernel
theorem dX1_markDug_9 : decode cX1_markDug 9 = .ok (.getfield 26, 3) := by decide +kernel
theorem dX1_markDug_12 : decode cX1_markDug 12 = .ok (.iconst 1, 1) := by decide +kernel
theorem dX1_markDug_13 : decode cX1_markDug 13 = .ok (.iadd, 1) := by decide +kernel
theorem dX1_markDug_14 : decode cX1_markDug 14 = .ok (.putfield 26, 3) := by decide +kernel
theorem dX1_markDug_17 : decode cX1_markDug 17 = .ok (.aload_n 0, 1) := by decide +kernel
theorem dX1_markDug_18 : decode cX1_markDug 18 = .ok (.getfield 15, 3) := by decide +kernel
theorem dX1_markDug_21 : decode cX1_markDug 21 = .ok (.iload_n 1, 1) := by decide +kernel
theorem dX1_markDug_22 : decode cX1_markDug 22 = .ok (.aload_n 0, 1) := by decide +kernel
theorem dX1_markDug_23 : decode cX1_markDug 23 = .ok (.getfield 26, 3) := by decide +kernel
theorem dX1_markDug_26 : decode cX1_markDug 26 = .ok (.iastore, 1) := by decide +kernel
theorem dX1_markDug_27 : decode cX1_markDug 27 = .ok (.aload_n 0, 1) := by decide +kernel
theorem dX1_markDug_28 : decode cX1_markDug 28 = .ok (.getfield 19, 3) := by decide +kernel
theorem dX1_markDug_31 : decode cX1_markDug 31 = .ok (.iload_n 1, 1) := by decide +kernel
theorem dX1_markDug_32 : decode cX1_markDug 32 = .ok (.iload_n 2, 1) := by decide +kernel
theorem dX1_markDug_33 : decode cX1_markDug 33 = .ok (.iastore, 1) := by decide +kernel
theorem dX1_markDug_34 : decode cX1_markDug 34 = .ok (.return_, 1) := by decide +kernel
theorem dX1_neededAbove_0 : decode cX1_neededAbove 0 = .ok (.iload_n 1, 1) := by decide +kernel
theorem dX1_neededAbove_1 : decode cX1_neededAbove 1 = .ok (.bipush 10, 2) := by decide +kernel
theorem dX1_neededAbove_3 : decode cX1_neededAbove 3 = .ok (.irem, 1) := by decide +kernel
theorem dX1_neededAbove_4 : decode cX1_neededAbove 4 = .ok (.iload_n 2, 1) := by decide +kernel
theorem dX1_neededAbove_5 : decode cX1_neededAbove 5 = .ok (.iadd, 1) := by decide +kernel
theorem dX1_neededAbove_6 : decode cX1_neededAbove 6 = .ok (.istore_n 3, 1) := by decide +kernel
theorem dX1_neededAbove_7 : decode cX1_neededAbove 7 = .ok (.iload_n 1, 1) := by decide +kernel
theorem dX1_neededAbove_8 : decode cX1_neededAbove 8 = .ok (.bipush 10, 2) := by decide +kernel
theorem dX1_neededAbove_10 : decode cX1_neededAbove 10 = .ok (.if_icmp .lt 25, 3) := by decide +kernel
theorem dX1_neededAbove_13 : decode cX1_neededAbove 13 = .ok (.iload_n 3, 1) := by decide +kernel
theorem dX1_neededAbove_14 : decode cX1_neededAbove 14 = .ok (.ifCond .lt 21, 3) := by decide +kernel
theorem dX1_neededAbove_17 : decode cX1_neededAbove 17 = .ok (.iload_n 3, 1) := by decide +kernel
theorem dX1_neededAbove_18 : decode cX1_neededAbove 18 = .ok (.bipush 10, 2) := by decide +kernel
theorem dX1_neededAbove_20 : decode cX1_neededAbove 20 = .ok (.if_icmp .ge 15, 3) := by decide +kernel
theorem dX1_neededAbove_23 : decode cX1_neededAbove 23 = .ok (.iload_n 2, 1) := by decide +kernel
theorem dX1_neededAbove_24 : decode cX1_neededAbove 24 = .ok (.ifCond .eq 13, 3) := by decide +kernel
theorem dX1_neededAbove_27 : decode cX1_neededAbove 27 = .ok (.aload_n 0, 1) := by decide +kernel
theorem dX1_neededAbove_28 : decode cX1_neededAbove 28 = .ok (.iload_n 1, 1) := by decide +kernel
theorem dX1_neededAbove_29 : decode cX1_neededAbove 29 = .ok (.invokevirtual 30, 3) := by decide +kernel
theorem dX1_neededAbove_32 : decode cX1_neededAbove 32 = .ok (.ifCond .eq 5, 3) := by decide +kernel
theorem dX1_neededAbove_35 : decode cX1_neededAbove 35 = .ok (.iconst (-1), 1) := by decide +kernel
theorem dX1_neededAbove_36 : decode cX1_neededAbove 36 = .ok (.ireturn, 1) := by decide +kernel
theorem dX1_neededAbove_37 : decode cX1_neededAbove 37 = .ok (.iload_n 1, 1) := by decide +kernel
theorem dX1_neededAbove_38 : decode cX1_neededAbove 38 = .ok (.bipush 10, 2) := by decide +kernel
theorem dX1_neededAbove_40 : decode cX1_neededAbove 40 = .ok (.isub, 1) := by decide +kernel
theorem dX1_neededAbove_41 : decode cX1_neededAbove 41 = .ok (.iload_n 2, 1) := by decide +kernel
theorem dX1_neededAbove_42 : decode cX1_neededAbove 42 = .ok (.iadd, 1) := by decide +kernel
theorem dX1_neededAbove_43 : decode cX1_neededAbove 43 = .ok (.ireturn, 1) := by decide +kernel
theorem dX1_liesFree_0 : decode cX1_liesFree 0 = .ok (.aload_n 0, 1) := by decide +kernel
theorem dX1_liesFree_1 : decode cX1_liesFree 1 = .ok (.iload_n 1, 1) := by decide +kernel
theorem dX1_liesFree_2 : decode cX1_liesFree 2 = .ok (.invokevirtual 33, 3) := by decide +kernel
theorem dX1_liesFree_5 : decode cX1_liesFree 5 = .ok (.ifCond .eq 5, 3) := by decide +kernel
theorem dX1_liesFree_8 : decode cX1_liesFree 8 = .ok (.iconst 0, 1) := by decide +kernel
theorem dX1_liesFree_9 : decode cX1_liesFree 9 = .ok (.ireturn, 1) := by decide +kernel
theorem dX1_liesFree_10 : decode cX1_liesFree 10 = .ok (.iconst (-1), 1) := by decide +kernel
theorem dX1_liesFree_11 : decode cX1_liesFree 11 = .ok (.istore_n 2, 1) := by decide +kernel
theorem dX1_liesFree_12 : decode cX1_liesFree 12 = .ok (.iload_n 2, 1) := by decide +kernel
theorem dX1_liesFree_13 : decode cX1_liesFree 13 = .ok (.iconst 1, 1) := by decide +kernel
theorem dX1_liesFree_14 : decode cX1_liesFree 14 = .ok (.if_icmp .gt 30, 3) := by decide +kernel
theorem dX1_liesFree_17 : decode cX1_liesFree 17 = .ok (.aload_n 0, 1) := by decide +kernel
theorem dX1_liesFree_18 : decode cX1_liesFree 18 = .ok (.iload_n 1, 1) := by decide +kernel
theorem dX1_liesFree_19 : decode cX1_liesFree 19 = .ok (.iload_n 2, 1) := by decide +kernel
theorem dX1_liesFree_20 : decode cX1_liesFree 20 = .ok (.invokevirtual 36, 3) := by decide +kernel
theorem dX1_liesFree_23 : decode cX1_liesFree 23 = .ok (.istore_n 3, 1) := by decide +kernel
theorem dX1_liesFree_24 : decode cX1_liesFree 24 = .ok (.iload_n 3, 1) := by decide +kernel
theorem dX1_liesFree_25 : decode cX1_liesFree 25 = .ok (.ifCond .lt 13, 3) := by decide +kernel
theorem dX1_liesFree_28 : decode cX1_liesFree 28 = .ok (.aload_n 0, 1) := by decide +kernel
theorem dX1_liesFree_29 : decode cX1_liesFree 29 = .ok (.iload_n 3, 1) := by decide +kernel
theorem dX1_liesFree_30 : decode cX1_liesFree 30 = .ok (.invokevirtual 33, 3) := by decide +kernel
theorem dX1_liesFree_33 : decode cX1_liesFree 33 = .ok (.ifCond .ne 5, 3) := by decide +kernel
theorem dX1_liesFree_36 : decode cX1_liesFree 36 = .ok (.iconst 0, 1) := by decide +kernel
theorem dX1_liesFree_37 : decode cX1_liesFree 37 = .ok (.ireturn, 1) := by decide +kernel
theorem dX1_liesFree_38 : decode cX1_liesFree 38 = .ok (.iinc 2 1, 3) := by decide +kernel
theorem dX1_liesFree_41 : decode cX1_liesFree 41 = .ok (.goto (-29), 3) := by decide +kernel
theorem dX1_liesFree_44 : decode cX1_liesFree 44 = .ok (.iconst 1, 1) := by decide +kernel
theorem dX1_liesFree_45 : decode cX1_liesFree 45 = .ok (.ireturn, 1) := by decide +kernel
theorem dX1_dugInColumn_0 : decode cX1_dugInColumn 0 = .ok (.iconst 0, 1) := by decide +kernel
theorem dX1_dugInColumn_1 : decode cX1_dugInColumn 1 = .ok (.istore_n 2, 1) := by decide +kernel
theorem dX1_dugInColumn_2 : decode cX1_dugInColumn 2 = .ok (.iload_n 2, 1) := by decide +kernel
theorem dX1_dugInColumn_3 : decode cX1_dugInColumn 3 = .ok (.bipush 6, 2) := by decide +kernel
theorem dX1_dugInColumn_5 : decode cX1_dugInColumn 5 = .ok (.if_icmp .ge 22, 3) := by decide +kernel
theorem dX1_dugInColumn_8 : decode cX1_dugInColumn 8 = .ok (.aload_n 0, 1) := by decide +kernel
theorem dX1_dugInColumn_9 : decode cX1_dugInColumn 9 = .ok (.iload_n 2, 1) := by decide +kernel
theorem dX1_dugInColumn_10 : decode cX1_dugInColumn 10 = .ok (.bipush 10, 2) := by decide +kernel
theorem dX1_dugInColumn_12 : decode cX1_dugInColumn 12 = .ok (.imul, 1) := by decide +kernel
theorem dX1_dugInColumn_13 : decode cX1_dugInColumn 13 = .ok (.iload_n 1, 1) := by decide +kernel
theorem dX1_dugInColumn_14 : decode cX1_dugInColumn 14 = .ok (.iadd, 1) := by decide +kernel
theorem dX1_dugInColumn_15 : decode cX1_dugInColumn 15 = .ok (.invokevirtual 33, 3) := by decide +kernel
theorem dX1_dugInColumn_18 : decode cX1_dugInColumn 18 = .ok (.ifCond .eq 9, 3) := by decide +kernel
theorem dX1_dugInColumn_21 : decode cX1_dugInColumn 21 = .ok (.iinc 2 1, 3) := by decide +kernel
theorem dX1_dugInColumn_24 : decode cX1_dugInColumn 24 = .ok (.goto (-22), 3) := by decide +kernel
theorem dX1_dugInColumn_27 : decode cX1_dugInColumn 27 = .ok (.iload_n 2, 1) := by decide +kernel
theorem dX1_dugInColumn_28 : decode cX1_dugInColumn 28 = .ok (.ireturn, 1) := by decide +kernel
theorem dX1_deepestDug_0 : decode cX1_deepestDug 0 = .ok (.iconst (-1), 1) := by decide +kernel
theorem dX1_deepestDug_1 : decode cX1_deepestDug 1 = .ok (.istore_n 1, 1) := by decide +kernel
theorem dX1_deepestDug_2 : decode cX1_deepestDug 2 = .ok (.iconst 0, 1) := by decide +kernel
theorem dX1_deepestDug_3 : decode cX1_deepestDug 3 = .ok (.istore_n 2, 1) := by decide +kernel
theorem dX1_deepestDug_4 : decode cX1_deepestDug 4 = .ok (.iload_n 2, 1) := by decide +kernel
theorem dX1_deepestDug_5 : decode cX1_deepestDug 5 = .ok (.bipush 10, 2) := by decide +kernel
theorem dX1_deepestDug_7 : decode cX1_deepestDug 7 = .ok (.if_icmp .ge 21, 3) := by decide +kernel
theorem dX1_deepestDug_10 : decode cX1_deepestDug 10 = .ok (.iload_n 1, 1) := by decide +kernel
theorem dX1_deepestDug_11 : decode cX1_deepestDug 11 = .ok (.aload_n 0, 1) := by decide +kernel
theorem dX1_deepestDug_12 : decode cX1_deepestDug 12 = .ok (.iload_n 2, 1) := by decide +kernel
theorem dX1_deepestDug_13 : decode cX1_deepestDug 13 = .ok (.invokevirtual 40, 3) := by decide +kernel
theorem dX1_deepestDug_16 : decode cX1_deepestDug 16 = .ok (.iconst 1, 1) := by decide +kernel
theorem dX1_deepestDug_17 : decode cX1_deepestDug 17 = .ok (.isub, 1) := by decide +kernel
theorem dX1_deepestDug_18 : decode cX1_deepestDug 18 = .ok (.invokestatic 44, 3) := by decide +kernel
theorem dX1_deepestDug_21 : decode cX1_deepestDug 21 = .ok (.istore_n 1, 1) := by decide +kernel
theorem dX1_deepestDug_22 : decode cX1_deepestDug 22 = .ok (.iinc 2 1, 3) := by decide +kernel
theorem dX1_deepestDug_25 : decode cX1_deepestDug 25 = .ok (.goto (-21), 3) := by decide +kernel
theorem dX1_deepestDug_28 : decode cX1_deepestDug 28 = .ok (.iload_n 1, 1) := by decide +kernel
theorem dX1_deepestDug_29 : decode cX1_deepestDug 29 = .ok (.ireturn, 1) := by decide +kernel
theorem dX1_wasDugInOrder_0 : decode cX1_wasDugInOrder 0 = .ok (.iconst 0, 1) := by decide +kernel
theorem dX1_wasDugInOrder_1 : decode cX1_wasDugInOrder 1 = .ok (.istore_n 1, 1) := by decide +kernel
theorem dX1_wasDugInOrder_2 : decode cX1_wasDugInOrder 2 = .ok (.iload_n 1, 1) := by decide +kernel
theorem dX1_wasDugInOrder_3 : decode cX1_wasDugInOrder 3 = .ok (.bipush 60, 2) := by decide +kernel
theorem dX1_wasDugInOrder_5 : decode cX1_wasDugInOrder 5 = .ok (.if_icmp .ge 46, 3) := by decide +kernel
theorem dX1_wasDugInOrder_8 : decode cX1_wasDugInOrder 8 = .ok (.iconst (-1), 1) := by decide +kernel
theorem dX1_wasDugInOrder_9 : decode cX1_wasDugInOrder 9 = .ok (.istore_n 2, 1) := by decide +kernel
theorem dX1_wasDugInOrder_10 : decode cX1_wasDugInOrder 10 = .ok (.iload_n 2, 1) := by decide +kernel
theorem dX1_wasDugInOrder_11 : decode cX1_wasDugInOrder 11 = .ok (.iconst 1, 1) := by decide +kernel
theorem dX1_wasDugInOrder_12 : decode cX1_wasDugInOrder 12 = .ok (.if_icmp .gt 33, 3) := by decide +kernel
theorem dX1_wasDugInOrder_15 : decode cX1_wasDugInOrder 15 = .ok (.aload_n 0, 1) := by decide +kernel
theorem dX1_wasDugInOrder_16 : decode cX1_wasDugInOrder 16 = .ok (.iload_n 1, 1) := by decide +kernel
theorem dX1_wasDugInOrder_17 : decode cX1_wasDugInOrder 17 = .ok (.invokevirtual 33, 3) := by decide +kernel
theorem dX1_wasDugInOrder_20 : decode cX1_wasDugInOrder 20 = .ok (.ifCond .eq 19, 3) := by decide +kernel
theorem dX1_wasDugInOrder_23 : decode cX1_wasDugInOrder 23 = .ok (.aload_n 0, 1) := by decide +kernel
theorem dX1_wasDugInOrder_24 : decode cX1_wasDugInOrder 24 = .ok (.aload_n 0, 1) := by decide +kernel
theorem dX1_wasDugInOrder_25 : decode cX1_wasDugInOrder 25 = .ok (.iload_n 1, 1) := by decide +kernel
theorem dX1_wasDugInOrder_26 : decode cX1_wasDugInOrder 26 = .ok (.iload_n 2, 1) := by decide +kernel
theorem dX1_wasDugInOrder_27 : decode cX1_wasDugInOrder 27 = .ok (.invokevirtual 36, 3) := by decide +kernel
theorem dX1_wasDugInOrder_30 : decode cX1_wasDugInOrder 30 = .ok (.iload_n 1, 1) := by decide +kernel
theorem dX1_wasDugInOrder_31 : decode cX1_wasDugInOrder 31 = .ok (.invokevirtual 49, 3) := by decide +kernel
theorem dX1_wasDugInOrder_34 : decode cX1_wasDugInOrder 34 = .ok (.ifCond .ne 5, 3) := by decide +kernel
theorem dX1_wasDugInOrder_37 : decode cX1_wasDugInOrder 37 = .ok (.iconst 0, 1) := by decide +kernel
theorem dX1_wasDugInOrder_38 : decode cX1_wasDugInOrder 38 = .ok (.ireturn, 1) := by decide +kernel
theorem dX1_wasDugInOrder_39 : decode cX1_wasDugInOrder 39 = .ok (.iinc 2 1, 3) := by decide +kernel
theorem dX1_wasDugInOrder_42 : decode cX1_wasDugInOrder 42 = .ok (.goto (-32), 3) := by decide +kernel
theorem dX1_wasDugInOrder_45 : decode cX1_wasDugInOrder 45 = .ok (.iinc 1 1, 3) := by decide +kernel
theorem dX1_wasDugInOrder_48 : decode cX1_wasDugInOrder 48 = .ok (.goto (-46), 3) := by decide +kernel
theorem dX1_wasDugInOrder_51 : decode cX1_wasDugInOrder 51 = .ok (.iconst 1, 1) := by decide +kernel
theorem dX1_wasDugInOrder_52 : decode cX1_wasDugInOrder 52 = .ok (.ireturn, 1) := by decide +kernel
theorem dX1_wasAhead_0 : decode cX1_wasAhead 0 = .ok (.iload_n 1, 1) := by decide +kernel
theorem dX1_wasAhead_1 : decode cX1_wasAhead 1 = .ok (.invokestatic 22, 3) := by decide +kernel
theorem dX1_wasAhead_4 : decode cX1_wasAhead 4 = .ok (.ifCond .eq 10, 3) := by decide +kernel
theorem dX1_wasAhead_7 : decode cX1_wasAhead 7 = .ok (.iload_n 2, 1) := by decide +kernel
theorem dX1_wasAhead_8 : decode cX1_wasAhead 8 = .ok (.invokestatic 22, 3) := by decide +kernel
theorem dX1_wasAhead_11 : decode cX1_wasAhead 11 = .ok (.ifCond .ne 5, 3) := by decide +kernel
theorem dX1_wasAhead_14 : decode cX1_wasAhead 14 = .ok (.iconst 1, 1) := by decide +kernel
theorem dX1_wasAhead_15 : decode cX1_wasAhead 15 = .ok (.ireturn, 1) := by decide +kernel
theorem dX1_wasAhead_16 : decode cX1_wasAhead 16 = .ok (.aload_n 0, 1) := by decide +kernel
theorem dX1_wasAhead_17 : decode cX1_wasAhead 17 = .ok (.iload_n 1, 1) := by decide +kernel
theorem dX1_wasAhead_18 : decode cX1_wasAhead 18 = .ok (.invokevirtual 33, 3) := by decide +kernel
theorem dX1_wasAhead_21 : decode cX1_wasAhead 21 = .ok (.ifCond .eq 37, 3) := by decide +kernel
theorem dX1_wasAhead_24 : decode cX1_wasAhead 24 = .ok (.aload_n 0, 1) := by decide +kernel
theorem dX1_wasAhead_25 : decode cX1_wasAhead 25 = .ok (.getfield 15, 3) := by decide +kernel
theorem dX1_wasAhead_28 : decode cX1_wasAhead 28 = .ok (.iload_n 1, 1) := by decide +kernel
theorem dX1_wasAhead_29 : decode cX1_wasAhead 29 = .ok (.iaload, 1) := by decide +kernel
theorem dX1_wasAhead_30 : decode cX1_wasAhead 30 = .ok (.aload_n 0, 1) := by decide +kernel
theorem dX1_wasAhead_31 : decode cX1_wasAhead 31 = .ok (.getfield 15, 3) := by decide +kernel
theorem dX1_wasAhead_34 : decode cX1_wasAhead 34 = .ok (.iload_n 2, 1) := by decide +kernel
theorem dX1_wasAhead_35 : decode cX1_wasAhead 35 = .ok (.iaload, 1) := by decide +kernel
theorem dX1_wasAhead_36 : decode cX1_wasAhead 36 = .ok (.if_icmp .ge 22, 3) := by decide +kernel
theorem dX1_wasAhead_39 : decode cX1_wasAhead 39 = .ok (.aload_n 0, 1) := by decide +kernel
theorem dX1_wasAhead_40 : decode cX1_wasAhead 40 = .ok (.getfield 19, 3) := by decide +kernel
theorem dX1_wasAhead_43 : decode cX1_wasAhead 43 = .ok (.iload_n 1, 1) := by decide +kernel
theorem dX1_wasAhead_44 : decode cX1_wasAhead 44 = .ok (.iaload, 1) := by decide +kernel
theorem dX1_wasAhead_45 : decode cX1_wasAhead 45 = .ok (.aload_n 0, 1) := by decide +kernel
theorem dX1_wasAhead_46 : decode cX1_wasAhead 46 = .ok (.getfield 19, 3) := by decide +kernel
theorem dX1_wasAhead_49 : decode cX1_wasAhead 49 = .ok (.iload_n 2, 1) := by decide +kernel
theorem dX1_wasAhead_50 : decode cX1_wasAhead 50 = .ok (.iaload, 1) := by decide +kernel
theorem dX1_wasAhead_51 : decode cX1_wasAhead 51 = .ok (.if_icmp .gt 7, 3) := by decide +kernel
theorem dX1_wasAhead_54 : decode cX1_wasAhead 54 = .ok (.iconst 1, 1) := by decide +kernel
theorem dX1_wasAhead_55 : decode cX1_wasAhead 55 = .ok (.goto 4, 3) := by decide +kernel
theorem dX1_wasAhead_58 : decode cX1_wasAhead 58 = .ok (.iconst 0, 1) := by decide +kernel
theorem dX1_wasAhead_59 : decode cX1_wasAhead 59 = .ok (.ireturn, 1) := by decide +kernel
theorem dX2_init_0 : decode cX2_init 0 = .ok (.aload_n 0, 1) := by decide +kernel
theorem dX2_init_1 : decode cX2_init 1 = .ok (.invokespecial 3, 3) := by decide +kernel
theorem dX2_init_4 : decode cX2_init 4 = .ok (.aload_n 0, 1) := by decide +kernel
theorem dX2_init_5 : decode cX2_init 5 = .ok (.bipush 7, 2) := by decide +kernel
theorem dX2_init_7 : decode cX2_init 7 = .ok (.newarray .int, 2) := by decide +kernel
theorem dX2_init_9 : decode cX2_init 9 = .ok (.dup, 1) := by decide +kernel
theorem dX2_init_10 : decode cX2_init 10 = .ok (.iconst 0, 1) := by decide +kernel
theorem dX2_init_11 : decode cX2_init 11 = .ok (.iconst 3, 1) := by decide +kernel
theorem dX2_init_12 : decode cX2_init 12 = .ok (.iastore, 1) := by decide +kernel
theorem dX2_init_13 : decode cX2_init 13 = .ok (.dup, 1) := by decide +kernel
theorem dX2_init_14 : decode cX2_init 14 = .ok (.iconst 1, 1) := by decide +kernel
theorem dX2_init_15 : decode cX2_init 15 = .ok (.iconst 2, 1) := by decide +kernel
theorem dX2_init_16 : decode cX2_init 16 = .ok (.iastore, 1) := by decide +kernel
theorem dX2_init_17 : decode cX2_init 17 = .ok (.dup, 1) := by decide +kernel
theorem dX2_init_18 : decode cX2_init 18 = .ok (.iconst 2, 1) := by decide +kernel
theorem dX2_init_19 : decode cX2_init 19 = .ok (.bipush 20, 2) := by decide +kernel
theorem dX2_init_21 : decode cX2_init 21 = .ok (.iastore, 1) := by decide +kernel
theorem dX2_init_22 : decode cX2_init 22 = .ok (.dup, 1) := by decide +kernel
theorem dX2_init_23 : decode cX2_init 23 = .ok (.iconst 3, 1) := by decide +kernel
theorem dX2_init_24 : decode cX2_init 24 = .ok (.bipush 10, 2) := by decide +kernel
theorem dX2_init_26 : decode cX2_init 26 = .ok (.iastore, 1) := by decide +kernel
theorem dX2_init_27 : decode cX2_init 27 = .ok (.dup, 1) := by decide +kernel
theorem dX2_init_28 : decode cX2_init 28 = .ok (.iconst 4, 1) := by decide +kernel
theorem dX2_init_29 : decode cX2_init 29 = .ok (.bipush 10, 2) := by decide +kernel
theorem dX2_init_31 : decode cX2_init 31 = .ok (.iastore, 1) := by decide +kernel
theorem dX2_init_32 : decode cX2_init 32 = .ok (.dup, 1) := by decide +kernel
theorem dX2_init_33 : decode cX2_init 33 = .ok (.iconst 5, 1) := by decide +kernel
theorem dX2_init_34 : decode cX2_init 34 = .ok (.bipush 10, 2) := by decide +kernel
theorem dX2_init_36 : decode cX2_init 36 = .ok (.iastore, 1) := by decide +kernel
theorem dX2_init_37 : decode cX2_init 37 = .ok (.dup, 1) := by decide +kernel
theorem dX2_init_38 : decode cX2_init 38 = .ok (.bipush 6, 2) := by decide +kernel
theorem dX2_init_40 : decode cX2_init 40 = .ok (.iconst 5, 1) := by decide +kernel
theorem dX2_init_41 : decode cX2_init 41 = .ok (.iastore, 1) := by decide +kernel
theorem dX2_init_42 : decode cX2_init 42 = .ok (.putfield 9, 3) := by decide +kernel
theorem dX2_init_45 : decode cX2_init 45 = .ok (.return_, 1) := by decide +kernel
theorem dX2_mostFor_0 : decode cX2_mostFor 0 = .ok (.iload_n 1, 1) := by decide +kernel
theorem dX2_mostFor_1 : decode cX2_mostFor 1 = .ok (.invokestatic 15, 3) := by decide +kernel
theorem dX2_mostFor_4 : decode cX2_mostFor 4 = .ok (.istore_n 2, 1) := by decide +kernel
theorem dX2_mostFor_5 : decode cX2_mostFor 5 = .ok (.iload_n 2, 1) := by decide +kernel
theorem dX2_mostFor_6 : decode cX2_mostFor 6 = .ok (.ifCond .lt 19, 3) := by decide +kernel
theorem dX2_mostFor_9 : decode cX2_mostFor 9 = .ok (.iload_n 2, 1) := by decide +kernel
theorem dX2_mostFor_10 : decode cX2_mostFor 10 = .ok (.getstatic 19, 3) := by decide +kernel
theorem dX2_mostFor_13 : decode cX2_mostFor 13 = .ok (.arraylength, 1) := by decide +kernel
theorem dX2_mostFor_14 : decode cX2_mostFor 14 = .ok (.if_icmp .ge 11, 3) := by decide +kernel
theorem dX2_mostFor_17 : decode cX2_mostFor 17 = .ok (.getstatic 19, 3) := by decide +kernel
theorem dX2_mostFor_20 : decode cX2_mostFor 20 = .ok (.iload_n 2, 1) := by decide +kernel
theorem dX2_mostFor_21 : decode cX2_mostFor 21 = .ok (.iaload, 1) := by decide +kernel
theorem dX2_mostFor_22 : decode cX2_mostFor 22 = .ok (.goto 4, 3) := by decide +kernel
theorem dX2_mostFor_25 : decode cX2_mostFor 25 = .ok (.iconst (-1), 1) := by decide +kernel
theorem dX2_mostFor_26 : decode cX2_mostFor 26 = .ok (.ireturn, 1) := by decide +kernel
theorem dX2_current_0 : decode cX2_current 0 = .ok (.iload_n 1, 1) := by decide +kernel
theorem dX2_current_1 : decode cX2_current 1 = .ok (.invokestatic 15, 3) := by decide +kernel
theorem dX2_current_4 : decode cX2_current 4 = .ok (.istore_n 2, 1) := by decide +kernel
theorem dX2_current_5 : decode cX2_current 5 = .ok (.iload_n 2, 1) := by decide +kernel
theorem dX2_current_6 : decode cX2_current 6 = .ok (.ifCond .lt 21, 3) := by decide +kernel
theorem dX2_current_9 : decode cX2_current 9 = .ok (.iload_n 2, 1) := by decide +kernel
theorem dX2_current_10 : decode cX2_current 10 = .ok (.aload_n 0, 1) := by decide +kernel
theorem dX2_current_11 : decode cX2_current 11 = .ok (.getfield 9, 3) := by decide +kernel
theorem dX2_current_14 : decode cX2_current 14 = .ok (.arraylength, 1) := by decide +kernel
theorem dX2_current_15 : decode cX2_current 15 = .ok (.if_icmp .ge 12, 3) := by decide +kernel
theorem dX2_current_18 : decode cX2_current 18 = .ok (.aload_n 0, 1) := by decide +kernel
theorem dX2_current_19 : decode cX2_current 19 = .ok (.getfield 9, 3) := by decide +kernel
theorem dX2_current_22 : decode cX2_current 22 = .ok (.iload_n 2, 1) := by decide +kernel
theorem dX2_current_23 : decode cX2_current 23 = .ok (.iaload, 1) := by decide +kernel
theorem dX2_current_24 : decode cX2_current 24 = .ok (.goto 4, 3) := by decide +kernel
theorem dX2_current_27 : decode cX2_current 27 = .ok (.iconst 0, 1) := by decide +kernel
theorem dX2_current_28 : decode cX2_current 28 = .ok (.ireturn, 1) := by decide +kernel
theorem dX2_change_0 : decode cX2_change 0 = .ok (.iload_n 1, 1) := by decide +kernel
theorem dX2_change_1 : decode cX2_change 1 = .ok (.invokestatic 15, 3) := by decide +kernel
theorem dX2_change_4 : decode cX2_change 4 = .ok (.istore_n 3, 1) := by decide +kernel
theorem dX2_change_5 : decode cX2_change 5 = .ok (.iload_n 3, 1) := by decide +kernel
theorem dX2_change_6 : decode cX2_change 6 = .ok (.ifCond .lt 19, 3) := by decide +kernel
theorem dX2_change_9 : decode cX2_change 9 = .ok (.iload_n 3, 1) := by decide +kernel
theorem dX2_change_10 : decode cX2_change 10 = .ok (.aload_n 0, 1) := by decide +kernel
theorem dX2_change_11 : decode cX2_change 11 = .ok (.getfield 9, 3) := by decide +kernel
theorem dX2_change_14 : decode cX2_change 14 = .ok (.arraylength, 1) := by decide +kernel
theorem dX2_change_15 : decode cX2_change 15 = .ok (.if_icmp .ge 10, 3) := by decide +kernel
theorem dX2_change_18 : decode cX2_change 18 = .ok (.aload_n 0, 1) := by decide +kernel
theorem dX2_change_19 : decode cX2_change 19 = .ok (.getfield 9, 3) := by decide +kernel
theorem dX2_change_22 : decode cX2_change 22 = .ok (.iload_n 3, 1) := by decide +kernel
theorem dX2_change_23 : decode cX2_change 23 = .ok (.iload_n 2, 1) := by decide +kernel
theorem dX2_change_24 : decode cX2_change 24 = .ok (.iastore, 1) := by decide +kernel
theorem dX2_change_25 : decode cX2_change 25 = .ok (.return_, 1) := by decide +kernel
theorem dX2_indexOf_0 : decode cX2_indexOf 0 = .ok (.iconst 0, 1) := by decide +kernel
theorem dX2_indexOf_1 : decode cX2_indexOf 1 = .ok (.istore_n 1, 1) := by decide +kernel
theorem dX2_indexOf_2 : decode cX2_indexOf 2 = .ok (.iload_n 1, 1) := by decide +kernel
theorem dX2_indexOf_3 : decode cX2_indexOf 3 = .ok (.getstatic 22, 3) := by decide +kernel
theorem dX2_indexOf_6 : decode cX2_indexOf 6 = .ok (.arraylength, 1) := by decide +kernel
theorem dX2_indexOf_7 : decode cX2_indexOf 7 = .ok (.if_icmp .ge 20, 3) := by decide +kernel
theorem dX2_indexOf_10 : decode cX2_indexOf 10 = .ok (.getstatic 22, 3) := by decide +kernel
theorem dX2_indexOf_13 : decode cX2_indexOf 13 = .ok (.iload_n 1, 1) := by decide +kernel
theorem dX2_indexOf_14 : decode cX2_indexOf 14 = .ok (.caload, 1) := by decide +kernel
theorem dX2_indexOf_15 : decode cX2_indexOf 15 = .ok (.iload_n 0, 1) := by decide +kernel
theorem dX2_indexOf_16 : decode cX2_indexOf 16 = .ok (.if_icmp .ne 5, 3) := by decide +kernel
theorem dX2_indexOf_19 : decode cX2_indexOf 19 = .ok (.iload_n 1, 1) := by decide +kernel
theorem dX2_indexOf_20 : decode cX2_indexOf 20 = .ok (.ireturn, 1) := by decide +kernel
theorem dX2_indexOf_21 : decode cX2_indexOf 21 = .ok (.iinc 1 1, 3) := by decide +kernel
theorem dX2_indexOf_24 : decode cX2_indexOf 24 = .ok (.goto (-22), 3) := by decide +kernel
theorem dX2_indexOf_27 : decode cX2_indexOf 27 = .ok (.iconst (-1), 1) := by decide +kernel
theorem dX2_indexOf_28 : decode cX2_indexOf 28 = .ok (.ireturn, 1) := by decide +kernel
theorem dX3_init_0 : decode cX3_init 0 = .ok (.aload_n 0, 1) := by decide +kernel
theorem dX3_init_1 : decode cX3_init 1 = .ok (.invokespecial 3, 3) := by decide +kernel
theorem dX3_init_4 : decode cX3_init 4 = .ok (.aload_n 0, 1) := by decide +kernel
theorem dX3_init_5 : decode cX3_init 5 = .ok (.bipush 40, 2) := by decide +kernel
theorem dX3_init_7 : decode cX3_init 7 = .ok (.newarray .int, 2) := by decide +kernel
theorem dX3_init_9 : decode cX3_init 9 = .ok (.putfield 9, 3) := by decide +kernel
theorem dX3_init_12 : decode cX3_init 12 = .ok (.aload_n 0, 1) := by decide +kernel
theorem dX3_init_13 : decode cX3_init 13 = .ok (.bipush 40, 2) := by decide +kernel
theorem dX3_init_15 : decode cX3_init 15 = .ok (.newarray .int, 2) := by decide +kernel
theorem dX3_init_17 : decode cX3_init 17 = .ok (.putfield 15, 3) := by decide +kernel
theorem dX3_init_20 : decode cX3_init 20 = .ok (.aload_n 0, 1) := by decide +kernel
theorem dX3_init_21 : decode cX3_init 21 = .ok (.bipush 60, 2) := by decide +kernel
theorem dX3_init_23 : decode cX3_init 23 = .ok (.newarray .int, 2) := by decide +kernel
theorem dX3_init_25 : decode cX3_init 25 = .ok (.putfield 18, 3) := by decide +kernel
theorem dX3_init_28 : decode cX3_init 28 = .ok (.return_, 1) := by decide +kernel
theorem dX3_isFull_0 : decode cX3_isFull 0 = .ok (.aload_n 0, 1) := by decide +kernel
theorem dX3_isFull_1 : decode cX3_isFull 1 = .ok (.getfield 21, 3) := by decide +kernel
theorem dX3_isFull_4 : decode cX3_isFull 4 = .ok (.bipush 40, 2) := by decide +kernel
theorem dX3_isFull_6 : decode cX3_isFull 6 = .ok (.if_icmp .lt 7, 3) := by decide +kernel
theorem dX3_isFull_9 : decode cX3_isFull 9 = .ok (.iconst 1, 1) := by decide +kernel
theorem dX3_isFull_10 : decode cX3_isFull 10 = .ok (.goto 4, 3) := by decide +kernel
theorem dX3_isFull_13 : decode cX3_isFull 13 = .ok (.iconst 0, 1) := by decide +kernel
theorem dX3_isFull_14 : decode cX3_isFull 14 = .ok (.ireturn, 1) := by decide +kernel
theorem dX3_addSample_0 : decode cX3_addSample 0 = .ok (.aload_n 0, 1) := by decide +kernel
theorem dX3_addSample_1 : decode cX3_addSample 1 = .ok (.invokevirtual 25, 3) := by decide +kernel
theorem dX3_addSample_4 : decode cX3_addSample 4 = .ok (.ifCond .eq 4, 3) := by decide +kernel
theorem dX3_addSample_7 : decode cX3_addSample 7 = .ok (.return_, 1) := by decide +kernel
theorem dX3_addSample_8 : decode cX3_addSample 8 = .ok (.aload_n 0, 1) := by decide +kernel
theorem dX3_addSample_9 : decode cX3_addSample 9 = .ok (.getfield 9, 3) := by decide +kernel
theorem dX3_addSample_12 : decode cX3_addSample 12 = .ok (.aload_n 0, 1) := by decide +kernel
theorem dX3_addSample_13 : decode cX3_addSample 13 = .ok (.getfield 21, 3) := by decide +kernel
theorem dX3_addSample_16 : decode cX3_addSample 16 = .ok (.iload_n 1, 1) := by decide +kernel
theorem dX3_addSample_17 : decode cX3_addSample 17 = .ok (.iastore, 1) := by decide +kernel
theorem dX3_addSample_18 : decode cX3_addSample 18 = .ok (.aload_n 0, 1) := by decide +kernel
theorem dX3_addSample_19 : decode cX3_addSample 19 = .ok (.getfield 15, 3) := by decide +kernel
theorem dX3_addSample_22 : decode cX3_addSample 22 = .ok (.aload_n 0, 1) := by decide +kernel
theorem dX3_addSample_23 : decode cX3_addSample 23 = .ok (.getfield 21, 3) := by decide +kernel
theorem dX3_addSample_26 : decode cX3_addSample 26 = .ok (.iload_n 2, 1) := by decide +kernel
theorem dX3_addSample_27 : decode cX3_addSample 27 = .ok (.iastore, 1) := by decide +kernel
theorem dX3_addSample_28 : decode cX3_addSample 28 = .ok (.aload_n 0, 1) := by decide +kernel
theorem dX3_addSample_29 : decode cX3_addSample 29 = .ok (.dup, 1) := by decide +kernel
theorem dX3_addSample_30 : decode cX3_addSample 30 = .ok (.getfield 21, 3) := by decide +kernel
theorem dX3_addSample_33 : decode cX3_addSample 33 = .ok (.iconst 1, 1) := by decide +kernel
theorem dX3_addSample_34 : decode cX3_addSample 34 = .ok (.iadd, 1) := by decide +kernel
theorem dX3_addSample_35 : decode cX3_addSample 35 = .ok (.putfield 21, 3) := by decide +kernel
theorem dX3_addSample_38 : decode cX3_addSample 38 = .ok (.iconst 0, 1) := by decide +kernel
theorem dX3_addSample_39 : decode cX3_addSample 39 = .ok (.istore_n 3, 1) := by decide +kernel
theorem dX3_addSample_40 : decode cX3_addSample 40 = .ok (.iload_n 3, 1) := by decide +kernel
theorem dX3_addSample_41 : decode cX3_addSample 41 = .ok (.bipush 60, 2) := by decide +kernel
theorem dX3_addSample_43 : decode cX3_addSample 43 = .ok (.if_icmp .ge 23, 3) := by decide +kernel
theorem dX3_addSample_46 : decode cX3_addSample 46 = .ok (.aload_n 0, 1) := by decide +kernel
theorem dX3_addSample_47 : decode cX3_addSample 47 = .ok (.getfield 18, 3) := by decide +kernel
theorem dX3_addSample_50 : decode cX3_addSample 50 = .ok (.iload_n 3, 1) := by decide +kernel
theorem dX3_addSample_51 : decode cX3_addSample 51 = .ok (.aload_n 0, 1) := by decide +kernel
theorem dX3_addSample_52 : decode cX3_addSample 52 = .ok (.iload_n 3, 1) := by decide +kernel
theorem dX3_addSample_53 : decode cX3_addSample 53 = .ok (.invokevirtual 29, 3) := by decide +kernel
theorem dX3_addSample_56 : decode cX3_addSample 56 = .ok (.invokestatic 33, 3) := by decide +kernel
theorem dX3_addSample_59 : decode cX3_addSample 59 = .ok (.iastore, 1) := by decide +kernel
theorem dX3_addSample_60 : decode cX3_addSample 60 = .ok (.iinc 3 1, 3) := by decide +kernel
theorem dX3_addSample_63 : decode cX3_addSample 63 = .ok (.goto (-23), 3) := by decide +kernel
theorem dX3_addSample_66 : decode cX3_addSample 66 = .ok (.return_, 1) := by decide +kernel
theorem dX3_estimate_0 : decode cX3_estimate 0 = .ok (.iload_n 1, 1) := by decide +kernel
theorem dX3_estimate_1 : decode cX3_estimate 1 = .ok (.invokestatic 37, 3) := by decide +kernel
theorem dX3_estimate_4 : decode cX3_estimate 4 = .ok (.ifCond .eq 12, 3) := by decide +kernel
theorem dX3_estimate_7 : decode cX3_estimate 7 = .ok (.aload_n 0, 1) := by decide +kernel
theorem dX3_estimate_8 : decode cX3_estimate 8 = .ok (.getfield 18, 3) := by decide +kernel
theorem dX3_estimate_11 : decode cX3_estimate 11 = .ok (.iload_n 1, 1) := by decide +kernel
theorem dX3_estimate_12 : decode cX3_estimate 12 = .ok (.iaload, 1) := by decide +kernel
theorem dX3_estimate_13 : decode cX3_estimate 13 = .ok (.goto 4, 3) := by decide +kernel
theorem dX3_estimate_16 : decode cX3_estimate 16 = .ok (.iconst 0, 1) := by decide +kernel
theorem dX3_estimate_17 : decode cX3_estimate 17 = .ok (.ireturn, 1) := by decide +kernel
theorem dX3_valueOf_0 : decode cX3_valueOf 0 = .ok (.aload_n 0, 1) := by decide +kernel
theorem dX3_valueOf_1 : decode cX3_valueOf 1 = .ok (.iload_n 1, 1) := by decide +kernel
theorem dX3_valueOf_2 : decode cX3_valueOf 2 = .ok (.invokevirtual 41, 3) := by decide +kernel
theorem dX3_valueOf_5 : decode cX3_valueOf 5 = .ok (.iload_n 2, 1) := by decide +kernel
theorem dX3_valueOf_6 : decode cX3_valueOf 6 = .ok (.imul, 1) := by decide +kernel
theorem dX3_valueOf_7 : decode cX3_valueOf 7 = .ok (.sipush 200, 3) := by decide +kernel
theorem dX3_valueOf_10 : decode cX3_valueOf 10 = .ok (.isub, 1) := by decide +kernel
theorem dX3_valueOf_11 : decode cX3_valueOf 11 = .ok (.istore_n 3, 1) := by decide +kernel
theorem dX3_valueOf_12 : decode cX3_valueOf 12 = .ok (.iload_n 3, 1) := by decide +kernel
theorem dX3_valueOf_13 : decode cX3_valueOf 13 = .ok (.iconst 0, 1) := by decide +kernel
theorem dX3_valueOf_14 : decode cX3_valueOf 14 = .ok (.invokestatic 45, 3) := by decide +kernel
theorem dX3_valueOf_17 : decode cX3_valueOf 17 = .ok (.iload_n 1, 1) := by decide +kernel
theorem dX3_valueOf_18 : decode cX3_valueOf 18 = .ok (.invokestatic 51, 3) := by decide +kernel
theorem dX3_valueOf_21 : decode cX3_valueOf 21 = .ok (.isub, 1) := by decide +kernel
theorem dX3_valueOf_22 : decode cX3_valueOf 22 = .ok (.ireturn, 1) := by decide +kernel
theorem dX3_meanFor_0 : decode cX3_meanFor 0 = .ok (.dconst 0, 1) := by decide +kernel
theorem dX3_meanFor_1 : decode cX3_meanFor 1 = .ok (.dstore_n 2, 1) := by decide +kernel
theorem dX3_meanFor_2 : decode cX3_meanFor 2 = .ok (.iconst 0, 1) := by decide +kernel
theorem dX3_meanFor_3 : decode cX3_meanFor 3 = .ok (.istore 4, 2) := by decide +kernel
theorem dX3_meanFor_5 : decode cX3_meanFor 5 = .ok (.iconst 0, 1) := by decide +kernel
theorem dX3_meanFor_6 : decode cX3_meanFor 6 = .ok (.istore 5, 2) := by decide +kernel
theorem dX3_meanFor_8 : decode cX3_meanFor 8 = .ok (.iload 5, 2) := by decide +kernel
theorem dX3_meanFor_10 : decode cX3_meanFor 10 = .ok (.aload_n 0, 1) := by decide +kernel
theorem dX3_meanFor_11 : decode cX3_meanFor 11 = .ok (.getfield 21, 3) := by decide +kernel
theorem dX3_meanFor_14 : decode cX3_meanFor 14 = .ok (.if_icmp .ge 41, 3) := by decide +kernel
theorem dX3_meanFor_17 : decode cX3_meanFor 17 = .ok (.iload 5, 2) := by decide +kernel
theorem dX3_meanFor_19 : decode cX3_meanFor 19 = .ok (.bipush 40, 2) := by decide +kernel
theorem dX3_meanFor_21 : decode cX3_meanFor 21 = .ok (.if_icmp .ge 34, 3) := by decide +kernel
theorem dX3_meanFor_24 : decode cX3_meanFor 24 = .ok (.aload_n 0, 1) := by decide +kernel
theorem dX3_meanFor_25 : decode cX3_meanFor 25 = .ok (.getfield 9, 3) := by decide +kernel
theorem dX3_meanFor_28 : decode cX3_meanFor 28 = .ok (.iload 5, 2) := by decide +kernel
theorem dX3_meanFor_30 : decode cX3_meanFor 30 = .ok (.iaload, 1) := by decide +kernel
theorem dX3_meanFor_31 : decode cX3_meanFor 31 = .ok (.iload_n 1, 1) := by decide +kernel
theorem dX3_meanFor_32 : decode cX3_meanFor 32 = .ok (.if_icmp .ne 17, 3) := by decide +kernel
theorem dX3_meanFor_35 : decode cX3_meanFor 35 = .ok (.dload_n 2, 1) := by decide +kernel
theorem dX3_meanFor_36 : decode cX3_meanFor 36 = .ok (.aload_n 0, 1) := by decide +kernel
theorem dX3_meanFor_37 : decode cX3_meanFor 37 = .ok (.getfield 15, 3) := by decide +kernel
theorem dX3_meanFor_40 : decode cX3_meanFor 40 = .ok (.iload 5, 2) := by decide +kernel
theorem dX3_meanFor_42 : decode cX3_meanFor 42 = .ok (.iaload, 1) := by decide +kernel
theorem dX3_meanFor_43 : decode cX3_meanFor 43 = .ok (.i2d, 1) := by decide +kernel
theorem dX3_meanFor_44 : decode cX3_meanFor 44 = .ok (.dadd, 1) := by decide +kernel
theorem dX3_meanFor_45 : decode cX3_meanFor 45 = .ok (.dstore_n 2, 1) := by decide +kernel
theorem dX3_meanFor_46 : decode cX3_meanFor 46 = .ok (.iinc 4 1, 3) := by decide +kernel
theorem dX3_meanFor_49 : decode cX3_meanFor 49 = .ok (.iinc 5 1, 3) := by decide +kernel
theorem dX3_meanFor_52 : decode cX3_meanFor 52 = .ok (.goto (-44), 3) := by decide +kernel
theorem dX3_meanFor_55 : decode cX3_meanFor 55 = .ok (.iload 4, 2) := by decide +kernel
theorem dX3_meanFor_57 : decode cX3_meanFor 57 = .ok (.ifCond .le 11, 3) := by decide +kernel
theorem dX3_meanFor_60 : decode cX3_meanFor 60 = .ok (.dload_n 2, 1) := by decide +kernel
theorem dX3_meanFor_61 : decode cX3_meanFor 61 = .ok (.iload 4, 2) := by decide +kernel
theorem dX3_meanFor_63 : decode cX3_meanFor 63 = .ok (.i2d, 1) := by decide +kernel
theorem dX3_meanFor_64 : decode cX3_meanFor 64 = .ok (.ddiv, 1) := by decide +kernel
theorem dX3_meanFor_65 : decode cX3_meanFor 65 = .ok (.goto 8, 3) := by decide +kernel
theorem dX3_meanFor_68 : decode cX3_meanFor 68 = .ok (.aload_n 0, 1) := by decide +kernel
theorem dX3_meanFor_69 : decode cX3_meanFor 69 = .ok (.iload_n 1, 1) := by decide +kernel
theorem dX3_meanFor_70 : decode cX3_meanFor 70 = .ok (.invokevirtual 54, 3) := by decide +kernel
theorem dX3_meanFor_73 : decode cX3_meanFor 73 = .ok (.dreturn, 1) := by decide +kernel
theorem dX3_meanByDistance_0 : decode cX3_meanByDistance 0 = .ok (.dconst 0, 1) := by decide +kernel
theorem dX3_meanByDistance_1 : decode cX3_meanByDistance 1 = .ok (.dstore_n 2, 1) := by decide +kernel
theorem dX3_meanByDistance_2 : decode cX3_meanByDistance 2 = .ok (.dconst 0, 1) := by decide +kernel
theorem dX3_meanByDistance_3 : decode cX3_meanByDistance 3 = .ok (.dstore 4, 2) := by decide +kernel
theorem dX3_meanByDistance_5 : decode cX3_meanByDistance 5 = .ok (.iconst 0, 1) := by decide +kernel
theorem dX3_meanByDistance_6 : decode cX3_meanByDistance 6 = .ok (.istore 6, 2) := by decide +kernel
theorem dX3_meanByDistance_8 : decode cX3_meanByDistance 8 = .ok (.iload 6, 2) := by decide +kernel
theorem dX3_meanByDistance_10 : decode cX3_meanByDistance 10 = .ok (.aload_n 0, 1) := by decide +kernel
theorem dX3_meanByDistance_11 : decode cX3_meanByDistance 11 = .ok (.getfield 21, 3) := by decide +kernel
theorem dX3_meanByDistance_14 : decode cX3_meanByDistance 14 = .ok (.if_icmp .ge 62, 3) := by decide +kernel
theorem dX3_meanByDistance_17 : decode cX3_meanByDistance 17 = .ok (.iload 6, 2) := by decide +kernel
theorem dX3_meanByDistance_19 : decode cX3_meanByDistance 19 = .ok (.bipush 40, 2) := by decide +kernel
theorem dX3_meanByDistance_21 : decode cX3_meanByDistance 21 = .ok (.if_icmp .ge 55, 3) := by decide +kernel
theorem dX3_meanByDistance_24 : decode cX3_meanByDistance 24 = .ok (.iload_n 1, 1) := by decide +kernel
theorem dX3_meanByDistance_25 : decode cX3_meanByDistance 25 = .ok (.aload_n 0, 1) := by decide +kernel
theorem dX3_meanByDistance_26 : decode cX3_meanByDistance 26 = .ok (.getfield 9, 3) := by decide +kernel
theorem dX3_meanByDistance_29 : decode cX3_meanByDistance 29 = .ok (.iload 6, 2) := by decide +kernel
theorem dX3_meanByDistance_31 : decode cX3_meanByDistance 31 = .ok (.iaload, 1) := by decide +kernel
theorem dX3_meanByDistance_32 : decode cX3_meanByDistance 32 = .ok (.invokestatic 57, 3) := by decide +kernel
theorem dX3_meanByDistance_35 : decode cX3_meanByDistance 35 = .ok (.istore 7, 2) := by decide +kernel
theorem dX3_meanByDistance_37 : decode cX3_meanByDistance 37 = .ok (.iload 7, 2) := by decide +kernel
theorem dX3_meanByDistance_39 : decode cX3_meanByDistance 39 = .ok (.ifCond .le 31, 3) := by decide +kernel
theorem dX3_meanByDistance_42 : decode cX3_meanByDistance 42 = .ok (.dconst 1, 1) := by decide +kernel
theorem dX3_meanByDistance_43 : decode cX3_meanByDistance 43 = .ok (.iload 7, 2) := by decide +kernel
theorem dX3_meanByDistance_45 : decode cX3_meanByDistance 45 = .ok (.i2d, 1) := by decide +kernel
theorem dX3_meanByDistance_46 : decode cX3_meanByDistance 46 = .ok (.ddiv, 1) := by decide +kernel
theorem dX3_meanByDistance_47 : decode cX3_meanByDistance 47 = .ok (.dstore 8, 2) := by decide +kernel
theorem dX3_meanByDistance_49 : decode cX3_meanByDistance 49 = .ok (.dload_n 2, 1) := by decide +kernel
theorem dX3_meanByDistance_50 : decode cX3_meanByDistance 50 = .ok (.dload 8, 2) := by decide +kernel
theorem dX3_meanByDistance_52 : decode cX3_meanByDistance 52 = .ok (.aload_n 0, 1) := by decide +kernel
theorem dX3_meanByDistance_53 : decode cX3_meanByDistance 53 = .ok (.getfield 15, 3) := by decide +kernel
theorem dX3_meanByDistance_56 : decode cX3_meanByDistance 56 = .ok (.iload 6, 2) := by decide +kernel
theorem dX3_meanByDistance_58 : decode cX3_meanByDistance 58 = .ok (.iaload, 1) := by decide +kernel
theorem dX3_meanByDistance_59 : decode cX3_meanByDistance 59 = .ok (.i2d, 1) := by decide +kernel
theorem dX3_meanByDistance_60 : decode cX3_meanByDistance 60 = .ok (.dmul, 1) := by decide +kernel
theorem dX3_meanByDistance_61 : decode cX3_meanByDistance 61 = .ok (.dadd, 1) := by decide +kernel
theorem dX3_meanByDistance_62 : decode cX3_meanByDistance 62 = .ok (.dstore_n 2, 1) := by decide +kernel
theorem dX3_meanByDistance_63 : decode cX3_meanByDistance 63 = .ok (.dload 4, 2) := by decide +kernel
theorem dX3_meanByDistance_65 : decode cX3_meanByDistance 65 = .ok (.dload 8, 2) := by decide +kernel
theorem dX3_meanByDistance_67 : decode cX3_meanByDistance 67 = .ok (.dadd, 1) := by decide +kernel
theorem dX3_meanByDistance_68 : decode cX3_meanByDistance 68 = .ok (.dstore 4, 2) := by decide +kernel
theorem dX3_meanByDistance_70 : decode cX3_meanByDistance 70 = .ok (.iinc 6 1, 3) := by decide +kernel
theorem dX3_meanByDistance_73 : decode cX3_meanByDistance 73 = .ok (.goto (-65), 3) := by decide +kernel
theorem dX3_meanByDistance_76 : decode cX3_meanByDistance 76 = .ok (.dload 4, 2) := by decide +kernel
theorem dX3_meanByDistance_78 : decode cX3_meanByDistance 78 = .ok (.dconst 0, 1) := by decide +kernel
theorem dX3_meanByDistance_79 : decode cX3_meanByDistance 79 = .ok (.dcmp .l, 1) := by decide +kernel
theorem dX3_meanByDistance_80 : decode cX3_meanByDistance 80 = .ok (.ifCond .le 10, 3) := by decide +kernel
theorem dX3_meanByDistance_83 : decode cX3_meanByDistance 83 = .ok (.dload_n 2, 1) := by decide +kernel
theorem dX3_meanByDistance_84 : decode cX3_meanByDistance 84 = .ok (.dload 4, 2) := by decide +kernel
theorem dX3_meanByDistance_86 : decode cX3_meanByDistance 86 = .ok (.ddiv, 1) := by decide +kernel
theorem dX3_meanByDistance_87 : decode cX3_meanByDistance 87 = .ok (.goto 4, 3) := by decide +kernel
theorem dX3_meanByDistance_90 : decode cX3_meanByDistance 90 = .ok (.dconst 0, 1) := by decide +kernel
theorem dX3_meanByDistance_91 : decode cX3_meanByDistance 91 = .ok (.dreturn, 1) := by decide +kernel
theorem dX3_squareBetween_0 : decode cX3_squareBetween 0 = .ok (.iload_n 0, 1) := by decide +kernel
theorem dX3_squareBetween_1 : decode cX3_squareBetween 1 = .ok (.bipush 10, 2) := by decide +kernel
theorem dX3_squareBetween_3 : decode cX3_squareBetween 3 = .ok (.irem, 1) := by decide +kernel
theorem dX3_squareBetween_4 : decode cX3_squareBetween 4 = .ok (.iload_n 1, 1) := by decide +kernel
theorem dX3_squareBetween_5 : decode cX3_squareBetween 5 = .ok (.bipush 10, 2) := by decide +kernel
theorem dX3_squareBetween_7 : decode cX3_squareBetween 7 = .ok (.irem, 1) := by decide +kernel
theorem dX3_squareBetween_8 : decode cX3_squareBetween 8 = .ok (.isub, 1) := by decide +kernel
theorem dX3_squareBetween_9 : decode cX3_squareBetween 9 = .ok (.istore_n 2, 1) := by decide +kernel
theorem dX3_squareBetween_10 : decode cX3_squareBetween 10 = .ok (.iload_n 0, 1) := by decide +kernel
theorem dX3_squareBetween_11 : decode cX3_squareBetween 11 = .ok (.bipush 10, 2) := by decide +kernel
theorem dX3_squareBetween_13 : decode cX3_squareBetween 13 = .ok (.idiv, 1) := by decide +kernel
theorem dX3_squareBetween_14 : decode cX3_squareBetween 14 = .ok (.iload_n 1, 1) := by decide +kernel
theorem dX3_squareBetween_15 : decode cX3_squareBetween 15 = .ok (.bipush 10, 2) := by decide +kernel
theorem dX3_squareBetween_17 : decode cX3_squareBetween 17 = .ok (.idiv, 1) := by decide +kernel
theorem dX3_squareBetween_18 : decode cX3_squareBetween 18 = .ok (.isub, 1) := by decide +kernel
theorem dX3_squareBetween_19 : decode cX3_squareBetween 19 = .ok (.istore_n 3, 1) := by decide +kernel
theorem dX3_squareBetween_20 : decode cX3_squareBetween 20 = .ok (.iload_n 2, 1) := by decide +kernel
theorem dX3_squareBetween_21 : decode cX3_squareBetween 21 = .ok (.iload_n 2, 1) := by decide +kernel
theorem dX3_squareBetween_22 : decode cX3_squareBetween 22 = .ok (.imul, 1) := by decide +kernel
theorem dX3_squareBetween_23 : decode cX3_squareBetween 23 = .ok (.iconst 4, 1) := by decide +kernel
theorem dX3_squareBetween_24 : decode cX3_squareBetween 24 = .ok (.iload_n 3, 1) := by decide +kernel
theorem dX3_squareBetween_25 : decode cX3_squareBetween 25 = .ok (.imul, 1) := by decide +kernel
theorem dX3_squareBetween_26 : decode cX3_squareBetween 26 = .ok (.iload_n 3, 1) := by decide +kernel
theorem dX3_squareBetween_27 : decode cX3_squareBetween 27 = .ok (.imul, 1) := by decide +kernel
theorem dX3_squareBetween_28 : decode cX3_squareBetween 28 = .ok (.iadd, 1) := by decide +kernel
theorem dX3_squareBetween_29 : decode cX3_squareBetween 29 = .ok (.ireturn, 1) := by decide +kernel
theorem dX4_init_0 : decode cX4_init 0 = .ok (.aload_n 0, 1) := by decide +kernel
theorem dX4_init_1 : decode cX4_init 1 = .ok (.invokespecial 3, 3) := by decide +kernel
theorem dX4_init_4 : decode cX4_init 4 = .ok (.aload_n 0, 1) := by decide +kernel
theorem dX4_init_5 : decode cX4_init 5 = .ok (.iconst 4, 1) := by decide +kernel
theorem dX4_init_6 : decode cX4_init 6 = .ok (.newarray .int, 2) := by decide +kernel
theorem dX4_init_8 : decode cX4_init 8 = .ok (.putfield 9, 3) := by decide +kernel
theorem dX4_init_11 : decode cX4_init 11 = .ok (.aload_n 0, 1) := by decide +kernel
theorem dX4_init_12 : decode cX4_init 12 = .ok (.bipush 60, 2) := by decide +kernel
theorem dX4_init_14 : decode cX4_init 14 = .ok (.newarray .int, 2) := by decide +kernel
theorem dX4_init_16 : decode cX4_init 16 = .ok (.putfield 15, 3) := by decide +kernel
theorem dX4_init_19 : decode cX4_init 19 = .ok (.aload_n 0, 1) := by decide +kernel
theorem dX4_init_20 : decode cX4_init 20 = .ok (.iconst 1, 1) := by decide +kernel
theorem dX4_init_21 : decode cX4_init 21 = .ok (.putfield 18, 3) := by decide +kernel
theorem dX4_init_24 : decode cX4_init 24 = .ok (.aload_n 0, 1) := by decide +kernel
theorem dX4_init_25 : decode cX4_init 25 = .ok (.aload_n 1, 1) := by decide +kernel
theorem dX4_init_26 : decode cX4_init 26 = .ok (.putfield 22, 3) := by decide +kernel
theorem dX4_init_29 : decode cX4_init 29 = .ok (.aload_n 0, 1) := by decide +kernel
theorem dX4_init_30 : decode cX4_init 30 = .ok (.aload_n 2, 1) := by decide +kernel
theorem dX4_init_31 : decode cX4_init 31 = .ok (.putfield 26, 3) := by decide +kernel
theorem dX4_init_34 : decode cX4_init 34 = .ok (.return_, 1) := by decide +kernel
theorem dX4_isFull_0 : decode cX4_isFull 0 = .ok (.aload_n 0, 1) := by decide +kernel
theorem dX4_isFull_1 : decode cX4_isFull 1 = .ok (.getfield 30, 3) := by decide +kernel
theorem dX4_isFull_4 : decode cX4_isFull 4 = .ok (.iconst 4, 1) := by decide +kernel
theorem dX4_isFull_5 : decode cX4_isFull 5 = .ok (.if_icmp .lt 7, 3) := by decide +kernel
theorem dX4_isFull_8 : decode cX4_isFull 8 = .ok (.iconst 1, 1) := by decide +kernel
theorem dX4_isFull_9 : decode cX4_isFull 9 = .ok (.goto 4, 3) := by decide +kernel
theorem dX4_isFull_12 : decode cX4_isFull 12 = .ok (.iconst 0, 1) := by decide +kernel
theorem dX4_isFull_13 : decode cX4_isFull 13 = .ok (.ireturn, 1) := by decide +kernel
theorem dX4_lastPrice_0 : decode cX4_lastPrice 0 = .ok (.aload_n 0, 1) := by decide +kernel
theorem dX4_lastPrice_1 : decode cX4_lastPrice 1 = .ok (.getfield 30, 3) := by decide +kernel
theorem dX4_lastPrice_4 : decode cX4_lastPrice 4 = .ok (.ifCond .le 25, 3) := by decide +kernel
theorem dX4_lastPrice_7 : decode cX4_lastPrice 7 = .ok (.aload_n 0, 1) := by decide +kernel
theorem dX4_lastPrice_8 : decode cX4_lastPrice 8 = .ok (.getfield 30, 3) := by decide +kernel
theorem dX4_lastPrice_11 : decode cX4_lastPrice 11 = .ok (.iconst 4, 1) := by decide +kernel
theorem dX4_lastPrice_12 : decode cX4_lastPrice 12 = .ok (.if_icmp .gt 17, 3) := by decide +kernel
theorem dX4_lastPrice_15 : decode cX4_lastPrice 15 = .ok (.aload_n 0, 1) := by decide +kernel
theorem dX4_lastPrice_16 : decode cX4_lastPrice 16 = .ok (.getfield 9, 3) := by decide +kernel
theorem dX4_lastPrice_19 : decode cX4_lastPrice 19 = .ok (.aload_n 0, 1) := by decide +kernel
theorem dX4_lastPrice_20 : decode cX4_lastPrice 20 = .ok (.getfield 30, 3) := by decide +kernel
theorem dX4_lastPrice_23 : decode cX4_lastPrice 23 = .ok (.iconst 1, 1) := by decide +kernel
theorem dX4_lastPrice_24 : decode cX4_lastPrice 24 = .ok (.isub, 1) := by decide +kernel
theorem dX4_lastPrice_25 : decode cX4_lastPrice 25 = .ok (.iaload, 1) := by decide +kernel
theorem dX4_lastPrice_26 : decode cX4_lastPrice 26 = .ok (.goto 4, 3) := by decide +kernel
theorem dX4_lastPrice_29 : decode cX4_lastPrice 29 = .ok (.iconst (-1), 1) := by decide +kernel
theorem dX4_lastPrice_30 : decode cX4_lastPrice 30 = .ok (.ireturn, 1) := by decide +kernel
theorem dX4_addPrice_0 : decode cX4_addPrice 0 = .ok (.aload_n 0, 1) := by decide +kernel
theorem dX4_addPrice_1 : decode cX4_addPrice 1 = .ok (.invokevirtual 34, 3) := by decide +kernel
theorem dX4_addPrice_4 : decode cX4_addPrice 4 = .ok (.ifCond .ne 28, 3) := by decide +kernel
theorem dX4_addPrice_7 : decode cX4_addPrice 7 = .ok (.aload_n 0, 1) := by decide +kernel
theorem dX4_addPrice_8 : decode cX4_addPrice 8 = .ok (.getfield 9, 3) := by decide +kernel
theorem dX4_addPrice_11 : decode cX4_addPrice 11 = .ok (.aload_n 0, 1) := by decide +kernel
theorem dX4_addPrice_12 : decode cX4_addPrice 12 = .ok (.getfield 30, 3) := by decide +kernel
theorem dX4_addPrice_15 : decode cX4_addPrice 15 = .ok (.iload_n 1, 1) := by decide +kernel
theorem dX4_addPrice_16 : decode cX4_addPrice 16 = .ok (.iastore, 1) := by decide +kernel
theorem dX4_addPrice_17 : decode cX4_addPrice 17 = .ok (.aload_n 0, 1) := by decide +kernel
theorem dX4_addPrice_18 : decode cX4_addPrice 18 = .ok (.dup, 1) := by decide +kernel
theorem dX4_addPrice_19 : decode cX4_addPrice 19 = .ok (.getfield 30, 3) := by decide +kernel
theorem dX4_addPrice_22 : decode cX4_addPrice 22 = .ok (.iconst 1, 1) := by decide +kernel
theorem dX4_addPrice_23 : decode cX4_addPrice 23 = .ok (.iadd, 1) := by decide +kernel
theorem dX4_addPrice_24 : decode cX4_addPrice 24 = .ok (.putfield 30, 3) := by decide +kernel
theorem dX4_addPrice_27 : decode cX4_addPrice 27 = .ok (.aload_n 0, 1) := by decide +kernel
theorem dX4_addPrice_28 : decode cX4_addPrice 28 = .ok (.iconst 1, 1) := by decide +kernel
theorem dX4_addPrice_29 : decode cX4_addPrice 29 = .ok (.putfield 18, 3) := by decide +kernel
theorem dX4_addPrice_32 : decode cX4_addPrice 32 = .ok (.return_, 1) := by decide +kernel
theorem dX4_dropAll_0 : decode cX4_dropAll 0 = .ok (.aload_n 0, 1) := by decide +kernel
theorem dX4_dropAll_1 : decode cX4_dropAll 1 = .ok (.iconst 0, 1) := by decide +kernel
theorem dX4_dropAll_2 : decode cX4_dropAll 2 = .ok (.putfield 30, 3) := by decide +kernel
theorem dX4_dropAll_5 : decode cX4_dropAll 5 = .ok (.aload_n 0, 1) := by decide +kernel
theorem dX4_dropAll_6 : decode cX4_dropAll 6 = .ok (.iconst 1, 1) := by decide +kernel
theorem dX4_dropAll_7 : decode cX4_dropAll 7 = .ok (.putfield 18, 3) := by decide +kernel
theorem dX4_dropAll_10 : decode cX4_dropAll 10 = .ok (.return_, 1) := by decide +kernel
theorem dX4_forget_0 : decode cX4_forget 0 = .ok (.aload_n 0, 1) := by decide +kernel
theorem dX4_forget_1 : decode cX4_forget 1 = .ok (.iconst 1, 1) := by decide +kernel
theorem dX4_forget_2 : decode cX4_forget 2 = .ok (.putfield 18, 3) := by decide +kernel
theorem dX4_forget_5 : decode cX4_forget 5 = .ok (.return_, 1) := by decide +kernel
theorem dX4_refresh_0 : decode cX4_refresh 0 = .ok (.aload_n 0, 1) := by decide +kernel
theorem dX4_refresh_1 : decode cX4_refresh 1 = .ok (.getfield 18, 3) := by decide +kernel
theorem dX4_refresh_4 : decode cX4_refresh 4 = .ok (.ifCond .ne 4, 3) := by decide +kernel
theorem dX4_refresh_7 : decode cX4_refresh 7 = .ok (.return_, 1) := by decide +kernel
theorem dX4_refresh_8 : decode cX4_refresh 8 = .ok (.iconst 0, 1) := by decide +kernel
theorem dX4_refresh_9 : decode cX4_refresh 9 = .ok (.istore_n 1, 1) := by decide +kernel
theorem dX4_refresh_10 : decode cX4_refresh 10 = .ok (.iload_n 1, 1) := by decide +kernel
theorem dX4_refresh_11 : decode cX4_refresh 11 = .ok (.bipush 60, 2) := by decide +kernel
theorem dX4_refresh_13 : decode cX4_refresh 13 = .ok (.if_icmp .ge 16, 3) := by decide +kernel
theorem dX4_refresh_16 : decode cX4_refresh 16 = .ok (.aload_n 0, 1) := by decide +kernel
theorem dX4_refresh_17 : decode cX4_refresh 17 = .ok (.getfield 15, 3) := by decide +kernel
theorem dX4_refresh_20 : decode cX4_refresh 20 = .ok (.iload_n 1, 1) := by decide +kernel
theorem dX4_refresh_21 : decode cX4_refresh 21 = .ok (.iconst (-1), 1) := by decide +kernel
theorem dX4_refresh_22 : decode cX4_refresh 22 = .ok (.iastore, 1) := by decide +kernel
theorem dX4_refresh_23 : decode cX4_refresh 23 = .ok (.iinc 1 1, 3) := by decide +kernel
theorem dX4_refresh_26 : decode cX4_refresh 26 = .ok (.goto (-16), 3) := by decide +kernel
theorem dX4_refresh_29 : decode cX4_refresh 29 = .ok (.iconst 0, 1) := by decide +kernel
theorem dX4_refresh_30 : decode cX4_refresh 30 = .ok (.istore_n 1, 1) := by decide +kernel
theorem dX4_refresh_31 : decode cX4_refresh 31 = .ok (.iload_n 1, 1) := by decide +kernel
theorem dX4_refresh_32 : decode cX4_refresh 32 = .ok (.aload_n 0, 1) := by decide +kernel
theorem dX4_refresh_33 : decode cX4_refresh 33 = .ok (.getfield 30, 3) := by decide +kernel
theorem dX4_refresh_36 : decode cX4_refresh 36 = .ok (.if_icmp .ge 32, 3) := by decide +kernel
theorem dX4_refresh_39 : decode cX4_refresh 39 = .ok (.iload_n 1, 1) := by decide +kernel
theorem dX4_refresh_40 : decode cX4_refresh 40 = .ok (.iconst 4, 1) := by decide +kernel
theorem dX4_refresh_41 : decode cX4_refresh 41 = .ok (.if_icmp .ge 27, 3) := by decide +kernel
theorem dX4_refresh_44 : decode cX4_refresh 44 = .ok (.aload_n 0, 1) := by decide +kernel
theorem dX4_refresh_45 : decode cX4_refresh 45 = .ok (.getfield 26, 3) := by decide +kernel
theorem dX4_refresh_48 : decode cX4_refresh 48 = .ok (.aload_n 0, 1) := by decide +kernel
theorem dX4_refresh_49 : decode cX4_refresh 49 = .ok (.getfield 9, 3) := by decide +kernel
theorem dX4_refresh_52 : decode cX4_refresh 52 = .ok (.iload_n 1, 1) := by decide +kernel
theorem dX4_refresh_53 : decode cX4_refresh 53 = .ok (.iaload, 1) := by decide +kernel
theorem dX4_refresh_54 : decode cX4_refresh 54 = .ok (.invokevirtual 38, 3) := by decide +kernel
theorem dX4_refresh_57 : decode cX4_refresh 57 = .ok (.aload_n 0, 1) := by decide +kernel
theorem dX4_refresh_58 : decode cX4_refresh 58 = .ok (.iload_n 1, 1) := by decide +kernel
theorem dX4_refresh_59 : decode cX4_refresh 59 = .ok (.invokevirtual 44, 3) := by decide +kernel
theorem dX4_refresh_62 : decode cX4_refresh 62 = .ok (.iinc 1 1, 3) := by decide +kernel
theorem dX4_refresh_65 : decode cX4_refresh 65 = .ok (.goto (-34), 3) := by decide +kernel
theorem dX4_refresh_68 : decode cX4_refresh 68 = .ok (.aload_n 0, 1) := by decide +kernel
theorem dX4_refresh_69 : decode cX4_refresh 69 = .ok (.iconst 0, 1) := by decide +kernel
theorem dX4_refresh_70 : decode cX4_refresh 70 = .ok (.putfield 18, 3) := by decide +kernel
theorem dX4_refresh_73 : decode cX4_refresh 73 = .ok (.return_, 1) := by decide +kernel
theorem dX4_numberFor_0 : decode cX4_numberFor 0 = .ok (.iload_n 1, 1) := by decide +kernel
theorem dX4_numberFor_1 : decode cX4_numberFor 1 = .ok (.invokestatic 47, 3) := by decide +kernel
theorem dX4_numberFor_4 : decode cX4_numberFor 4 = .ok (.ifCond .eq 23, 3) := by decide +kernel
theorem dX4_numberFor_7 : decode cX4_numberFor 7 = .ok (.aload_n 0, 1) := by decide +kernel
theorem dX4_numberFor_8 : decode cX4_numberFor 8 = .ok (.getfield 22, 3) := by decide +kernel
theorem dX4_numberFor_11 : decode cX4_numberFor 11 = .ok (.iload_n 1, 1) := by decide +kernel
theorem dX4_numberFor_12 : decode cX4_numberFor 12 = .ok (.invokevirtual 51, 3) := by decide +kernel
theorem dX4_numberFor_15 : decode cX4_numberFor 15 = .ok (.ifCond .ne 12, 3) := by decide +kernel
theorem dX4_numberFor_18 : decode cX4_numberFor 18 = .ok (.aload_n 0, 1) := by decide +kernel
theorem dX4_numberFor_19 : decode cX4_numberFor 19 = .ok (.getfield 15, 3) := by decide +kernel
theorem dX4_numberFor_22 : decode cX4_numberFor 22 = .ok (.iload_n 1, 1) := by decide +kernel
theorem dX4_numberFor_23 : decode cX4_numberFor 23 = .ok (.iaload, 1) := by decide +kernel
theorem dX4_numberFor_24 : decode cX4_numberFor 24 = .ok (.goto 4, 3) := by decide +kernel
theorem dX4_numberFor_27 : decode cX4_numberFor 27 = .ok (.iconst (-1), 1) := by decide +kernel
theorem dX4_numberFor_28 : decode cX4_numberFor 28 = .ok (.ireturn, 1) := by decide +kernel
theorem dX4_numberFound_0 : decode cX4_numberFound 0 = .ok (.iconst 0, 1) := by decide +kernel
theorem dX4_numberFound_1 : decode cX4_numberFound 1 = .ok (.istore_n 2, 1) := by decide +kernel
theorem dX4_numberFound_2 : decode cX4_numberFound 2 = .ok (.iload_n 2, 1) := by decide +kernel
theorem dX4_numberFound_3 : decode cX4_numberFound 3 = .ok (.bipush 60, 2) := by decide +kernel
theorem dX4_numberFound_5 : decode cX4_numberFound 5 = .ok (.if_icmp .ge 36, 3) := by decide +kernel
theorem dX4_numberFound_8 : decode cX4_numberFound 8 = .ok (.aload_n 0, 1) := by decide +kernel
theorem dX4_numberFound_9 : decode cX4_numberFound 9 = .ok (.getfield 15, 3) := by decide +kernel
theorem dX4_numberFound_12 : decode cX4_numberFound 12 = .ok (.iload_n 2, 1) := by decide +kernel
theorem dX4_numberFound_13 : decode cX4_numberFound 13 = .ok (.iaload, 1) := by decide +kernel
theorem dX4_numberFound_14 : decode cX4_numberFound 14 = .ok (.ifCond .ge 21, 3) := by decide +kernel
theorem dX4_numberFound_17 : decode cX4_numberFound 17 = .ok (.aload_n 0, 1) := by decide +kernel
theorem dX4_numberFound_18 : decode cX4_numberFound 18 = .ok (.getfield 26, 3) := by decide +kernel
theorem dX4_numberFound_21 : decode cX4_numberFound 21 = .ok (.iload_n 2, 1) := by decide +kernel
theorem dX4_numberFound_22 : decode cX4_numberFound 22 = .ok (.invokevirtual 56, 3) := by decide +kernel
theorem dX4_numberFound_25 : decode cX4_numberFound 25 = .ok (.ifCond .eq 10, 3) := by decide +kernel
theorem dX4_numberFound_28 : decode cX4_numberFound 28 = .ok (.aload_n 0, 1) := by decide +kernel
theorem dX4_numberFound_29 : decode cX4_numberFound 29 = .ok (.getfield 15, 3) := by decide +kernel
theorem dX4_numberFound_32 : decode cX4_numberFound 32 = .ok (.iload_n 2, 1) := by decide +kernel
theorem dX4_numberFound_33 : decode cX4_numberFound 33 = .ok (.iload_n 1, 1) := by decide +kernel
theorem dX4_numberFound_34 : decode cX4_numberFound 34 = .ok (.iastore, 1) := by decide +kernel
theorem dX4_numberFound_35 : decode cX4_numberFound 35 = .ok (.iinc 2 1, 3) := by decide +kernel
theorem dX4_numberFound_38 : decode cX4_numberFound 38 = .ok (.goto (-36), 3) := by decide +kernel
theorem dX4_numberFound_41 : decode cX4_numberFound 41 = .ok (.return_, 1) := by decide +kernel
theorem dX5_init_0 : decode cX5_init 0 = .ok (.aload_n 0, 1) := by decide +kernel
theorem dX5_init_1 : decode cX5_init 1 = .ok (.invokespecial 3, 3) := by decide +kernel
theorem dX5_init_4 : decode cX5_init 4 = .ok (.aload_n 0, 1) := by decide +kernel
theorem dX5_init_5 : decode cX5_init 5 = .ok (.bipush 60, 2) := by decide +kernel
theorem dX5_init_7 : decode cX5_init 7 = .ok (.newarray .int, 2) := by decide +kernel
theorem dX5_init_9 : decode cX5_init 9 = .ok (.putfield 9, 3) := by decide +kernel
theorem dX5_init_12 : decode cX5_init 12 = .ok (.return_, 1) := by decide +kernel
theorem dX5_count_0 : decode cX5_count 0 = .ok (.aload_n 0, 1) := by decide +kernel
theorem dX5_count_1 : decode cX5_count 1 = .ok (.getfield 15, 3) := by decide +kernel
theorem dX5_count_4 : decode cX5_count 4 = .ok (.aload_n 0, 1) := by decide +kernel
theorem dX5_count_5 : decode cX5_count 5 = .ok (.getfield 19, 3) := by decide +kernel
theorem dX5_count_8 : decode cX5_count 8 = .ok (.iadd, 1) := by decide +kernel
theorem dX5_count_9 : decode cX5_count 9 = .ok (.aload_n 0, 1) := by decide +kernel
theorem dX5_count_10 : decode cX5_count 10 = .ok (.getfield 22, 3) := by decide +kernel
theorem dX5_count_13 : decode cX5_count 13 = .ok (.isub, 1) := by decide +kernel
theorem dX5_count_14 : decode cX5_count 14 = .ok (.ireturn, 1) := by decide +kernel
theorem dX5_sum_0 : decode cX5_sum 0 = .ok (.aload_n 0, 1) := by decide +kernel
theorem dX5_sum_1 : decode cX5_sum 1 = .ok (.getfield 25, 3) := by decide +kernel
theorem dX5_sum_4 : decode cX5_sum 4 = .ok (.aload_n 0, 1) := by decide +kernel
theorem dX5_sum_5 : decode cX5_sum 5 = .ok (.getfield 28, 3) := by decide +kernel
theorem dX5_sum_8 : decode cX5_sum 8 = .ok (.iadd, 1) := by decide +kernel
theorem dX5_sum_9 : decode cX5_sum 9 = .ok (.ireturn, 1) := by decide +kernel
theorem dX5_put_0 : decode cX5_put 0 = .ok (.aload_n 0, 1) := by decide +kernel
theorem dX5_put_1 : decode cX5_put 1 = .ok (.getfield 19, 3) := by decide +kernel
theorem dX5_put_4 : decode cX5_put 4 = .ok (.ifCond .lt 42, 3) := by decide +kernel
theorem dX5_put_7 : decode cX5_put 7 = .ok (.aload_n 0, 1) := by decide +kernel
theorem dX5_put_8 : decode cX5_put 8 = .ok (.getfield 19, 3) := by decide +kernel
theorem dX5_put_11 : decode cX5_put 11 = .ok (.bipush 60, 2) := by decide +kernel
theorem dX5_put_13 : decode cX5_put 13 = .ok (.if_icmp .ge 33, 3) := by decide +kernel
theorem dX5_put_16 : decode cX5_put 16 = .ok (.aload_n 0, 1) := by decide +kernel
theorem dX5_put_17 : decode cX5_put 17 = .ok (.getfield 9, 3) := by decide +kernel
theorem dX5_put_20 : decode cX5_put 20 = .ok (.aload_n 0, 1) := by decide +kernel
theorem dX5_put_21 : decode cX5_put 21 = .ok (.getfield 19, 3) := by decide +kernel
theorem dX5_put_24 : decode cX5_put 24 = .ok (.iload_n 1, 1) := by decide +kernel
theorem dX5_put_25 : decode cX5_put 25 = .ok (.iastore, 1) := by decide +kernel
theorem dX5_put_26 : decode cX5_put 26 = .ok (.aload_n 0, 1) := by decide +kernel
theorem dX5_put_27 : decode cX5_put 27 = .ok (.dup, 1) := by decide +kernel
theorem dX5_put_28 : decode cX5_put 28 = .ok (.getfield 28, 3) := by decide +kernel
theorem dX5_put_31 : decode cX5_put 31 = .ok (.iload_n 1, 1) := by decide +kernel
theorem dX5_put_32 : decode cX5_put 32 = .ok (.iadd, 1) := by decide +kernel
theorem dX5_put_33 : decode cX5_put 33 = .ok (.putfield 28, 3) := by decide +kernel
theorem dX5_put_36 : decode cX5_put 36 = .ok (.aload_n 0, 1) := by decide +kernel
theorem dX5_put_37 : decode cX5_put 37 = .ok (.dup, 1) := by decide +kernel
theorem dX5_put_38 : decode cX5_put 38 = .ok (.getfield 19, 3) := by decide +kernel
theorem dX5_put_41 : decode cX5_put 41 = .ok (.iconst 1, 1) := by decide +kernel
theorem dX5_put_42 : decode cX5_put 42 = .ok (.iadd, 1) := by decide +kernel
theorem dX5_put_43 : decode cX5_put 43 = .ok (.putfield 19, 3) := by decide +kernel
theorem dX5_put_46 : decode cX5_put 46 = .ok (.return_, 1) := by decide +kernel
theorem dX5_give_0 : decode cX5_give 0 = .ok (.aload_n 0, 1) := by decide +kernel
theorem dX5_give_1 : decode cX5_give 1 = .ok (.getfield 31, 3) := by decide +kernel
theorem dX5_give_4 : decode cX5_give 4 = .ok (.ifCond .eq 7, 3) := by decide +kernel
theorem dX5_give_7 : decode cX5_give 7 = .ok (.aload_n 0, 1) := by decide +kernel
theorem dX5_give_8 : decode cX5_give 8 = .ok (.invokevirtual 35, 3) := by decide +kernel
theorem dX5_give_11 : decode cX5_give 11 = .ok (.aload_n 0, 1) := by decide +kernel
theorem dX5_give_12 : decode cX5_give 12 = .ok (.getfield 15, 3) := by decide +kernel
theorem dX5_give_15 : decode cX5_give 15 = .ok (.ifCond .le 10, 3) := by decide +kernel
theorem dX5_give_18 : decode cX5_give 18 = .ok (.aload_n 0, 1) := by decide +kernel
theorem dX5_give_19 : decode cX5_give 19 = .ok (.invokevirtual 38, 3) := by decide +kernel
theorem dX5_give_22 : decode cX5_give 22 = .ok (.goto 7, 3) := by decide +kernel
theorem dX5_give_25 : decode cX5_give 25 = .ok (.aload_n 0, 1) := by decide +kernel
theorem dX5_give_26 : decode cX5_give 26 = .ok (.invokevirtual 42, 3) := by decide +kernel
theorem dX5_give_29 : decode cX5_give 29 = .ok (.ireturn, 1) := by decide +kernel
theorem dX5_heapUp_0 : decode cX5_heapUp 0 = .ok (.aload_n 0, 1) := by decide +kernel
theorem dX5_heapUp_1 : decode cX5_heapUp 1 = .ok (.aload_n 0, 1) := by decide +kernel
theorem dX5_heapUp_2 : decode cX5_heapUp 2 = .ok (.invokevirtual 45, 3) := by decide +kernel
theorem dX5_heapUp_5 : decode cX5_heapUp 5 = .ok (.putfield 15, 3) := by decide +kernel
theorem dX5_heapUp_8 : decode cX5_heapUp 8 = .ok (.aload_n 0, 1) := by decide +kernel
theorem dX5_heapUp_9 : decode cX5_heapUp 9 = .ok (.aload_n 0, 1) := by decide +kernel
theorem dX5_heapUp_10 : decode cX5_heapUp 10 = .ok (.invokevirtual 48, 3) := by decide +kernel
theorem dX5_heapUp_13 : decode cX5_heapUp 13 = .ok (.putfield 25, 3) := by decide +kernel
theorem dX5_heapUp_16 : decode cX5_heapUp 16 = .ok (.aload_n 0, 1) := by decide +kernel
theorem dX5_heapUp_17 : decode cX5_heapUp 17 = .ok (.aload_n 0, 1) := by decide +kernel
theorem dX5_heapUp_18 : decode cX5_heapUp 18 = .ok (.getfield 19, 3) := by decide +kernel
theorem dX5_heapUp_21 : decode cX5_heapUp 21 = .ok (.putfield 22, 3) := by decide +kernel
theorem dX5_heapUp_24 : decode cX5_heapUp 24 = .ok (.aload_n 0, 1) := by decide +kernel
theorem dX5_heapUp_25 : decode cX5_heapUp 25 = .ok (.iconst 0, 1) := by decide +kernel
theorem dX5_heapUp_26 : decode cX5_heapUp 26 = .ok (.putfield 28, 3) := by decide +kernel
theorem dX5_heapUp_29 : decode cX5_heapUp 29 = .ok (.return_, 1) := by decide +kernel
theorem dX5_giveOfHeap_0 : decode cX5_giveOfHeap 0 = .ok (.aload_n 0, 1) := by decide +kernel
theorem dX5_giveOfHeap_1 : decode cX5_giveOfHeap 1 = .ok (.getfield 15, 3) := by decide +kernel
theorem dX5_giveOfHeap_4 : decode cX5_giveOfHeap 4 = .ok (.ifCond .le 15, 3) := by decide +kernel
theorem dX5_giveOfHeap_7 : decode cX5_giveOfHeap 7 = .ok (.aload_n 0, 1) := by decide +kernel
theorem dX5_giveOfHeap_8 : decode cX5_giveOfHeap 8 = .ok (.getfield 25, 3) := by decide +kernel
theorem dX5_giveOfHeap_11 : decode cX5_giveOfHeap 11 = .ok (.aload_n 0, 1) := by decide +kernel
theorem dX5_giveOfHeap_12 : decode cX5_giveOfHeap 12 = .ok (.getfield 15, 3) := by decide +kernel
theorem dX5_giveOfHeap_15 : decode cX5_giveOfHeap 15 = .ok (.idiv, 1) := by decide +kernel
theorem dX5_giveOfHeap_16 : decode cX5_giveOfHeap 16 = .ok (.goto 4, 3) := by decide +kernel
theorem dX5_giveOfHeap_19 : decode cX5_giveOfHeap 19 = .ok (.iconst 0, 1) := by decide +kernel
theorem dX5_giveOfHeap_20 : decode cX5_giveOfHeap 20 = .ok (.istore_n 1, 1) := by decide +kernel
theorem dX5_giveOfHeap_21 : decode cX5_giveOfHeap 21 = .ok (.aload_n 0, 1) := by decide +kernel
theorem dX5_giveOfHeap_22 : decode cX5_giveOfHeap 22 = .ok (.dup, 1) := by decide +kernel
theorem dX5_giveOfHeap_23 : decode cX5_giveOfHeap 23 = .ok (.getfield 15, 3) := by decide +kernel
theorem dX5_giveOfHeap_26 : decode cX5_giveOfHeap 26 = .ok (.iconst 1, 1) := by decide +kernel
theorem dX5_giveOfHeap_27 : decode cX5_giveOfHeap 27 = .ok (.isub, 1) := by decide +kernel
theorem dX5_giveOfHeap_28 : decode cX5_giveOfHeap 28 = .ok (.putfield 15, 3) := by decide +kernel
theorem dX5_giveOfHeap_31 : decode cX5_giveOfHeap 31 = .ok (.aload_n 0, 1) := by decide +kernel
theorem dX5_giveOfHeap_32 : decode cX5_giveOfHeap 32 = .ok (.dup, 1) := by decide +kernel
theorem dX5_giveOfHeap_33 : decode cX5_giveOfHeap 33 = .ok (.getfield 25, 3) := by decide +kernel
theorem dX5_giveOfHeap_36 : decode cX5_giveOfHeap 36 = .ok (.iload_n 1, 1) := by decide +kernel
theorem dX5_giveOfHeap_37 : decode cX5_giveOfHeap 37 = .ok (.isub, 1) := by decide +kernel
theorem dX5_giveOfHeap_38 : decode cX5_giveOfHeap 38 = .ok (.putfield 25, 3) := by decide +kernel
theorem dX5_giveOfHeap_41 : decode cX5_giveOfHeap 41 = .ok (.iload_n 1, 1) := by decide +kernel
theorem dX5_giveOfHeap_42 : decode cX5_giveOfHeap 42 = .ok (.ireturn, 1) := by decide +kernel
theorem dX5_giveLayer_0 : decode cX5_giveLayer 0 = .ok (.aload_n 0, 1) := by decide +kernel
theorem dX5_giveLayer_1 : decode cX5_giveLayer 1 = .ok (.getfield 22, 3) := by decide +kernel
theorem dX5_giveLayer_4 : decode cX5_giveLayer 4 = .ok (.ifCond .lt 23, 3) := by decide +kernel
theorem dX5_giveLayer_7 : decode cX5_giveLayer 7 = .ok (.aload_n 0, 1) := by decide +kernel
theorem dX5_giveLayer_8 : decode cX5_giveLayer 8 = .ok (.getfield 22, 3) := by decide +kernel
theorem dX5_giveLayer_11 : decode cX5_giveLayer 11 = .ok (.aload_n 0, 1) := by decide +kernel
theorem dX5_giveLayer_12 : decode cX5_giveLayer 12 = .ok (.getfield 19, 3) := by decide +kernel
theorem dX5_giveLayer_15 : decode cX5_giveLayer 15 = .ok (.if_icmp .ge 12, 3) := by decide +kernel
theorem dX5_giveLayer_18 : decode cX5_giveLayer 18 = .ok (.aload_n 0, 1) := by decide +kernel
theorem dX5_giveLayer_19 : decode cX5_giveLayer 19 = .ok (.getfield 22, 3) := by decide +kernel
theorem dX5_giveLayer_22 : decode cX5_giveLayer 22 = .ok (.bipush 60, 2) := by decide +kernel
theorem dX5_giveLayer_24 : decode cX5_giveLayer 24 = .ok (.if_icmp .lt 5, 3) := by decide +kernel
theorem dX5_giveLayer_27 : decode cX5_giveLayer 27 = .ok (.iconst 0, 1) := by decide +kernel
theorem dX5_giveLayer_28 : decode cX5_giveLayer 28 = .ok (.ireturn, 1) := by decide +kernel
theorem dX5_giveLayer_29 : decode cX5_giveLayer 29 = .ok (.aload_n 0, 1) := by decide +kernel
theorem dX5_giveLayer_30 : decode cX5_giveLayer 30 = .ok (.getfield 9, 3) := by decide +kernel
theorem dX5_giveLayer_33 : decode cX5_giveLayer 33 = .ok (.aload_n 0, 1) := by decide +kernel
theorem dX5_giveLayer_34 : decode cX5_giveLayer 34 = .ok (.getfield 22, 3) := by decide +kernel
theorem dX5_giveLayer_37 : decode cX5_giveLayer 37 = .ok (.iaload, 1) := by decide +kernel
theorem dX5_giveLayer_38 : decode cX5_giveLayer 38 = .ok (.istore_n 1, 1) := by decide +kernel
theorem dX5_giveLayer_39 : decode cX5_giveLayer 39 = .ok (.aload_n 0, 1) := by decide +kernel
theorem dX5_giveLayer_40 : decode cX5_giveLayer 40 = .ok (.dup, 1) := by decide +kernel
theorem dX5_giveLayer_41 : decode cX5_giveLayer 41 = .ok (.getfield 28, 3) := by decide +kernel
theorem dX5_giveLayer_44 : decode cX5_giveLayer 44 = .ok (.iload_n 1, 1) := by decide +kernel
theorem dX5_giveLayer_45 : decode cX5_giveLayer 45 = .ok (.isub, 1) := by decide +kernel
theorem dX5_giveLayer_46 : decode cX5_giveLayer 46 = .ok (.putfield 28, 3) := by decide +kernel
theorem dX5_giveLayer_49 : decode cX5_giveLayer 49 = .ok (.aload_n 0, 1) := by decide +kernel
theorem dX5_giveLayer_50 : decode cX5_giveLayer 50 = .ok (.dup, 1) := by decide +kernel
theorem dX5_giveLayer_51 : decode cX5_giveLayer 51 = .ok (.getfield 22, 3) := by decide +kernel
theorem dX5_giveLayer_54 : decode cX5_giveLayer 54 = .ok (.iconst 1, 1) := by decide +kernel
theorem dX5_giveLayer_55 : decode cX5_giveLayer 55 = .ok (.iadd, 1) := by decide +kernel
theorem dX5_giveLayer_56 : decode cX5_giveLayer 56 = .ok (.putfield 22, 3) := by decide +kernel
theorem dX5_giveLayer_59 : decode cX5_giveLayer 59 = .ok (.iload_n 1, 1) := by decide +kernel
theorem dX5_giveLayer_60 : decode cX5_giveLayer 60 = .ok (.ireturn, 1) := by decide +kernel
theorem dX6_init_0 : decode cX6_init 0 = .ok (.aload_n 0, 1) := by decide +kernel
theorem dX6_init_1 : decode cX6_init 1 = .ok (.invokespecial 5, 3) := by decide +kernel
theorem dX6_init_4 : decode cX6_init 4 = .ok (.aload_n 0, 1) := by decide +kernel
theorem dX6_init_5 : decode cX6_init 5 = .ok (.bipush 10, 2) := by decide +kernel
theorem dX6_init_7 : decode cX6_init 7 = .ok (.newarray .int, 2) := by decide +kernel
theorem dX6_init_9 : decode cX6_init 9 = .ok (.putfield 11, 3) := by decide +kernel
theorem dX6_init_12 : decode cX6_init 12 = .ok (.aload_n 0, 1) := by decide +kernel
theorem dX6_init_13 : decode cX6_init 13 = .ok (.bipush 10, 2) := by decide +kernel
theorem dX6_init_15 : decode cX6_init 15 = .ok (.bipush 7, 2) := by decide +kernel
theorem dX6_init_17 : decode cX6_init 17 = .ok (.multianewarray 17 2, 4) := by decide +kernel
theorem dX6_init_21 : decode cX6_init 21 = .ok (.putfield 19, 3) := by decide +kernel
theorem dX6_init_24 : decode cX6_init 24 = .ok (.aload_n 0, 1) := by decide +kernel
theorem dX6_init_25 : decode cX6_init 25 = .ok (.bipush 10, 2) := by decide +kernel
theorem dX6_init_27 : decode cX6_init 27 = .ok (.bipush 7, 2) := by decide +kernel
theorem dX6_init_29 : decode cX6_init 29 = .ok (.multianewarray 17 2, 4) := by decide +kernel
theorem dX6_init_33 : decode cX6_init 33 = .ok (.putfield 22, 3) := by decide +kernel
theorem dX6_init_36 : decode cX6_init 36 = .ok (.aload_n 0, 1) := by decide +kernel
theorem dX6_init_37 : decode cX6_init 37 = .ok (.bipush 10, 2) := by decide +kernel
theorem dX6_init_39 : decode cX6_init 39 = .ok (.bipush 7, 2) := by decide +kernel
theorem dX6_init_41 : decode cX6_init 41 = .ok (.multianewarray 17 2, 4) := by decide +kernel
theorem dX6_init_45 : decode cX6_init 45 = .ok (.putfield 25, 3) := by decide +kernel
theorem dX6_init_48 : decode cX6_init 48 = .ok (.aload_n 0, 1) := by decide +kernel
theorem dX6_init_49 : decode cX6_init 49 = .ok (.bipush 10, 2) := by decide +kernel
theorem dX6_init_51 : decode cX6_init 51 = .ok (.newarray .int, 2) := by decide +kernel
theorem dX6_init_53 : decode cX6_init 53 = .ok (.putfield 28, 3) := by decide +kernel
theorem dX6_init_56 : decode cX6_init 56 = .ok (.aload_n 0, 1) := by decide +kernel
theorem dX6_init_57 : decode cX6_init 57 = .ok (.bipush 60, 2) := by decide +kernel
theorem dX6_init_59 : decode cX6_init 59 = .ok (.newarray .boolean, 2) := by decide +kernel
theorem dX6_init_61 : decode cX6_init 61 = .ok (.putfield 31, 3) := by decide +kernel
theorem dX6_init_64 : decode cX6_init 64 = .ok (.aload_n 0, 1) := by decide +kernel
theorem dX6_init_65 : decode cX6_init 65 = .ok (.aload_n 1, 1) := by decide +kernel
theorem dX6_init_66 : decode cX6_init 66 = .ok (.putfield 35, 3) := by decide +kernel
theorem dX6_init_69 : decode cX6_init 69 = .ok (.aload_n 0, 1) := by decide +kernel
theorem dX6_init_70 : decode cX6_init 70 = .ok (.aload_n 2, 1) := by decide +kernel
theorem dX6_init_71 : decode cX6_init 71 = .ok (.putfield 39, 3) := by decide +kernel
theorem dX6_init_74 : decode cX6_init 74 = .ok (.return_, 1) := by decide +kernel
theorem dX6_find_0 : decode cX6_find 0 = .ok (.aload_n 0, 1) := by decide +kernel
theorem dX6_find_1 : decode cX6_find 1 = .ok (.iload_n 1, 1) := by decide +kernel
theorem dX6_find_2 : decode cX6_find 2 = .ok (.invokevirtual 43, 3) := by decide +kernel
theorem dX6_find_5 : decode cX6_find 5 = .ok (.aload_n 0, 1) := by decide +kernel
theorem dX6_find_6 : decode cX6_find 6 = .ok (.invokevirtual 47, 3) := by decide +kernel
theorem dX6_find_9 : decode cX6_find 9 = .ok (.bipush 9, 2) := by decide +kernel
theorem dX6_find_11 : decode cX6_find 11 = .ok (.istore_n 2, 1) := by decide +kernel
theorem dX6_find_12 : decode cX6_find 12 = .ok (.aload_n 0, 1) := by decide +kernel
theorem dX6_find_13 : decode cX6_find 13 = .ok (.iload_n 2, 1) := by decide +kernel
theorem dX6_find_14 : decode cX6_find 14 = .ok (.iconst 0, 1) := by decide +kernel
theorem dX6_find_15 : decode cX6_find 15 = .ok (.bipush 6, 2) := by decide +kernel
theorem dX6_find_17 : decode cX6_find 17 = .ok (.invokevirtual 50, 3) := by decide +kernel
theorem dX6_find_20 : decode cX6_find 20 = .ok (.istore_n 3, 1) := by decide +kernel
theorem dX6_find_21 : decode cX6_find 21 = .ok (.iload_n 3, 1) := by decide +kernel
theorem dX6_find_22 : decode cX6_find 22 = .ok (.invokestatic 54, 3) := by decide +kernel
theorem dX6_find_25 : decode cX6_find 25 = .ok (.ifCond .eq 14, 3) := by decide +kernel
theorem dX6_find_28 : decode cX6_find 28 = .ok (.aload_n 0, 1) := by decide +kernel
theorem dX6_find_29 : decode cX6_find 29 = .ok (.getfield 22, 3) := by decide +kernel
theorem dX6_find_32 : decode cX6_find 32 = .ok (.iload_n 2, 1) := by decide +kernel
theorem dX6_find_33 : decode cX6_find 33 = .ok (.aaload, 1) := by decide +kernel
theorem dX6_find_34 : decode cX6_find 34 = .ok (.iload_n 3, 1) := by decide +kernel
theorem dX6_find_35 : decode cX6_find 35 = .ok (.iaload, 1) := by decide +kernel
theorem dX6_find_36 : decode cX6_find 36 = .ok (.goto 4, 3) := by decide +kernel
theorem dX6_find_39 : decode cX6_find 39 = .ok (.iconst 0, 1) := by decide +kernel
theorem dX6_find_40 : decode cX6_find 40 = .ok (.istore 4, 2) := by decide +kernel
theorem dX6_find_42 : decode cX6_find 42 = .ok (.aload_n 0, 1) := by decide +kernel
theorem dX6_find_43 : decode cX6_find 43 = .ok (.iload_n 3, 1) := by decide +kernel
theorem dX6_find_44 : decode cX6_find 44 = .ok (.invokevirtual 58, 3) := by decide +kernel
theorem dX6_find_47 : decode cX6_find 47 = .ok (.aload_n 0, 1) := by decide +kernel
theorem dX6_find_48 : decode cX6_find 48 = .ok (.iload 4, 2) := by decide +kernel
theorem dX6_find_50 : decode cX6_find 50 = .ok (.i2l, 1) := by decide +kernel
theorem dX6_find_51 : decode cX6_find 51 = .ok (.aload_n 0, 1) := by decide +kernel
theorem dX6_find_52 : decode cX6_find 52 = .ok (.getfield 61, 3) := by decide +kernel
theorem dX6_find_55 : decode cX6_find 55 = .ok (.i2l, 1) := by decide +kernel
theorem dX6_find_56 : decode cX6_find 56 = .ok (.ladd, 1) := by decide +kernel
theorem dX6_find_57 : decode cX6_find 57 = .ok (.ldc2_w 65, 3) := by decide +kernel
theorem dX6_find_60 : decode cX6_find 60 = .ok (.ldiv, 1) := by decide +kernel
theorem dX6_find_61 : decode cX6_find 61 = .ok (.putfield 67, 3) := by decide +kernel
theorem dX6_find_64 : decode cX6_find 64 = .ok (.return_, 1) := by decide +kernel
theorem dX6_covers_0 : decode cX6_covers 0 = .ok (.iload_n 1, 1) := by decide +kernel
theorem dX6_covers_1 : decode cX6_covers 1 = .ok (.invokestatic 71, 3) := by decide +kernel
theorem dX6_covers_4 : decode cX6_covers 4 = .ok (.ifCond .ne 5, 3) := by decide +kernel
theorem dX6_covers_7 : decode cX6_covers 7 = .ok (.iconst 0, 1) := by decide +kernel
theorem dX6_covers_8 : decode cX6_covers 8 = .ok (.ireturn, 1) := by decide +kernel
theorem dX6_covers_9 : decode cX6_covers 9 = .ok (.iload_n 1, 1) := by decide +kernel
theorem dX6_covers_10 : decode cX6_covers 10 = .ok (.bipush 10, 2) := by decide +kernel
theorem dX6_covers_12 : decode cX6_covers 12 = .ok (.irem, 1) := by decide +kernel
theorem dX6_covers_13 : decode cX6_covers 13 = .ok (.istore_n 2, 1) := by decide +kernel
theorem dX6_covers_14 : decode cX6_covers 14 = .ok (.iload_n 1, 1) := by decide +kernel
theorem dX6_covers_15 : decode cX6_covers 15 = .ok (.bipush 10, 2) := by decide +kernel
theorem dX6_covers_17 : decode cX6_covers 17 = .ok (.idiv, 1) := by decide +kernel
theorem dX6_covers_18 : decode cX6_covers 18 = .ok (.istore_n 3, 1) := by decide +kernel
theorem dX6_covers_19 : decode cX6_covers 19 = .ok (.iload_n 3, 1) := by decide +kernel
theorem dX6_covers_20 : decode cX6_covers 20 = .ok (.aload_n 0, 1) := by decide +kernel
theorem dX6_covers_21 : decode cX6_covers 21 = .ok (.getfield 11, 3) := by decide +kernel
theorem dX6_covers_24 : decode cX6_covers 24 = .ok (.iload_n 2, 1) := by decide +kernel
theorem dX6_covers_25 : decode cX6_covers 25 = .ok (.iaload, 1) := by decide +kernel
theorem dX6_covers_26 : decode cX6_covers 26 = .ok (.if_icmp .lt 17, 3) := by decide +kernel
theorem dX6_covers_29 : decode cX6_covers 29 = .ok (.iload_n 3, 1) := by decide +kernel
theorem dX6_covers_30 : decode cX6_covers 30 = .ok (.aload_n 0, 1) := by decide +kernel
theorem dX6_covers_31 : decode cX6_covers 31 = .ok (.getfield 28, 3) := by decide +kernel
theorem dX6_covers_34 : decode cX6_covers 34 = .ok (.iload_n 2, 1) := by decide +kernel
theorem dX6_covers_35 : decode cX6_covers 35 = .ok (.iaload, 1) := by decide +kernel
theorem dX6_covers_36 : decode cX6_covers 36 = .ok (.if_icmp .ge 7, 3) := by decide +kernel
theorem dX6_covers_39 : decode cX6_covers 39 = .ok (.iconst 1, 1) := by decide +kernel
theorem dX6_covers_40 : decode cX6_covers 40 = .ok (.goto 4, 3) := by decide +kernel
theorem dX6_covers_43 : decode cX6_covers 43 = .ok (.iconst 0, 1) := by decide +kernel
theorem dX6_covers_44 : decode cX6_covers 44 = .ok (.ireturn, 1) := by decide +kernel
theorem dX6_isDepth_0 : decode cX6_isDepth 0 = .ok (.iload_n 0, 1) := by decide +kernel
theorem dX6_isDepth_1 : decode cX6_isDepth 1 = .ok (.ifCond .lt 13, 3) := by decide +kernel
theorem dX6_isDepth_4 : decode cX6_isDepth 4 = .ok (.iload_n 0, 1) := by decide +kernel
theorem dX6_isDepth_5 : decode cX6_isDepth 5 = .ok (.bipush 6, 2) := by decide +kernel
theorem dX6_isDepth_7 : decode cX6_isDepth 7 = .ok (.if_icmp .gt 7, 3) := by decide +kernel
theorem dX6_isDepth_10 : decode cX6_isDepth 10 = .ok (.iconst 1, 1) := by decide +kernel
theorem dX6_isDepth_11 : decode cX6_isDepth 11 = .ok (.goto 4, 3) := by decide +kernel
theorem dX6_isDepth_14 : decode cX6_isDepth 14 = .ok (.iconst 0, 1) := by decide +kernel
theorem dX6_isDepth_15 : decode cX6_isDepth 15 = .ok (.ireturn, 1) := by decide +kernel
theorem dX6_measureColumns_0 : decode cX6_measureColumns 0 = .ok (.iconst 0, 1) := by decide +kernel
theorem dX6_measureColumns_1 : decode cX6_measureColumns 1 = .ok (.istore_n 2, 1) := by decide +kernel
theorem dX6_measureColumns_2 : decode cX6_measureColumns 2 = .ok (.iload_n 2, 1) := by decide +kernel
theorem dX6_measureColumns_3 : decode cX6_measureColumns 3 = .ok (.bipush 10, 2) := by decide +kernel
theorem dX6_measureColumns_5 : decode cX6_measureColumns 5 = .ok (.if_icmp .ge 150, 3) := by decide +kernel
theorem dX6_measureColumns_8 : decode cX6_measureColumns 8 = .ok (.aload_n 0, 1) := by decide +kernel
theorem dX6_measureColumns_9 : decode cX6_measureColumns 9 = .ok (.getfield 35, 3) := by decide +kernel
theorem dX6_measureColumns_12 : decode cX6_measureColumns 12 = .ok (.iload_n 2, 1) := by decide +kernel
theorem dX6_measureColumns_13 : decode cX6_measureColumns 13 = .ok (.invokevirtual 74, 3) := by decide +kernel
theorem dX6_measureColumns_16 : decode cX6_measureColumns 16 = .ok (.istore_n 3, 1) := by decide +kernel
theorem dX6_measureColumns_17 : decode cX6_measureColumns 17 = .ok (.iconst 0, 1) := by decide +kernel
theorem dX6_measureColumns_18 : decode cX6_measureColumns 18 = .ok (.istore 4, 2) := by decide +kernel
theorem dX6_measureColumns_20 : decode cX6_measureColumns 20 = .ok (.iconst 0, 1) := by decide +kernel
theorem dX6_measureColumns_21 : decode cX6_measureColumns 21 = .ok (.istore 5, 2) := by decide +kernel
theorem dX6_measureColumns_23 : decode cX6_measureColumns 23 = .ok (.aload_n 0, 1) := by decide +kernel
theorem dX6_measureColumns_24 : decode cX6_measureColumns 24 = .ok (.getfield 11, 3) := by decide +kernel
theorem dX6_measureColumns_27 : decode cX6_measureColumns 27 = .ok (.iload_n 2, 1) := by decide +kernel
theorem dX6_measureColumns_28 : decode cX6_measureColumns 28 = .ok (.iload_n 3, 1) := by decide +kernel
theorem dX6_measureColumns_29 : decode cX6_measureColumns 29 = .ok (.iastore, 1) := by decide +kernel
theorem dX6_measureColumns_30 : decode cX6_measureColumns 30 = .ok (.iconst 0, 1) := by decide +kernel
theorem dX6_measureColumns_31 : decode cX6_measureColumns 31 = .ok (.istore 6, 2) := by decide +kernel
theorem dX6_measureColumns_33 : decode cX6_measureColumns 33 = .ok (.iload 6, 2) := by decide +kernel
theorem dX6_measureColumns_35 : decode cX6_measureColumns 35 = .ok (.bipush 6, 2) := by decide +kernel
theorem dX6_measureColumns_37 : decode cX6_measureColumns 37 = .ok (.if_icmp .gt 112, 3) := by decide +kernel
theorem dX6_measureColumns_40 : decode cX6_measureColumns 40 = .ok (.iload 6, 2) := by decide +kernel
theorem dX6_measureColumns_42 : decode cX6_measureColumns 42 = .ok (.iload_n 3, 1) := by decide +kernel
theorem dX6_measureColumns_43 : decode cX6_measureColumns 43 = .ok (.if_icmp .le 57, 3) := by decide +kernel
theorem dX6_measureColumns_46 : decode cX6_measureColumns 46 = .ok (.iload 6, 2) := by decide +kernel
theorem dX6_measureColumns_48 : decode cX6_measureColumns 48 = .ok (.iconst 1, 1) := by decide +kernel
theorem dX6_measureColumns_49 : decode cX6_measureColumns 49 = .ok (.isub, 1) := by decide +kernel
theorem dX6_measureColumns_50 : decode cX6_measureColumns 50 = .ok (.bipush 10, 2) := by decide +kernel
theorem dX6_measureColumns_52 : decode cX6_measureColumns 52 = .ok (.imul, 1) := by decide +kernel
theorem dX6_measureColumns_53 : decode cX6_measureColumns 53 = .ok (.iload_n 2, 1) := by decide +kernel
theorem dX6_measureColumns_54 : decode cX6_measureColumns 54 = .ok (.iadd, 1) := by decide +kernel
theorem dX6_measureColumns_55 : decode cX6_measureColumns 55 = .ok (.istore 7, 2) := by decide +kernel
theorem dX6_measureColumns_57 : decode cX6_measureColumns 57 = .ok (.iload 4, 2) := by decide +kernel
theorem dX6_measureColumns_59 : decode cX6_measureColumns 59 = .ok (.bipush 64, 2) := by decide +kernel
theorem dX6_measureColumns_61 : decode cX6_measureColumns 61 = .ok (.aload_n 0, 1) := by decide +kernel
theorem dX6_measureColumns_62 : decode cX6_measureColumns 62 = .ok (.getfield 39, 3) := by decide +kernel
theorem dX6_measureColumns_65 : decode cX6_measureColumns 65 = .ok (.iload 7, 2) := by decide +kernel
theorem dX6_measureColumns_67 : decode cX6_measureColumns 67 = .ok (.iload_n 1, 1) := by decide +kernel
theorem dX6_measureColumns_68 : decode cX6_measureColumns 68 = .ok (.invokevirtual 80, 3) := by decide +kernel
theorem dX6_measureColumns_71 : decode cX6_measureColumns 71 = .ok (.imul, 1) := by decide +kernel
theorem dX6_measureColumns_72 : decode cX6_measureColumns 72 = .ok (.iconst 1, 1) := by decide +kernel
theorem dX6_measureColumns_73 : decode cX6_measureColumns 73 = .ok (.isub, 1) := by decide +kernel
theorem dX6_measureColumns_74 : decode cX6_measureColumns 74 = .ok (.iadd, 1) := by decide +kernel
theorem dX6_measureColumns_75 : decode cX6_measureColumns 75 = .ok (.istore 4, 2) := by decide +kernel
theorem dX6_measureColumns_77 : decode cX6_measureColumns 77 = .ok (.aload_n 0, 1) := by decide +kernel
theorem dX6_measureColumns_78 : decode cX6_measureColumns 78 = .ok (.getfield 35, 3) := by decide +kernel
theorem dX6_measureColumns_81 : decode cX6_measureColumns 81 = .ok (.iload 7, 2) := by decide +kernel
theorem dX6_measureColumns_83 : decode cX6_measureColumns 83 = .ok (.invokevirtual 86, 3) := by decide +kernel
theorem dX6_measureColumns_86 : decode cX6_measureColumns 86 = .ok (.ifCond .eq 8, 3) := by decide +kernel
theorem dX6_measureColumns_89 : decode cX6_measureColumns 89 = .ok (.iload 5, 2) := by decide +kernel
theorem dX6_measureColumns_91 : decode cX6_measureColumns 91 = .ok (.goto 7, 3) := by decide +kernel
theorem dX6_measureColumns_94 : decode cX6_measureColumns 94 = .ok (.iload 6, 2) := by decide +kernel
theorem dX6_measureColumns_96 : decode cX6_measureColumns 96 = .ok (.iconst 1, 1) := by decide +kernel
theorem dX6_measureColumns_97 : decode cX6_measureColumns 97 = .ok (.isub, 1) := by decide +kernel
theorem dX6_measureColumns_98 : decode cX6_measureColumns 98 = .ok (.istore 5, 2) := by decide +kernel
theorem dX6_measureColumns_100 : decode cX6_measureColumns 100 = .ok (.aload_n 0, 1) := by decide +kernel
theorem dX6_measureColumns_101 : decode cX6_measureColumns 101 = .ok (.getfield 19, 3) := by decide +kernel
theorem dX6_measureColumns_104 : decode cX6_measureColumns 104 = .ok (.iload_n 2, 1) := by decide +kernel
theorem dX6_measureColumns_105 : decode cX6_measureColumns 105 = .ok (.aaload, 1) := by decide +kernel
theorem dX6_measureColumns_106 : decode cX6_measureColumns 106 = .ok (.iload 6, 2) := by decide +kernel
theorem dX6_measureColumns_108 : decode cX6_measureColumns 108 = .ok (.iload 5, 2) := by decide +kernel
theorem dX6_measureColumns_110 : decode cX6_measureColumns 110 = .ok (.iastore, 1) := by decide +kernel
theorem dX6_measureColumns_111 : decode cX6_measureColumns 111 = .ok (.aload_n 0, 1) := by decide +kernel
theorem dX6_measureColumns_112 : decode cX6_measureColumns 112 = .ok (.getfield 22, 3) := by decide +kernel
theorem dX6_measureColumns_115 : decode cX6_measureColumns 115 = .ok (.iload_n 2, 1) := by decide +kernel
theorem dX6_measureColumns_116 : decode cX6_measureColumns 116 = .ok (.aaload, 1) := by decide +kernel
theorem dX6_measureColumns_117 : decode cX6_measureColumns 117 = .ok (.iload 6, 2) := by decide +kernel
theorem dX6_measureColumns_119 : decode cX6_measureColumns 119 = .ok (.iload 6, 2) := by decide +kernel
theorem dX6_measureColumns_121 : decode cX6_measureColumns 121 = .ok (.iload_n 3, 1) := by decide +kernel
theorem dX6_measureColumns_122 : decode cX6_measureColumns 122 = .ok (.if_icmp .ge 8, 3) := by decide +kernel
theorem dX6_measureColumns_125 : decode cX6_measureColumns 125 = .ok (.ldc 89, 2) := by decide +kernel
theorem dX6_measureColumns_127 : decode cX6_measureColumns 127 = .ok (.goto 5, 3) := by decide +kernel
theorem dX6_measureColumns_130 : decode cX6_measureColumns 130 = .ok (.iload 4, 2) := by decide +kernel
theorem dX6_measureColumns_132 : decode cX6_measureColumns 132 = .ok (.iastore, 1) := by decide +kernel
theorem dX6_measureColumns_133 : decode cX6_measureColumns 133 = .ok (.aload_n 0, 1) := by decide +kernel
theorem dX6_measureColumns_134 : decode cX6_measureColumns 134 = .ok (.getfield 25, 3) := by decide +kernel
theorem dX6_measureColumns_137 : decode cX6_measureColumns 137 = .ok (.iload_n 2, 1) := by decide +kernel
theorem dX6_measureColumns_138 : decode cX6_measureColumns 138 = .ok (.aaload, 1) := by decide +kernel
theorem dX6_measureColumns_139 : decode cX6_measureColumns 139 = .ok (.iload 6, 2) := by decide +kernel
theorem dX6_measureColumns_141 : decode cX6_measureColumns 141 = .ok (.iconst (-1), 1) := by decide +kernel
theorem dX6_measureColumns_142 : decode cX6_measureColumns 142 = .ok (.iastore, 1) := by decide +kernel
theorem dX6_measureColumns_143 : decode cX6_measureColumns 143 = .ok (.iinc 6 1, 3) := by decide +kernel
theorem dX6_measureColumns_146 : decode cX6_measureColumns 146 = .ok (.goto (-113), 3) := by decide +kernel
theorem dX6_measureColumns_149 : decode cX6_measureColumns 149 = .ok (.iinc 2 1, 3) := by decide +kernel
theorem dX6_measureColumns_152 : decode cX6_measureColumns 152 = .ok (.goto (-150), 3) := by decide +kernel
theorem dX6_measureColumns_155 : decode cX6_measureColumns 155 = .ok (.return_, 1) := by decide +kernel
theorem dX6_joinColumns_0 : decode cX6_joinColumns 0 = .ok (.iconst 1, 1) := by decide +kernel
theorem dX6_joinColumns_1 : decode cX6_joinColumns 1 = .ok (.istore_n 1, 1) := by decide +kernel
theorem dX6_joinColumns_2 : decode cX6_joinColumns 2 = .ok (.iload_n 1, 1) := by decide +kernel
theorem dX6_joinColumns_3 : decode cX6_joinColumns 3 = .ok (.bipush 10, 2) := by decide +kernel
theorem dX6_joinColumns_5 : decode cX6_joinColumns 5 = .ok (.if_icmp .ge 113, 3) := by decide +kernel
theorem dX6_joinColumns_8 : decode cX6_joinColumns 8 = .ok (.iconst 0, 1) := by decide +kernel
theorem dX6_joinColumns_9 : decode cX6_joinColumns 9 = .ok (.istore_n 2, 1) := by decide +kernel
theorem dX6_joinColumns_10 : decode cX6_joinColumns 10 = .ok (.iload_n 2, 1) := by decide +kernel
theorem dX6_joinColumns_11 : decode cX6_joinColumns 11 = .ok (.bipush 6, 2) := by decide +kernel
theorem dX6_joinColumns_13 : decode cX6_joinColumns 13 = .ok (.if_icmp .gt 99, 3) := by decide +kernel
theorem dX6_joinColumns_16 : decode cX6_joinColumns 16 = .ok (.aload_n 0, 1) := by decide +kernel
theorem dX6_joinColumns_17 : decode cX6_joinColumns 17 = .ok (.iload_n 1, 1) := by decide +kernel
theorem dX6_joinColumns_18 : decode cX6_joinColumns 18 = .ok (.iconst 1, 1) := by decide +kernel
theorem dX6_joinColumns_19 : decode cX6_joinColumns 19 = .ok (.isub, 1) := by decide +kernel
theorem dX6_joinColumns_20 : decode cX6_joinColumns 20 = .ok (.aload_n 0, 1) := by decide +kernel
theorem dX6_joinColumns_21 : decode cX6_joinColumns 21 = .ok (.getfield 19, 3) := by decide +kernel
theorem dX6_joinColumns_24 : decode cX6_joinColumns 24 = .ok (.iload_n 1, 1) := by decide +kernel
theorem dX6_joinColumns_25 : decode cX6_joinColumns 25 = .ok (.aaload, 1) := by decide +kernel
theorem dX6_joinColumns_26 : decode cX6_joinColumns 26 = .ok (.iload_n 2, 1) := by decide +kernel
theorem dX6_joinColumns_27 : decode cX6_joinColumns 27 = .ok (.iaload, 1) := by decide +kernel
theorem dX6_joinColumns_28 : decode cX6_joinColumns 28 = .ok (.iload_n 2, 1) := by decide +kernel
theorem dX6_joinColumns_29 : decode cX6_joinColumns 29 = .ok (.invokevirtual 50, 3) := by decide +kernel
theorem dX6_joinColumns_32 : decode cX6_joinColumns 32 = .ok (.istore_n 3, 1) := by decide +kernel
theorem dX6_joinColumns_33 : decode cX6_joinColumns 33 = .ok (.aload_n 0, 1) := by decide +kernel
theorem dX6_joinColumns_34 : decode cX6_joinColumns 34 = .ok (.getfield 22, 3) := by decide +kernel
theorem dX6_joinColumns_37 : decode cX6_joinColumns 37 = .ok (.iload_n 1, 1) := by decide +kernel
theorem dX6_joinColumns_38 : decode cX6_joinColumns 38 = .ok (.aaload, 1) := by decide +kernel
theorem dX6_joinColumns_39 : decode cX6_joinColumns 39 = .ok (.iload_n 2, 1) := by decide +kernel
theorem dX6_joinColumns_40 : decode cX6_joinColumns 40 = .ok (.iaload, 1) := by decide +kernel
theorem dX6_joinColumns_41 : decode cX6_joinColumns 41 = .ok (.ldc 89, 2) := by decide +kernel
theorem dX6_joinColumns_43 : decode cX6_joinColumns 43 = .ok (.if_icmp .eq 14, 3) := by decide +kernel
theorem dX6_joinColumns_46 : decode cX6_joinColumns 46 = .ok (.iload_n 3, 1) := by decide +kernel
theorem dX6_joinColumns_47 : decode cX6_joinColumns 47 = .ok (.invokestatic 54, 3) := by decide +kernel
theorem dX6_joinColumns_50 : decode cX6_joinColumns 50 = .ok (.ifCond .eq 7, 3) := by decide +kernel
theorem dX6_joinColumns_53 : decode cX6_joinColumns 53 = .ok (.iconst 1, 1) := by decide +kernel
theorem dX6_joinColumns_54 : decode cX6_joinColumns 54 = .ok (.goto 4, 3) := by decide +kernel
theorem dX6_joinColumns_57 : decode cX6_joinColumns 57 = .ok (.iconst 0, 1) := by decide +kernel
theorem dX6_joinColumns_58 : decode cX6_joinColumns 58 = .ok (.istore 4, 2) := by decide +kernel
theorem dX6_joinColumns_60 : decode cX6_joinColumns 60 = .ok (.aload_n 0, 1) := by decide +kernel
theorem dX6_joinColumns_61 : decode cX6_joinColumns 61 = .ok (.getfield 25, 3) := by decide +kernel
theorem dX6_joinColumns_64 : decode cX6_joinColumns 64 = .ok (.iload_n 1, 1) := by decide +kernel
theorem dX6_joinColumns_65 : decode cX6_joinColumns 65 = .ok (.aaload, 1) := by decide +kernel
theorem dX6_joinColumns_66 : decode cX6_joinColumns 66 = .ok (.iload_n 2, 1) := by decide +kernel
theorem dX6_joinColumns_67 : decode cX6_joinColumns 67 = .ok (.iload_n 3, 1) := by decide +kernel
theorem dX6_joinColumns_68 : decode cX6_joinColumns 68 = .ok (.iastore, 1) := by decide +kernel
theorem dX6_joinColumns_69 : decode cX6_joinColumns 69 = .ok (.aload_n 0, 1) := by decide +kernel
theorem dX6_joinColumns_70 : decode cX6_joinColumns 70 = .ok (.getfield 22, 3) := by decide +kernel
theorem dX6_joinColumns_73 : decode cX6_joinColumns 73 = .ok (.iload_n 1, 1) := by decide +kernel
theorem dX6_joinColumns_74 : decode cX6_joinColumns 74 = .ok (.aaload, 1) := by decide +kernel
theorem dX6_joinColumns_75 : decode cX6_joinColumns 75 = .ok (.iload_n 2, 1) := by decide +kernel
theorem dX6_joinColumns_76 : decode cX6_joinColumns 76 = .ok (.iload 4, 2) := by decide +kernel
theorem dX6_joinColumns_78 : decode cX6_joinColumns 78 = .ok (.ifCond .eq 25, 3) := by decide +kernel
theorem dX6_joinColumns_81 : decode cX6_joinColumns 81 = .ok (.aload_n 0, 1) := by decide +kernel
theorem dX6_joinColumns_82 : decode cX6_joinColumns 82 = .ok (.getfield 22, 3) := by decide +kernel
theorem dX6_joinColumns_85 : decode cX6_joinColumns 85 = .ok (.iload_n 1, 1) := by decide +kernel
theorem dX6_joinColumns_86 : decode cX6_joinColumns 86 = .ok (.aaload, 1) := by decide +kernel
theorem dX6_joinColumns_87 : decode cX6_joinColumns 87 = .ok (.iload_n 2, 1) := by decide +kernel
theorem dX6_joinColumns_88 : decode cX6_joinColumns 88 = .ok (.iaload, 1) := by decide +kernel
theorem dX6_joinColumns_89 : decode cX6_joinColumns 89 = .ok (.aload_n 0, 1) := by decide +kernel
theorem dX6_joinColumns_90 : decode cX6_joinColumns 90 = .ok (.getfield 22, 3) := by decide +kernel
theorem dX6_joinColumns_93 : decode cX6_joinColumns 93 = .ok (.iload_n 1, 1) := by decide +kernel
theorem dX6_joinColumns_94 : decode cX6_joinColumns 94 = .ok (.iconst 1, 1) := by decide +kernel
theorem dX6_joinColumns_95 : decode cX6_joinColumns 95 = .ok (.isub, 1) := by decide +kernel
theorem dX6_joinColumns_96 : decode cX6_joinColumns 96 = .ok (.aaload, 1) := by decide +kernel
theorem dX6_joinColumns_97 : decode cX6_joinColumns 97 = .ok (.iload_n 3, 1) := by decide +kernel
theorem dX6_joinColumns_98 : decode cX6_joinColumns 98 = .ok (.iaload, 1) := by decide +kernel
theorem dX6_joinColumns_99 : decode cX6_joinColumns 99 = .ok (.iadd, 1) := by decide +kernel
theorem dX6_joinColumns_100 : decode cX6_joinColumns 100 = .ok (.goto 5, 3) := by decide +kernel
theorem dX6_joinColumns_103 : decode cX6_joinColumns 103 = .ok (.ldc 89, 2) := by decide +kernel
theorem dX6_joinColumns_105 : decode cX6_joinColumns 105 = .ok (.iastore, 1) := by decide +kernel
theorem dX6_joinColumns_106 : decode cX6_joinColumns 106 = .ok (.iinc 2 1, 3) := by decide +kernel
theorem dX6_joinColumns_109 : decode cX6_joinColumns 109 = .ok (.goto (-99), 3) := by decide +kernel
theorem dX6_joinColumns_112 : decode cX6_joinColumns 112 = .ok (.iinc 1 1, 3) := by decide +kernel
theorem dX6_joinColumns_115 : decode cX6_joinColumns 115 = .ok (.goto (-113), 3) := by decide +kernel
theorem dX6_joinColumns_118 : decode cX6_joinColumns 118 = .ok (.return_, 1) := by decide +kernel
theorem dX6_bestDepth_0 : decode cX6_bestDepth 0 = .ok (.iload_n 1, 1) := by decide +kernel
theorem dX6_bestDepth_1 : decode cX6_bestDepth 1 = .ok (.ifCond .lt 9, 3) := by decide +kernel
theorem dX6_bestDepth_4 : decode cX6_bestDepth 4 = .ok (.iload_n 1, 1) := by decide +kernel
theorem dX6_bestDepth_5 : decode cX6_bestDepth 5 = .ok (.bipush 10, 2) := by decide +kernel
theorem dX6_bestDepth_7 : decode cX6_bestDepth 7 = .ok (.if_icmp .lt 5, 3) := by decide +kernel
theorem dX6_bestDepth_10 : decode cX6_bestDepth 10 = .ok (.iconst (-1), 1) := by decide +kernel
theorem dX6_bestDepth_11 : decode cX6_bestDepth 11 = .ok (.ireturn, 1) := by decide +kernel
theorem dX6_bestDepth_12 : decode cX6_bestDepth 12 = .ok (.iconst (-1), 1) := by decide +kernel
theorem dX6_bestDepth_13 : decode cX6_bestDepth 13 = .ok (.istore 4, 2) := by decide +kernel
theorem dX6_bestDepth_15 : decode cX6_bestDepth 15 = .ok (.iload_n 2, 1) := by decide +kernel
theorem dX6_bestDepth_16 : decode cX6_bestDepth 16 = .ok (.iconst 0, 1) := by decide +kernel
theorem dX6_bestDepth_17 : decode cX6_bestDepth 17 = .ok (.invokestatic 90, 3) := by decide +kernel
theorem dX6_bestDepth_20 : decode cX6_bestDepth 20 = .ok (.istore 5, 2) := by decide +kernel
theorem dX6_bestDepth_22 : decode cX6_bestDepth 22 = .ok (.iload 5, 2) := by decide +kernel
theorem dX6_bestDepth_24 : decode cX6_bestDepth 24 = .ok (.bipush 6, 2) := by decide +kernel
theorem dX6_bestDepth_26 : decode cX6_bestDepth 26 = .ok (.if_icmp .gt 78, 3) := by decide +kernel
theorem dX6_bestDepth_29 : decode cX6_bestDepth 29 = .ok (.aload_n 0, 1) := by decide +kernel
theorem dX6_bestDepth_30 : decode cX6_bestDepth 30 = .ok (.getfield 22, 3) := by decide +kernel
theorem dX6_bestDepth_33 : decode cX6_bestDepth 33 = .ok (.iload_n 1, 1) := by decide +kernel
theorem dX6_bestDepth_34 : decode cX6_bestDepth 34 = .ok (.aaload, 1) := by decide +kernel
theorem dX6_bestDepth_35 : decode cX6_bestDepth 35 = .ok (.iload 5, 2) := by decide +kernel
theorem dX6_bestDepth_37 : decode cX6_bestDepth 37 = .ok (.iaload, 1) := by decide +kernel
theorem dX6_bestDepth_38 : decode cX6_bestDepth 38 = .ok (.ldc 89, 2) := by decide +kernel
theorem dX6_bestDepth_40 : decode cX6_bestDepth 40 = .ok (.if_icmp .eq 20, 3) := by decide +kernel
theorem dX6_bestDepth_43 : decode cX6_bestDepth 43 = .ok (.aload_n 0, 1) := by decide +kernel
theorem dX6_bestDepth_44 : decode cX6_bestDepth 44 = .ok (.getfield 19, 3) := by decide +kernel
theorem dX6_bestDepth_47 : decode cX6_bestDepth 47 = .ok (.iload_n 1, 1) := by decide +kernel
theorem dX6_bestDepth_48 : decode cX6_bestDepth 48 = .ok (.aaload, 1) := by decide +kernel
theorem dX6_bestDepth_49 : decode cX6_bestDepth 49 = .ok (.iload 5, 2) := by decide +kernel
theorem dX6_bestDepth_51 : decode cX6_bestDepth 51 = .ok (.iaload, 1) := by decide +kernel
theorem dX6_bestDepth_52 : decode cX6_bestDepth 52 = .ok (.iload_n 3, 1) := by decide +kernel
theorem dX6_bestDepth_53 : decode cX6_bestDepth 53 = .ok (.if_icmp .gt 7, 3) := by decide +kernel
theorem dX6_bestDepth_56 : decode cX6_bestDepth 56 = .ok (.iconst 1, 1) := by decide +kernel
theorem dX6_bestDepth_57 : decode cX6_bestDepth 57 = .ok (.goto 4, 3) := by decide +kernel
theorem dX6_bestDepth_60 : decode cX6_bestDepth 60 = .ok (.iconst 0, 1) := by decide +kernel
theorem dX6_bestDepth_61 : decode cX6_bestDepth 61 = .ok (.istore 6, 2) := by decide +kernel
theorem dX6_bestDepth_63 : decode cX6_bestDepth 63 = .ok (.iload 6, 2) := by decide +kernel
theorem dX6_bestDepth_65 : decode cX6_bestDepth 65 = .ok (.ifCond .eq 33, 3) := by decide +kernel
theorem dX6_bestDepth_68 : decode cX6_bestDepth 68 = .ok (.iload 4, 2) := by decide +kernel
theorem dX6_bestDepth_70 : decode cX6_bestDepth 70 = .ok (.ifCond .lt 24, 3) := by decide +kernel
theorem dX6_bestDepth_73 : decode cX6_bestDepth 73 = .ok (.aload_n 0, 1) := by decide +kernel
theorem dX6_bestDepth_74 : decode cX6_bestDepth 74 = .ok (.getfield 22, 3) := by decide +kernel
theorem dX6_bestDepth_77 : decode cX6_bestDepth 77 = .ok (.iload_n 1, 1) := by decide +kernel
theorem dX6_bestDepth_78 : decode cX6_bestDepth 78 = .ok (.aaload, 1) := by decide +kernel
theorem dX6_bestDepth_79 : decode cX6_bestDepth 79 = .ok (.iload 5, 2) := by decide +kernel
theorem dX6_bestDepth_81 : decode cX6_bestDepth 81 = .ok (.iaload, 1) := by decide +kernel
theorem dX6_bestDepth_82 : decode cX6_bestDepth 82 = .ok (.aload_n 0, 1) := by decide +kernel
theorem dX6_bestDepth_83 : decode cX6_bestDepth 83 = .ok (.getfield 22, 3) := by decide +kernel
theorem dX6_bestDepth_86 : decode cX6_bestDepth 86 = .ok (.iload_n 1, 1) := by decide +kernel
theorem dX6_bestDepth_87 : decode cX6_bestDepth 87 = .ok (.aaload, 1) := by decide +kernel
theorem dX6_bestDepth_88 : decode cX6_bestDepth 88 = .ok (.iload 4, 2) := by decide +kernel
theorem dX6_bestDepth_90 : decode cX6_bestDepth 90 = .ok (.iaload, 1) := by decide +kernel
theorem dX6_bestDepth_91 : decode cX6_bestDepth 91 = .ok (.if_icmp .le 7, 3) := by decide +kernel
theorem dX6_bestDepth_94 : decode cX6_bestDepth 94 = .ok (.iload 5, 2) := by decide +kernel
theorem dX6_bestDepth_96 : decode cX6_bestDepth 96 = .ok (.istore 4, 2) := by decide +kernel
theorem dX6_bestDepth_98 : decode cX6_bestDepth 98 = .ok (.iinc 5 1, 3) := by decide +kernel
theorem dX6_bestDepth_101 : decode cX6_bestDepth 101 = .ok (.goto (-79), 3) := by decide +kernel
theorem dX6_bestDepth_104 : decode cX6_bestDepth 104 = .ok (.iload 4, 2) := by decide +kernel
theorem dX6_bestDepth_106 : decode cX6_bestDepth 106 = .ok (.ireturn, 1) := by decide +kernel
theorem dX6_readDepths_0 : decode cX6_readDepths 0 = .ok (.iload_n 1, 1) := by decide +kernel
theorem dX6_readDepths_1 : decode cX6_readDepths 1 = .ok (.istore_n 2, 1) := by decide +kernel
theorem dX6_readDepths_2 : decode cX6_readDepths 2 = .ok (.aload_n 0, 1) := by decide +kernel
theorem dX6_readDepths_3 : decode cX6_readDepths 3 = .ok (.iconst 0, 1) := by decide +kernel
theorem dX6_readDepths_4 : decode cX6_readDepths 4 = .ok (.putfield 61, 3) := by decide +kernel
theorem dX6_readDepths_7 : decode cX6_readDepths 7 = .ok (.bipush 9, 2) := by decide +kernel
theorem dX6_readDepths_9 : decode cX6_readDepths 9 = .ok (.istore_n 3, 1) := by decide +kernel
theorem dX6_readDepths_10 : decode cX6_readDepths 10 = .ok (.iload_n 3, 1) := by decide +kernel
theorem dX6_readDepths_11 : decode cX6_readDepths 11 = .ok (.ifCond .lt 67, 3) := by decide +kernel
theorem dX6_readDepths_14 : decode cX6_readDepths 14 = .ok (.aload_n 0, 1) := by decide +kernel
theorem dX6_readDepths_15 : decode cX6_readDepths 15 = .ok (.getfield 28, 3) := by decide +kernel
theorem dX6_readDepths_18 : decode cX6_readDepths 18 = .ok (.iload_n 3, 1) := by decide +kernel
theorem dX6_readDepths_19 : decode cX6_readDepths 19 = .ok (.iload_n 2, 1) := by decide +kernel
theorem dX6_readDepths_20 : decode cX6_readDepths 20 = .ok (.aload_n 0, 1) := by decide +kernel
theorem dX6_readDepths_21 : decode cX6_readDepths 21 = .ok (.getfield 11, 3) := by decide +kernel
theorem dX6_readDepths_24 : decode cX6_readDepths 24 = .ok (.iload_n 3, 1) := by decide +kernel
theorem dX6_readDepths_25 : decode cX6_readDepths 25 = .ok (.iaload, 1) := by decide +kernel
theorem dX6_readDepths_26 : decode cX6_readDepths 26 = .ok (.invokestatic 90, 3) := by decide +kernel
theorem dX6_readDepths_29 : decode cX6_readDepths 29 = .ok (.iastore, 1) := by decide +kernel
theorem dX6_readDepths_30 : decode cX6_readDepths 30 = .ok (.aload_n 0, 1) := by decide +kernel
theorem dX6_readDepths_31 : decode cX6_readDepths 31 = .ok (.dup, 1) := by decide +kernel
theorem dX6_readDepths_32 : decode cX6_readDepths 32 = .ok (.getfield 61, 3) := by decide +kernel
theorem dX6_readDepths_35 : decode cX6_readDepths 35 = .ok (.aload_n 0, 1) := by decide +kernel
theorem dX6_readDepths_36 : decode cX6_readDepths 36 = .ok (.getfield 28, 3) := by decide +kernel
theorem dX6_readDepths_39 : decode cX6_readDepths 39 = .ok (.iload_n 3, 1) := by decide +kernel
theorem dX6_readDepths_40 : decode cX6_readDepths 40 = .ok (.iaload, 1) := by decide +kernel
theorem dX6_readDepths_41 : decode cX6_readDepths 41 = .ok (.aload_n 0, 1) := by decide +kernel
theorem dX6_readDepths_42 : decode cX6_readDepths 42 = .ok (.getfield 11, 3) := by decide +kernel
theorem dX6_readDepths_45 : decode cX6_readDepths 45 = .ok (.iload_n 3, 1) := by decide +kernel
theorem dX6_readDepths_46 : decode cX6_readDepths 46 = .ok (.iaload, 1) := by decide +kernel
theorem dX6_readDepths_47 : decode cX6_readDepths 47 = .ok (.isub, 1) := by decide +kernel
theorem dX6_readDepths_48 : decode cX6_readDepths 48 = .ok (.iadd, 1) := by decide +kernel
theorem dX6_readDepths_49 : decode cX6_readDepths 49 = .ok (.putfield 61, 3) := by decide +kernel
theorem dX6_readDepths_52 : decode cX6_readDepths 52 = .ok (.iload_n 2, 1) := by decide +kernel
theorem dX6_readDepths_53 : decode cX6_readDepths 53 = .ok (.invokestatic 54, 3) := by decide +kernel
theorem dX6_readDepths_56 : decode cX6_readDepths 56 = .ok (.ifCond .eq 14, 3) := by decide +kernel
theorem dX6_readDepths_59 : decode cX6_readDepths 59 = .ok (.aload_n 0, 1) := by decide +kernel
theorem dX6_readDepths_60 : decode cX6_readDepths 60 = .ok (.getfield 25, 3) := by decide +kernel
theorem dX6_readDepths_63 : decode cX6_readDepths 63 = .ok (.iload_n 3, 1) := by decide +kernel
theorem dX6_readDepths_64 : decode cX6_readDepths 64 = .ok (.aaload, 1) := by decide +kernel
theorem dX6_readDepths_65 : decode cX6_readDepths 65 = .ok (.iload_n 2, 1) := by decide +kernel
theorem dX6_readDepths_66 : decode cX6_readDepths 66 = .ok (.iaload, 1) := by decide +kernel
theorem dX6_readDepths_67 : decode cX6_readDepths 67 = .ok (.goto 4, 3) := by decide +kernel
theorem dX6_readDepths_70 : decode cX6_readDepths 70 = .ok (.iconst (-1), 1) := by decide +kernel
theorem dX6_readDepths_71 : decode cX6_readDepths 71 = .ok (.istore_n 2, 1) := by decide +kernel
theorem dX6_readDepths_72 : decode cX6_readDepths 72 = .ok (.iinc 3 (-1), 3) := by decide +kernel
theorem dX6_readDepths_75 : decode cX6_readDepths 75 = .ok (.goto (-65), 3) := by decide +kernel
theorem dX6_readDepths_78 : decode cX6_readDepths 78 = .ok (.return_, 1) := by decide +kernel
theorem dX6_leastPitValue_0 : decode cX6_leastPitValue 0 = .ok (.lconst 0, 1) := by decide +kernel
theorem dX6_leastPitValue_1 : decode cX6_leastPitValue 1 = .ok (.lstore_n 3, 1) := by decide +kernel
theorem dX6_leastPitValue_2 : decode cX6_leastPitValue 2 = .ok (.iconst 0, 1) := by decide +kernel
theorem dX6_leastPitValue_3 : decode cX6_leastPitValue 3 = .ok (.istore 5, 2) := by decide +kernel
theorem dX6_leastPitValue_5 : decode cX6_leastPitValue 5 = .ok (.iload 5, 2) := by decide +kernel
theorem dX6_leastPitValue_7 : decode cX6_leastPitValue 7 = .ok (.bipush 60, 2) := by decide +kernel
theorem dX6_leastPitValue_9 : decode cX6_leastPitValue 9 = .ok (.if_icmp .ge 27, 3) := by decide +kernel
theorem dX6_leastPitValue_12 : decode cX6_leastPitValue 12 = .ok (.aload_n 0, 1) := by decide +kernel
theorem dX6_leastPitValue_13 : decode cX6_leastPitValue 13 = .ok (.getfield 31, 3) := by decide +kernel
theorem dX6_leastPitValue_16 : decode cX6_leastPitValue 16 = .ok (.iload 5, 2) := by decide +kernel
theorem dX6_leastPitValue_18 : decode cX6_leastPitValue 18 = .ok (.iload 5, 2) := by decide +kernel
theorem dX6_leastPitValue_20 : decode cX6_leastPitValue 20 = .ok (.iload_n 2, 1) := by decide +kernel
theorem dX6_leastPitValue_21 : decode cX6_leastPitValue 21 = .ok (.if_icmp .ne 7, 3) := by decide +kernel
theorem dX6_leastPitValue_24 : decode cX6_leastPitValue 24 = .ok (.iconst 1, 1) := by decide +kernel
theorem dX6_leastPitValue_25 : decode cX6_leastPitValue 25 = .ok (.goto 4, 3) := by decide +kernel
theorem dX6_leastPitValue_28 : decode cX6_leastPitValue 28 = .ok (.iconst 0, 1) := by decide +kernel
theorem dX6_leastPitValue_29 : decode cX6_leastPitValue 29 = .ok (.bastore, 1) := by decide +kernel
theorem dX6_leastPitValue_30 : decode cX6_leastPitValue 30 = .ok (.iinc 5 1, 3) := by decide +kernel
theorem dX6_leastPitValue_33 : decode cX6_leastPitValue 33 = .ok (.goto (-28), 3) := by decide +kernel
theorem dX6_leastPitValue_36 : decode cX6_leastPitValue 36 = .ok (.bipush 59, 2) := by decide +kernel
theorem dX6_leastPitValue_38 : decode cX6_leastPitValue 38 = .ok (.istore 5, 2) := by decide +kernel
theorem dX6_leastPitValue_40 : decode cX6_leastPitValue 40 = .ok (.iload 5, 2) := by decide +kernel
theorem dX6_leastPitValue_42 : decode cX6_leastPitValue 42 = .ok (.ifCond .lt 39, 3) := by decide +kernel
theorem dX6_leastPitValue_45 : decode cX6_leastPitValue 45 = .ok (.aload_n 0, 1) := by decide +kernel
theorem dX6_leastPitValue_46 : decode cX6_leastPitValue 46 = .ok (.getfield 31, 3) := by decide +kernel
theorem dX6_leastPitValue_49 : decode cX6_leastPitValue 49 = .ok (.iload 5, 2) := by decide +kernel
theorem dX6_leastPitValue_51 : decode cX6_leastPitValue 51 = .ok (.baload, 1) := by decide +kernel
theorem dX6_leastPitValue_52 : decode cX6_leastPitValue 52 = .ok (.ifCond .eq 23, 3) := by decide +kernel
theorem dX6_leastPitValue_55 : decode cX6_leastPitValue 55 = .ok (.lload_n 3, 1) := by decide +kernel
theorem dX6_leastPitValue_56 : decode cX6_leastPitValue 56 = .ok (.aload_n 0, 1) := by decide +kernel
theorem dX6_leastPitValue_57 : decode cX6_leastPitValue 57 = .ok (.getfield 39, 3) := by decide +kernel
theorem dX6_leastPitValue_60 : decode cX6_leastPitValue 60 = .ok (.iload 5, 2) := by decide +kernel
theorem dX6_leastPitValue_62 : decode cX6_leastPitValue 62 = .ok (.iload_n 1, 1) := by decide +kernel
theorem dX6_leastPitValue_63 : decode cX6_leastPitValue 63 = .ok (.invokevirtual 80, 3) := by decide +kernel
theorem dX6_leastPitValue_66 : decode cX6_leastPitValue 66 = .ok (.i2l, 1) := by decide +kernel
theorem dX6_leastPitValue_67 : decode cX6_leastPitValue 67 = .ok (.ladd, 1) := by decide +kernel
theorem dX6_leastPitValue_68 : decode cX6_leastPitValue 68 = .ok (.lstore_n 3, 1) := by decide +kernel
theorem dX6_leastPitValue_69 : decode cX6_leastPitValue 69 = .ok (.aload_n 0, 1) := by decide +kernel
theorem dX6_leastPitValue_70 : decode cX6_leastPitValue 70 = .ok (.iload 5, 2) := by decide +kernel
theorem dX6_leastPitValue_72 : decode cX6_leastPitValue 72 = .ok (.invokevirtual 95, 3) := by decide +kernel
theorem dX6_leastPitValue_75 : decode cX6_leastPitValue 75 = .ok (.iinc 5 (-1), 3) := by decide +kernel
theorem dX6_leastPitValue_78 : decode cX6_leastPitValue 78 = .ok (.goto (-38), 3) := by decide +kernel
theorem dX6_leastPitValue_81 : decode cX6_leastPitValue 81 = .ok (.lload_n 3, 1) := by decide +kernel
theorem dX6_leastPitValue_82 : decode cX6_leastPitValue 82 = .ok (.lreturn, 1) := by decide +kernel
theorem dX6_markNeeded_0 : decode cX6_markNeeded 0 = .ok (.iconst (-1), 1) := by decide +kernel
theorem dX6_markNeeded_1 : decode cX6_markNeeded 1 = .ok (.istore_n 2, 1) := by decide +kernel
theorem dX6_markNeeded_2 : decode cX6_markNeeded 2 = .ok (.iload_n 2, 1) := by decide +kernel
theorem dX6_markNeeded_3 : decode cX6_markNeeded 3 = .ok (.iconst 1, 1) := by decide +kernel
theorem dX6_markNeeded_4 : decode cX6_markNeeded 4 = .ok (.if_icmp .gt 44, 3) := by decide +kernel
theorem dX6_markNeeded_7 : decode cX6_markNeeded 7 = .ok (.aload_n 0, 1) := by decide +kernel
theorem dX6_markNeeded_8 : decode cX6_markNeeded 8 = .ok (.getfield 35, 3) := by decide +kernel
theorem dX6_markNeeded_11 : decode cX6_markNeeded 11 = .ok (.iload_n 1, 1) := by decide +kernel
theorem dX6_markNeeded_12 : decode cX6_markNeeded 12 = .ok (.iload_n 2, 1) := by decide +kernel
theorem dX6_markNeeded_13 : decode cX6_markNeeded 13 = .ok (.invokevirtual 98, 3) := by decide +kernel
theorem dX6_markNeeded_16 : decode cX6_markNeeded 16 = .ok (.istore_n 3, 1) := by decide +kernel
theorem dX6_markNeeded_17 : decode cX6_markNeeded 17 = .ok (.iload_n 3, 1) := by decide +kernel
theorem dX6_markNeeded_18 : decode cX6_markNeeded 18 = .ok (.invokestatic 71, 3) := by decide +kernel
theorem dX6_markNeeded_21 : decode cX6_markNeeded 21 = .ok (.ifCond .eq 21, 3) := by decide +kernel
theorem dX6_markNeeded_24 : decode cX6_markNeeded 24 = .ok (.aload_n 0, 1) := by decide +kernel
theorem dX6_markNeeded_25 : decode cX6_markNeeded 25 = .ok (.getfield 35, 3) := by decide +kernel
theorem dX6_markNeeded_28 : decode cX6_markNeeded 28 = .ok (.iload_n 3, 1) := by decide +kernel
theorem dX6_markNeeded_29 : decode cX6_markNeeded 29 = .ok (.invokevirtual 101, 3) := by decide +kernel
theorem dX6_markNeeded_32 : decode cX6_markNeeded 32 = .ok (.ifCond .ne 10, 3) := by decide +kernel
theorem dX6_markNeeded_35 : decode cX6_markNeeded 35 = .ok (.aload_n 0, 1) := by decide +kernel
theorem dX6_markNeeded_36 : decode cX6_markNeeded 36 = .ok (.getfield 31, 3) := by decide +kernel
theorem dX6_markNeeded_39 : decode cX6_markNeeded 39 = .ok (.iload_n 3, 1) := by decide +kernel
theorem dX6_markNeeded_40 : decode cX6_markNeeded 40 = .ok (.iconst 1, 1) := by decide +kernel
theorem dX6_markNeeded_41 : decode cX6_markNeeded 41 = .ok (.bastore, 1) := by decide +kernel
theorem dX6_markNeeded_42 : decode cX6_markNeeded 42 = .ok (.iinc 2 1, 3) := by decide +kernel
theorem dX6_markNeeded_45 : decode cX6_markNeeded 45 = .ok (.goto (-43), 3) := by decide +kernel
theorem dX6_markNeeded_48 : decode cX6_markNeeded 48 = .ok (.return_, 1) := by decide +kernel
theorem dX7_init_0 : decode cX7_init 0 = .ok (.aload_n 0, 1) := by decide +kernel
theorem dX7_init_1 : decode cX7_init 1 = .ok (.invokespecial 3, 3) := by decide +kernel
theorem dX7_init_4 : decode cX7_init 4 = .ok (.aload_n 0, 1) := by decide +kernel
theorem dX7_init_5 : decode cX7_init 5 = .ok (.bipush 10, 2) := by decide +kernel
theorem dX7_init_7 : decode cX7_init 7 = .ok (.newarray .int, 2) := by decide +kernel
theorem dX7_init_9 : decode cX7_init 9 = .ok (.putfield 9, 3) := by decide +kernel
theorem dX7_init_12 : decode cX7_init 12 = .ok (.return_, 1) := by decide +kernel
theorem dX7_openWeek_0 : decode cX7_openWeek 0 = .ok (.aload_n 0, 1) := by decide +kernel
theorem dX7_openWeek_1 : decode cX7_openWeek 1 = .ok (.iconst 0, 1) := by decide +kernel
theorem dX7_openWeek_2 : decode cX7_openWeek 2 = .ok (.putfield 15, 3) := by decide +kernel
theorem dX7_openWeek_5 : decode cX7_openWeek 5 = .ok (.aload_n 0, 1) := by decide +kernel
theorem dX7_openWeek_6 : decode cX7_openWeek 6 = .ok (.iconst 0, 1) := by decide +kernel
theorem dX7_openWeek_7 : decode cX7_openWeek 7 = .ok (.putfield 19, 3) := by decide +kernel
theorem dX7_openWeek_10 : decode cX7_openWeek 10 = .ok (.return_, 1) := by decide +kernel
theorem dX7_feed_0 : decode cX7_feed 0 = .ok (.aload_n 0, 1) := by decide +kernel
theorem dX7_feed_1 : decode cX7_feed 1 = .ok (.getfield 15, 3) := by decide +kernel
theorem dX7_feed_4 : decode cX7_feed 4 = .ok (.ifCond .lt 62, 3) := by decide +kernel
theorem dX7_feed_7 : decode cX7_feed 7 = .ok (.aload_n 0, 1) := by decide +kernel
theorem dX7_feed_8 : decode cX7_feed 8 = .ok (.getfield 15, 3) := by decide +kernel
theorem dX7_feed_11 : decode cX7_feed 11 = .ok (.bipush 10, 2) := by decide +kernel
theorem dX7_feed_13 : decode cX7_feed 13 = .ok (.if_icmp .ge 53, 3) := by decide +kernel
theorem dX7_feed_16 : decode cX7_feed 16 = .ok (.aload_n 0, 1) := by decide +kernel
theorem dX7_feed_17 : decode cX7_feed 17 = .ok (.getfield 9, 3) := by decide +kernel
theorem dX7_feed_20 : decode cX7_feed 20 = .ok (.aload_n 0, 1) := by decide +kernel
theorem dX7_feed_21 : decode cX7_feed 21 = .ok (.getfield 15, 3) := by decide +kernel
theorem dX7_feed_24 : decode cX7_feed 24 = .ok (.iload_n 1, 1) := by decide +kernel
theorem dX7_feed_25 : decode cX7_feed 25 = .ok (.iastore, 1) := by decide +kernel
theorem dX7_feed_26 : decode cX7_feed 26 = .ok (.aload_n 0, 1) := by decide +kernel
theorem dX7_feed_27 : decode cX7_feed 27 = .ok (.dup, 1) := by decide +kernel
theorem dX7_feed_28 : decode cX7_feed 28 = .ok (.getfield 15, 3) := by decide +kernel
theorem dX7_feed_31 : decode cX7_feed 31 = .ok (.iconst 1, 1) := by decide +kernel
theorem dX7_feed_32 : decode cX7_feed 32 = .ok (.iadd, 1) := by decide +kernel
theorem dX7_feed_33 : decode cX7_feed 33 = .ok (.putfield 15, 3) := by decide +kernel
theorem dX7_feed_36 : decode cX7_feed 36 = .ok (.aload_n 0, 1) := by decide +kernel
theorem dX7_feed_37 : decode cX7_feed 37 = .ok (.dup, 1) := by decide +kernel
theorem dX7_feed_38 : decode cX7_feed 38 = .ok (.getfield 19, 3) := by decide +kernel
theorem dX7_feed_41 : decode cX7_feed 41 = .ok (.iload_n 1, 1) := by decide +kernel
theorem dX7_feed_42 : decode cX7_feed 42 = .ok (.iadd, 1) := by decide +kernel
theorem dX7_feed_43 : decode cX7_feed 43 = .ok (.putfield 19, 3) := by decide +kernel
theorem dX7_feed_46 : decode cX7_feed 46 = .ok (.aload_n 0, 1) := by decide +kernel
theorem dX7_feed_47 : decode cX7_feed 47 = .ok (.dup, 1) := by decide +kernel
theorem dX7_feed_48 : decode cX7_feed 48 = .ok (.getfield 22, 3) := by decide +kernel
theorem dX7_feed_51 : decode cX7_feed 51 = .ok (.iconst 1, 1) := by decide +kernel
theorem dX7_feed_52 : decode cX7_feed 52 = .ok (.iadd, 1) := by decide +kernel
theorem dX7_feed_53 : decode cX7_feed 53 = .ok (.putfield 22, 3) := by decide +kernel
theorem dX7_feed_56 : decode cX7_feed 56 = .ok (.aload_n 0, 1) := by decide +kernel
theorem dX7_feed_57 : decode cX7_feed 57 = .ok (.dup, 1) := by decide +kernel
theorem dX7_feed_58 : decode cX7_feed 58 = .ok (.getfield 25, 3) := by decide +kernel
theorem dX7_feed_61 : decode cX7_feed 61 = .ok (.iload_n 1, 1) := by decide +kernel
theorem dX7_feed_62 : decode cX7_feed 62 = .ok (.iadd, 1) := by decide +kernel
theorem dX7_feed_63 : decode cX7_feed 63 = .ok (.putfield 25, 3) := by decide +kernel
theorem dX7_feed_66 : decode cX7_feed 66 = .ok (.return_, 1) := by decide +kernel
theorem dX7_closeWeek_0 : decode cX7_closeWeek 0 = .ok (.aload_n 0, 1) := by decide +kernel
theorem dX7_closeWeek_1 : decode cX7_closeWeek 1 = .ok (.getfield 15, 3) := by decide +kernel
theorem dX7_closeWeek_4 : decode cX7_closeWeek 4 = .ok (.ifCond .gt 5, 3) := by decide +kernel
theorem dX7_closeWeek_7 : decode cX7_closeWeek 7 = .ok (.lconst 0, 1) := by decide +kernel
theorem dX7_closeWeek_8 : decode cX7_closeWeek 8 = .ok (.lreturn, 1) := by decide +kernel
theorem dX7_closeWeek_9 : decode cX7_closeWeek 9 = .ok (.aload_n 0, 1) := by decide +kernel
theorem dX7_closeWeek_10 : decode cX7_closeWeek 10 = .ok (.getfield 19, 3) := by decide +kernel
theorem dX7_closeWeek_13 : decode cX7_closeWeek 13 = .ok (.i2d, 1) := by decide +kernel
theorem dX7_closeWeek_14 : decode cX7_closeWeek 14 = .ok (.aload_n 0, 1) := by decide +kernel
theorem dX7_closeWeek_15 : decode cX7_closeWeek 15 = .ok (.getfield 15, 3) := by decide +kernel
theorem dX7_closeWeek_18 : decode cX7_closeWeek 18 = .ok (.i2d, 1) := by decide +kernel
theorem dX7_closeWeek_19 : decode cX7_closeWeek 19 = .ok (.ddiv, 1) := by decide +kernel
theorem dX7_closeWeek_20 : decode cX7_closeWeek 20 = .ok (.dstore_n 1, 1) := by decide +kernel
theorem dX7_closeWeek_21 : decode cX7_closeWeek 21 = .ok (.aload_n 0, 1) := by decide +kernel
theorem dX7_closeWeek_22 : decode cX7_closeWeek 22 = .ok (.aload_n 0, 1) := by decide +kernel
theorem dX7_closeWeek_23 : decode cX7_closeWeek 23 = .ok (.getfield 28, 3) := by decide +kernel
theorem dX7_closeWeek_26 : decode cX7_closeWeek 26 = .ok (.ifCond .eq 11, 3) := by decide +kernel
theorem dX7_closeWeek_29 : decode cX7_closeWeek 29 = .ok (.aload_n 0, 1) := by decide +kernel
theorem dX7_closeWeek_30 : decode cX7_closeWeek 30 = .ok (.dload_n 1, 1) := by decide +kernel
theorem dX7_closeWeek_31 : decode cX7_closeWeek 31 = .ok (.invokevirtual 32, 3) := by decide +kernel
theorem dX7_closeWeek_34 : decode cX7_closeWeek 34 = .ok (.goto 5, 3) := by decide +kernel
theorem dX7_closeWeek_37 : decode cX7_closeWeek 37 = .ok (.bipush 90, 2) := by decide +kernel
theorem dX7_closeWeek_39 : decode cX7_closeWeek 39 = .ok (.putfield 36, 3) := by decide +kernel
theorem dX7_closeWeek_42 : decode cX7_closeWeek 42 = .ok (.aload_n 0, 1) := by decide +kernel
theorem dX7_closeWeek_43 : decode cX7_closeWeek 43 = .ok (.dload_n 1, 1) := by decide +kernel
theorem dX7_closeWeek_44 : decode cX7_closeWeek 44 = .ok (.putfield 39, 3) := by decide +kernel
theorem dX7_closeWeek_47 : decode cX7_closeWeek 47 = .ok (.aload_n 0, 1) := by decide +kernel
theorem dX7_closeWeek_48 : decode cX7_closeWeek 48 = .ok (.iconst 1, 1) := by decide +kernel
theorem dX7_closeWeek_49 : decode cX7_closeWeek 49 = .ok (.putfield 28, 3) := by decide +kernel
theorem dX7_closeWeek_52 : decode cX7_closeWeek 52 = .ok (.lconst 0, 1) := by decide +kernel
theorem dX7_closeWeek_53 : decode cX7_closeWeek 53 = .ok (.lstore_n 3, 1) := by decide +kernel
theorem dX7_closeWeek_54 : decode cX7_closeWeek 54 = .ok (.iconst 0, 1) := by decide +kernel
theorem dX7_closeWeek_55 : decode cX7_closeWeek 55 = .ok (.istore 5, 2) := by decide +kernel
theorem dX7_closeWeek_57 : decode cX7_closeWeek 57 = .ok (.iload 5, 2) := by decide +kernel
theorem dX7_closeWeek_59 : decode cX7_closeWeek 59 = .ok (.aload_n 0, 1) := by decide +kernel
theorem dX7_closeWeek_60 : decode cX7_closeWeek 60 = .ok (.getfield 15, 3) := by decide +kernel
theorem dX7_closeWeek_63 : decode cX7_closeWeek 63 = .ok (.if_icmp .ge 38, 3) := by decide +kernel
theorem dX7_closeWeek_66 : decode cX7_closeWeek 66 = .ok (.iload 5, 2) := by decide +kernel
theorem dX7_closeWeek_68 : decode cX7_closeWeek 68 = .ok (.bipush 10, 2) := by decide +kernel
theorem dX7_closeWeek_70 : decode cX7_closeWeek 70 = .ok (.if_icmp .ge 31, 3) := by decide +kernel
theorem dX7_closeWeek_73 : decode cX7_closeWeek 73 = .ok (.lload_n 3, 1) := by decide +kernel
theorem dX7_closeWeek_74 : decode cX7_closeWeek 74 = .ok (.bipush 10, 2) := by decide +kernel
theorem dX7_closeWeek_76 : decode cX7_closeWeek 76 = .ok (.aload_n 0, 1) := by decide +kernel
theorem dX7_closeWeek_77 : decode cX7_closeWeek 77 = .ok (.getfield 9, 3) := by decide +kernel
theorem dX7_closeWeek_80 : decode cX7_closeWeek 80 = .ok (.iload 5, 2) := by decide +kernel
theorem dX7_closeWeek_82 : decode cX7_closeWeek 82 = .ok (.iaload, 1) := by decide +kernel
theorem dX7_closeWeek_83 : decode cX7_closeWeek 83 = .ok (.imul, 1) := by decide +kernel
theorem dX7_closeWeek_84 : decode cX7_closeWeek 84 = .ok (.aload_n 0, 1) := by decide +kernel
theorem dX7_closeWeek_85 : decode cX7_closeWeek 85 = .ok (.getfield 36, 3) := by decide +kernel
theorem dX7_closeWeek_88 : decode cX7_closeWeek 88 = .ok (.imul, 1) := by decide +kernel
theorem dX7_closeWeek_89 : decode cX7_closeWeek 89 = .ok (.bipush 100, 2) := by decide +kernel
theorem dX7_closeWeek_91 : decode cX7_closeWeek 91 = .ok (.idiv, 1) := by decide +kernel
theorem dX7_closeWeek_92 : decode cX7_closeWeek 92 = .ok (.i2l, 1) := by decide +kernel
theorem dX7_closeWeek_93 : decode cX7_closeWeek 93 = .ok (.ladd, 1) := by decide +kernel
theorem dX7_closeWeek_94 : decode cX7_closeWeek 94 = .ok (.lstore_n 3, 1) := by decide +kernel
theorem dX7_closeWeek_95 : decode cX7_closeWeek 95 = .ok (.iinc 5 1, 3) := by decide +kernel
theorem dX7_closeWeek_98 : decode cX7_closeWeek 98 = .ok (.goto (-41), 3) := by decide +kernel
theorem dX7_closeWeek_101 : decode cX7_closeWeek 101 = .ok (.aload_n 0, 1) := by decide +kernel
theorem dX7_closeWeek_102 : decode cX7_closeWeek 102 = .ok (.dup, 1) := by decide +kernel
theorem dX7_closeWeek_103 : decode cX7_closeWeek 103 = .ok (.getfield 43, 3) := by decide +kernel
theorem dX7_closeWeek_106 : decode cX7_closeWeek 106 = .ok (.lload_n 3, 1) := by decide +kernel
theorem dX7_closeWeek_107 : decode cX7_closeWeek 107 = .ok (.ladd, 1) := by decide +kernel
theorem dX7_closeWeek_108 : decode cX7_closeWeek 108 = .ok (.putfield 43, 3) := by decide +kernel
theorem dX7_closeWeek_111 : decode cX7_closeWeek 111 = .ok (.lload_n 3, 1) := by decide +kernel
theorem dX7_closeWeek_112 : decode cX7_closeWeek 112 = .ok (.lreturn, 1) := by decide +kernel
theorem dX7_recoveryAt_0 : decode cX7_recoveryAt 0 = .ok (.dload_n 1, 1) := by decide +kernel
theorem dX7_recoveryAt_1 : decode cX7_recoveryAt 1 = .ok (.aload_n 0, 1) := by decide +kernel
theorem dX7_recoveryAt_2 : decode cX7_recoveryAt 2 = .ok (.getfield 39, 3) := by decide +kernel
theorem dX7_recoveryAt_5 : decode cX7_recoveryAt 5 = .ok (.dcmp .g, 1) := by decide +kernel
theorem dX7_recoveryAt_6 : decode cX7_recoveryAt 6 = .ok (.ifCond .ge 12, 3) := by decide +kernel
theorem dX7_recoveryAt_9 : decode cX7_recoveryAt 9 = .ok (.aload_n 0, 1) := by decide +kernel
theorem dX7_recoveryAt_10 : decode cX7_recoveryAt 10 = .ok (.getfield 39, 3) := by decide +kernel
theorem dX7_recoveryAt_13 : decode cX7_recoveryAt 13 = .ok (.dload_n 1, 1) := by decide +kernel
theorem dX7_recoveryAt_14 : decode cX7_recoveryAt 14 = .ok (.dsub, 1) := by decide +kernel
theorem dX7_recoveryAt_15 : decode cX7_recoveryAt 15 = .ok (.goto 9, 3) := by decide +kernel
theorem dX7_recoveryAt_18 : decode cX7_recoveryAt 18 = .ok (.dload_n 1, 1) := by decide +kernel
theorem dX7_recoveryAt_19 : decode cX7_recoveryAt 19 = .ok (.aload_n 0, 1) := by decide +kernel
theorem dX7_recoveryAt_20 : decode cX7_recoveryAt 20 = .ok (.getfield 39, 3) := by decide +kernel
theorem dX7_recoveryAt_23 : decode cX7_recoveryAt 23 = .ok (.dsub, 1) := by decide +kernel
theorem dX7_recoveryAt_24 : decode cX7_recoveryAt 24 = .ok (.dstore_n 3, 1) := by decide +kernel
theorem dX7_recoveryAt_25 : decode cX7_recoveryAt 25 = .ok (.ldc2_w 47, 3) := by decide +kernel
theorem dX7_recoveryAt_28 : decode cX7_recoveryAt 28 = .ok (.dstore 5, 2) := by decide +kernel
theorem dX7_recoveryAt_30 : decode cX7_recoveryAt 30 = .ok (.ldc2_w 49, 3) := by decide +kernel
theorem dX7_recoveryAt_33 : decode cX7_recoveryAt 33 = .ok (.dload_n 3, 1) := by decide +kernel
theorem dX7_recoveryAt_34 : decode cX7_recoveryAt 34 = .ok (.dsub, 1) := by decide +kernel
theorem dX7_recoveryAt_35 : decode cX7_recoveryAt 35 = .ok (.dstore 7, 2) := by decide +kernel
theorem dX7_recoveryAt_37 : decode cX7_recoveryAt 37 = .ok (.dload 7, 2) := by decide +kernel
theorem dX7_recoveryAt_39 : decode cX7_recoveryAt 39 = .ok (.dload 5, 2) := by decide +kernel
theorem dX7_recoveryAt_41 : decode cX7_recoveryAt 41 = .ok (.dcmp .g, 1) := by decide +kernel
theorem dX7_recoveryAt_42 : decode cX7_recoveryAt 42 = .ok (.ifCond .ge 8, 3) := by decide +kernel
theorem dX7_recoveryAt_45 : decode cX7_recoveryAt 45 = .ok (.dload 5, 2) := by decide +kernel
theorem dX7_recoveryAt_47 : decode cX7_recoveryAt 47 = .ok (.goto 5, 3) := by decide +kernel
theorem dX7_recoveryAt_50 : decode cX7_recoveryAt 50 = .ok (.dload 7, 2) := by decide +kernel
theorem dX7_recoveryAt_52 : decode cX7_recoveryAt 52 = .ok (.invokestatic 51, 3) := by decide +kernel
theorem dX7_recoveryAt_55 : decode cX7_recoveryAt 55 = .ok (.ireturn, 1) := by decide +kernel
theorem dX8_init_0 : decode cX8_init 0 = .ok (.aload_n 0, 1) := by decide +kernel
theorem dX8_init_1 : decode cX8_init 1 = .ok (.invokespecial 1, 3) := by decide +kernel
theorem dX8_init_4 : decode cX8_init 4 = .ok (.return_, 1) := by decide +kernel
theorem dX8_rainAndPump_0 : decode cX8_rainAndPump 0 = .ok (.aload_n 0, 1) := by decide +kernel
theorem dX8_rainAndPump_1 : decode cX8_rainAndPump 1 = .ok (.dup, 1) := by decide +kernel
theorem dX8_rainAndPump_2 : decode cX8_rainAndPump 2 = .ok (.getfield 7, 3) := by decide +kernel
