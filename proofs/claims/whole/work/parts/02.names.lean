/-! names, words and calls, by program -/
def iZ (z : Int) : Int32 := Int32.ofInt z
def lZ (z : Int) : Int64 := Int64.ofInt z
def RX0 : String := "GalleryRays$Circle"
def TX0 : u_T := fun k => match k with
  | _ => ("", "", "", false)
def tyX0 : Nat → FieldType := fun k => match k with
  | _ => .int
abbrev wsX00 : List Cond := u_ws RX0 TX0 0
theorem nmX0 : ∀ a, a < 0 → ∀ b, b < 0 → a ≠ b → (TX0 a).2.1 ≠ (TX0 b).2.1 := by decide +kernel
theorem tyX0_ok : ∀ k, k < 0 → parseFieldDescriptor (TX0 k).2.2.1 = some (tyX0 k) := by decide +kernel
abbrev cX0_isPlace : ByteArray := prog_2_method_2_code
def yX0_isPlace : MethodName := ⟨RX0, "isPlace", "(I)Z"⟩
abbrev cX0_isStep : ByteArray := prog_2_method_3_code
def yX0_isStep : MethodName := ⟨RX0, "isStep", "(I)Z"⟩
abbrev cX0_placeAfter : ByteArray := prog_2_method_4_code
def yX0_placeAfter : MethodName := ⟨RX0, "placeAfter", "(II)I"⟩
abbrev cX0_sine : ByteArray := prog_2_method_5_code
def yX0_sine : MethodName := ⟨RX0, "sine", "(II)I"⟩
abbrev cX0_chordTime : ByteArray := prog_2_method_6_code
def yX0_chordTime : MethodName := ⟨RX0, "chordTime", "(I)I"⟩
abbrev cX0_causticRadius : ByteArray := prog_2_method_7_code
def yX0_causticRadius : MethodName := ⟨RX0, "causticRadius", "(I)I"⟩
abbrev cX0_sharedDivisor : ByteArray := prog_2_method_8_code
def yX0_sharedDivisor : MethodName := ⟨RX0, "sharedDivisor", "(I)I"⟩
abbrev cX0_tilted : ByteArray := prog_2_method_9_code
def yX0_tilted : MethodName := ⟨RX0, "tilted", "(II)I"⟩
abbrev cX0_smallestStep : ByteArray := prog_2_method_10_code
def yX0_smallestStep : MethodName := ⟨RX0, "smallestStep", "(II)I"⟩
abbrev cX0_isBetter : ByteArray := prog_2_method_11_code
def yX0_isBetter : MethodName := ⟨RX0, "isBetter", "(II)Z"⟩
def RX1 : String := "GalleryRays$Ears"
def TX1 : u_T := fun k => match k with
  | _ => ("GalleryRays$Ears", "numbers", "[J", true)
def tyX1 : Nat → FieldType := fun k => match k with
  | _ => .array .long
abbrev wsX10 : List Cond := u_ws RX1 TX1 1
theorem nmX1 : ∀ a, a < 1 → ∀ b, b < 1 → a ≠ b → (TX1 a).2.1 ≠ (TX1 b).2.1 := by decide +kernel
theorem tyX1_ok : ∀ k, k < 1 → parseFieldDescriptor (TX1 k).2.2.1 = some (tyX1 k) := by decide +kernel
abbrev cX1_init : ByteArray := prog_3_method_1_code
def yX1_init : MethodName := ⟨RX1, "<init>", "()V"⟩
abbrev cX1_forget : ByteArray := prog_3_method_2_code
def yX1_forget : MethodName := ⟨RX1, "forget", "()V"⟩
abbrev cX1_hear : ByteArray := prog_3_method_3_code
def yX1_hear : MethodName := ⟨RX1, "hear", "(ILGalleryRays$Ray;)V"⟩
abbrev cX1_numberOf : ByteArray := prog_3_method_4_code
def yX1_numberOf : MethodName := ⟨RX1, "numberOf", "(II)J"⟩
def RX2 : String := "GalleryRays$History"
def TX2 : u_T := fun k => match k with
  | 0 => ("GalleryRays$History", "states", "[LGalleryRays$Wall;", true)
  | _ => ("GalleryRays$History", "count", "I", false)
def tyX2 : Nat → FieldType := fun k => match k with
  | 0 => .array (.object "GalleryRays$Wall")
  | _ => .int
abbrev wsX20 : List Cond := u_ws RX2 TX2 2
theorem nmX2 : ∀ a, a < 2 → ∀ b, b < 2 → a ≠ b → (TX2 a).2.1 ≠ (TX2 b).2.1 := by decide +kernel
theorem tyX2_ok : ∀ k, k < 2 → parseFieldDescriptor (TX2 k).2.2.1 = some (tyX2 k) := by decide +kernel
abbrev cX2_init : ByteArray := prog_4_method_1_code
def yX2_init : MethodName := ⟨RX2, "<init>", "()V"⟩
abbrev cX2_keep : ByteArray := prog_4_method_2_code
def yX2_keep : MethodName := ⟨RX2, "keep", "(LGalleryRays$Wall;)V"⟩
abbrev cX2_dropOldest : ByteArray := prog_4_method_3_code
def yX2_dropOldest : MethodName := ⟨RX2, "dropOldest", "()V"⟩
abbrev cX2_restore : ByteArray := prog_4_method_4_code
def yX2_restore : MethodName := ⟨RX2, "restore", "(LGalleryRays$Wall;)V"⟩
def RX3 : String := "GalleryRays$HitLog"
def TX3 : u_T := fun k => match k with
  | 0 => ("GalleryRays$HitLog", "numbers", "[J", true)
  | 1 => ("GalleryRays$HitLog", "echoes", "[I", true)
  | 2 => ("GalleryRays$HitLog", "count", "I", false)
  | 3 => ("GalleryRays$HitLog", "echoCount", "I", false)
  | _ => ("GalleryRays$HitLog", "energySum", "J", false)
def tyX3 : Nat → FieldType := fun k => match k with
  | 0 => .array .long
  | 1 => .array .int
  | 2 => .int
  | 3 => .int
  | _ => .long
abbrev wsX30 : List Cond := u_ws RX3 TX3 5
theorem nmX3 : ∀ a, a < 5 → ∀ b, b < 5 → a ≠ b → (TX3 a).2.1 ≠ (TX3 b).2.1 := by decide +kernel
theorem tyX3_ok : ∀ k, k < 5 → parseFieldDescriptor (TX3 k).2.2.1 = some (tyX3 k) := by decide +kernel
abbrev cX3_init : ByteArray := prog_5_method_1_code
def yX3_init : MethodName := ⟨RX3, "<init>", "()V"⟩
abbrev cX3_forget : ByteArray := prog_5_method_2_code
def yX3_forget : MethodName := ⟨RX3, "forget", "()V"⟩
abbrev cX3_note : ByteArray := prog_5_method_3_code
def yX3_note : MethodName := ⟨RX3, "note", "(LGalleryRays$Ray;)V"⟩
abbrev cX3_noteEcho : ByteArray := prog_5_method_4_code
def yX3_noteEcho : MethodName := ⟨RX3, "noteEcho", "()V"⟩
abbrev cX3_numberOf : ByteArray := prog_5_method_5_code
def yX3_numberOf : MethodName := ⟨RX3, "numberOf", "(II)J"⟩
abbrev cX3_echoAt : ByteArray := prog_5_method_6_code
def yX3_echoAt : MethodName := ⟨RX3, "echoAt", "(I)I"⟩
abbrev cX3_meanEnergy : ByteArray := prog_5_method_7_code
def yX3_meanEnergy : MethodName := ⟨RX3, "meanEnergy", "()F"⟩
def RX4 : String := "GalleryRays$Parts"
def TX4 : u_T := fun k => match k with
  | 0 => ("GalleryRays$Parts", "numbers", "[I", true)
  | _ => ("GalleryRays$Parts", "count", "I", false)
def tyX4 : Nat → FieldType := fun k => match k with
  | 0 => .array .int
  | _ => .int
abbrev wsX40 : List Cond := u_ws RX4 TX4 2
theorem nmX4 : ∀ a, a < 2 → ∀ b, b < 2 → a ≠ b → (TX4 a).2.1 ≠ (TX4 b).2.1 := by decide +kernel
theorem tyX4_ok : ∀ k, k < 2 → parseFieldDescriptor (TX4 k).2.2.1 = some (tyX4 k) := by decide +kernel
abbrev cX4_init : ByteArray := prog_6_method_1_code
def yX4_init : MethodName := ⟨RX4, "<init>", "()V"⟩
abbrev cX4_isAllowed : ByteArray := prog_6_method_2_code
def yX4_isAllowed : MethodName := ⟨RX4, "isAllowed", "(IIII)Z"⟩
abbrev cX4_leastBy : ByteArray := prog_6_method_3_code
def yX4_leastBy : MethodName := ⟨RX4, "leastBy", "(I)I"⟩
abbrev cX4_mostBy : ByteArray := prog_6_method_4_code
def yX4_mostBy : MethodName := ⟨RX4, "mostBy", "(I)I"⟩
abbrev cX4_mayBeNegative : ByteArray := prog_6_method_5_code
def yX4_mayBeNegative : MethodName := ⟨RX4, "mayBeNegative", "(I)Z"⟩
abbrev cX4_hasBy : ByteArray := prog_6_method_6_code
def yX4_hasBy : MethodName := ⟨RX4, "hasBy", "(I)Z"⟩
abbrev cX4_word : ByteArray := prog_6_method_7_code
def yX4_word : MethodName := ⟨RX4, "word", "(I)Ljava/lang/String;"⟩
abbrev cX4_has : ByteArray := prog_6_method_8_code
def yX4_has : MethodName := ⟨RX4, "has", "(I)Z"⟩
abbrev cX4_numberOf : ByteArray := prog_6_method_9_code
def yX4_numberOf : MethodName := ⟨RX4, "numberOf", "(II)I"⟩
abbrev cX4_covers : ByteArray := prog_6_method_10_code
def yX4_covers : MethodName := ⟨RX4, "covers", "(II)Z"⟩
abbrev cX4_append : ByteArray := prog_6_method_11_code
def yX4_append : MethodName := ⟨RX4, "append", "(IIII)V"⟩
abbrev cX4_appendAll : ByteArray := prog_6_method_12_code
def yX4_appendAll : MethodName := ⟨RX4, "appendAll", "(LGalleryRays$Parts;)V"⟩
abbrev cX4_takeOut : ByteArray := prog_6_method_13_code
def yX4_takeOut : MethodName := ⟨RX4, "takeOut", "(I)V"⟩
abbrev cX4_copyFrom : ByteArray := prog_6_method_14_code
def yX4_copyFrom : MethodName := ⟨RX4, "copyFrom", "(LGalleryRays$Parts;)V"⟩
def RX5 : String := "GalleryRays$Path"
def TX5 : u_T := fun k => match k with
  | 0 => ("GalleryRays$Path", "corners", "[I", true)
  | _ => ("GalleryRays$Path", "count", "I", false)
def tyX5 : Nat → FieldType := fun k => match k with
  | 0 => .array .int
  | _ => .int
abbrev wsX50 : List Cond := u_ws RX5 TX5 2
theorem nmX5 : ∀ a, a < 2 → ∀ b, b < 2 → a ≠ b → (TX5 a).2.1 ≠ (TX5 b).2.1 := by decide +kernel
theorem tyX5_ok : ∀ k, k < 2 → parseFieldDescriptor (TX5 k).2.2.1 = some (tyX5 k) := by decide +kernel
abbrev cX5_init : ByteArray := prog_7_method_1_code
def yX5_init : MethodName := ⟨RX5, "<init>", "()V"⟩
abbrev cX5_startAt : ByteArray := prog_7_method_2_code
def yX5_startAt : MethodName := ⟨RX5, "startAt", "(I)V"⟩
abbrev cX5_goTo : ByteArray := prog_7_method_3_code
def yX5_goTo : MethodName := ⟨RX5, "goTo", "(I)V"⟩
abbrev cX5_crossingPairs : ByteArray := prog_7_method_4_code
def yX5_crossingPairs : MethodName := ⟨RX5, "crossingPairs", "(I)I"⟩
abbrev cX5_cross : ByteArray := prog_7_method_5_code
def yX5_cross : MethodName := ⟨RX5, "cross", "(IIII)Z"⟩
abbrev cX5_isBetween : ByteArray := prog_7_method_6_code
def yX5_isBetween : MethodName := ⟨RX5, "isBetween", "(III)Z"⟩
abbrev cX5_isBeyond : ByteArray := prog_7_method_7_code
def yX5_isBeyond : MethodName := ⟨RX5, "isBeyond", "(III)Z"⟩
def RX6 : String := "GalleryRays$PlaceMarks"
def TX6 : u_T := fun k => match k with
  | 0 => ("GalleryRays$PlaceMarks", "words", "[J", true)
  | _ => ("GalleryRays$PlaceMarks", "count", "I", false)
def tyX6 : Nat → FieldType := fun k => match k with
  | 0 => .array .long
  | _ => .int
abbrev wsX60 : List Cond := u_ws RX6 TX6 2
theorem nmX6 : ∀ a, a < 2 → ∀ b, b < 2 → a ≠ b → (TX6 a).2.1 ≠ (TX6 b).2.1 := by decide +kernel
theorem tyX6_ok : ∀ k, k < 2 → parseFieldDescriptor (TX6 k).2.2.1 = some (tyX6 k) := by decide +kernel
abbrev cX6_init : ByteArray := prog_8_method_1_code
def yX6_init : MethodName := ⟨RX6, "<init>", "()V"⟩
abbrev cX6_forget : ByteArray := prog_8_method_2_code
def yX6_forget : MethodName := ⟨RX6, "forget", "()V"⟩
abbrev cX6_mark : ByteArray := prog_8_method_3_code
def yX6_mark : MethodName := ⟨RX6, "mark", "(I)V"⟩
abbrev cX6_lowestBit : ByteArray := prog_8_method_4_code
def yX6_lowestBit : MethodName := ⟨RX6, "lowestBit", "(J)I"⟩
abbrev cX6_longestGap : ByteArray := prog_8_method_5_code
def yX6_longestGap : MethodName := ⟨RX6, "longestGap", "()I"⟩
def RX7 : String := "GalleryRays$Ray"
def TX7 : u_T := fun k => match k with
  | 0 => ("GalleryRays$Ray", "number", "I", true)
  | 1 => ("GalleryRays$Ray", "place", "I", false)
  | 2 => ("GalleryRays$Ray", "step", "I", false)
  | 3 => ("GalleryRays$Ray", "energy", "I", false)
  | 4 => ("GalleryRays$Ray", "arrival", "J", false)
  | _ => ("GalleryRays$Ray", "going", "Z", false)
def tyX7 : Nat → FieldType := fun k => match k with
  | 0 => .int
  | 1 => .int
  | 2 => .int
  | 3 => .int
  | 4 => .long
  | _ => .boolean
abbrev wsX70 : List Cond := u_ws RX7 TX7 6
theorem nmX7 : ∀ a, a < 6 → ∀ b, b < 6 → a ≠ b → (TX7 a).2.1 ≠ (TX7 b).2.1 := by decide +kernel
theorem tyX7_ok : ∀ k, k < 6 → parseFieldDescriptor (TX7 k).2.2.1 = some (tyX7 k) := by decide +kernel
abbrev cX7_init : ByteArray := prog_9_method_1_code
def yX7_init : MethodName := ⟨RX7, "<init>", "(I)V"⟩
abbrev cX7_start : ByteArray := prog_9_method_2_code
def yX7_start : MethodName := ⟨RX7, "start", "(IIIJ)V"⟩
abbrev cX7_lose : ByteArray := prog_9_method_3_code
def yX7_lose : MethodName := ⟨RX7, "lose", "(I)V"⟩
abbrev cX7_tilt : ByteArray := prog_9_method_4_code
def yX7_tilt : MethodName := ⟨RX7, "tilt", "(I)V"⟩
def RX8 : String := "GalleryRays$Shot"
def TX8 : u_T := fun k => match k with
  | 0 => ("GalleryRays$Shot", "rays", "[LGalleryRays$Ray;", true)
  | 1 => ("GalleryRays$Shot", "log", "LGalleryRays$HitLog;", true)
  | 2 => ("GalleryRays$Shot", "marks", "LGalleryRays$PlaceMarks;", true)
  | 3 => ("GalleryRays$Shot", "ears", "LGalleryRays$Ears;", true)
  | 4 => ("GalleryRays$Shot", "path", "LGalleryRays$Path;", true)
  | _ => ("GalleryRays$Shot", "rayCount", "I", false)
def tyX8 : Nat → FieldType := fun k => match k with
  | 0 => .array (.object "GalleryRays$Ray")
  | 1 => .object "GalleryRays$HitLog"
  | 2 => .object "GalleryRays$PlaceMarks"
  | 3 => .object "GalleryRays$Ears"
  | 4 => .object "GalleryRays$Path"
  | _ => .int
abbrev wsX80 : List Cond := u_ws RX8 TX8 6
theorem nmX8 : ∀ a, a < 6 → ∀ b, b < 6 → a ≠ b → (TX8 a).2.1 ≠ (TX8 b).2.1 := by decide +kernel
theorem tyX8_ok : ∀ k, k < 6 → parseFieldDescriptor (TX8 k).2.2.1 = some (tyX8 k) := by decide +kernel
abbrev cX8_init : ByteArray := prog_10_method_1_code
def yX8_init : MethodName := ⟨RX8, "<init>", "()V"⟩
abbrev cX8_run : ByteArray := prog_10_method_2_code
def yX8_run : MethodName := ⟨RX8, "run", "(LGalleryRays$Wall;III)V"⟩
abbrev cX8_begin : ByteArray := prog_10_method_3_code
def yX8_begin : MethodName := ⟨RX8, "begin", "(IIIJ)V"⟩
abbrev cX8_earliest : ByteArray := prog_10_method_4_code
def yX8_earliest : MethodName := ⟨RX8, "earliest", "()LGalleryRays$Ray;"⟩
abbrev cX8_meet : ByteArray := prog_10_method_5_code
def yX8_meet : MethodName := ⟨RX8, "meet", "(LGalleryRays$Wall;LGalleryRays$Ray;)V"⟩
abbrev cX8_act : ByteArray := prog_10_method_6_code
def yX8_act : MethodName := ⟨RX8, "act", "(LGalleryRays$Wall;ILGalleryRays$Ray;)V"⟩
abbrev cX8_split : ByteArray := prog_10_method_7_code
def yX8_split : MethodName := ⟨RX8, "split", "(LGalleryRays$Ray;II)V"⟩
def RX9 : String := "GalleryRays$Text"
def TX9 : u_T := fun k => match k with
  | 0 => ("GalleryRays$Text", "signs", "[C", true)
  | 1 => ("GalleryRays$Text", "found", "LGalleryRays$Parts;", true)
  | 2 => ("GalleryRays$Text", "length", "I", false)
  | 3 => ("GalleryRays$Text", "at", "I", false)
  | 4 => ("GalleryRays$Text", "broken", "Z", false)
  | _ => ("GalleryRays$Text", "outOfRange", "I", false)
def tyX9 : Nat → FieldType := fun k => match k with
  | 0 => .array .char
  | 1 => .object "GalleryRays$Parts"
  | 2 => .int
  | 3 => .int
  | 4 => .boolean
  | _ => .int
abbrev wsX90 : List Cond := u_ws RX9 TX9 6
theorem nmX9 : ∀ a, a < 6 → ∀ b, b < 6 → a ≠ b → (TX9 a).2.1 ≠ (TX9 b).2.1 := by decide +kernel
theorem tyX9_ok : ∀ k, k < 6 → parseFieldDescriptor (TX9 k).2.2.1 = some (tyX9 k) := by decide +kernel
abbrev cX9_init : ByteArray := prog_11_method_1_code
def yX9_init : MethodName := ⟨RX9, "<init>", "()V"⟩
abbrev cX9_append : ByteArray := prog_11_method_2_code
def yX9_append : MethodName := ⟨RX9, "append", "(C)V"⟩
abbrev cX9_signAt : ByteArray := prog_11_method_3_code
def yX9_signAt : MethodName := ⟨RX9, "signAt", "(I)C"⟩
abbrev cX9_errorPlace : ByteArray := prog_11_method_4_code
def yX9_errorPlace : MethodName := ⟨RX9, "errorPlace", "()I"⟩
abbrev cX9_readOne : ByteArray := prog_11_method_5_code
def yX9_readOne : MethodName := ⟨RX9, "readOne", "()V"⟩
abbrev cX9_take : ByteArray := prog_11_method_6_code
def yX9_take : MethodName := ⟨RX9, "take", "(C)V"⟩
abbrev cX9_takeWord : ByteArray := prog_11_method_7_code
def yX9_takeWord : MethodName := ⟨RX9, "takeWord", "()I"⟩
abbrev cX9_sameSigns : ByteArray := prog_11_method_8_code
def yX9_sameSigns : MethodName := ⟨RX9, "sameSigns", "(Ljava/lang/String;)I"⟩
abbrev cX9_takeNumber : ByteArray := prog_11_method_9_code
def yX9_takeNumber : MethodName := ⟨RX9, "takeNumber", "(IIZ)I"⟩
abbrev cX9_isDigit : ByteArray := prog_11_method_10_code
def yX9_isDigit : MethodName := ⟨RX9, "isDigit", "(C)Z"⟩
def RX10 : String := "GalleryRays$Wall"
def TX10 : u_T := fun k => match k with
  | 0 => ("GalleryRays$Wall", "parts", "LGalleryRays$Parts;", true)
  | 1 => ("GalleryRays$Wall", "loss", "I", false)
  | _ => ("GalleryRays$Wall", "threshold", "I", false)
def tyX10 : Nat → FieldType := fun k => match k with
  | 0 => .object "GalleryRays$Parts"
  | 1 => .int
  | _ => .int
abbrev wsX100 : List Cond := u_ws RX10 TX10 3
theorem nmX10 : ∀ a, a < 3 → ∀ b, b < 3 → a ≠ b → (TX10 a).2.1 ≠ (TX10 b).2.1 := by decide +kernel
theorem tyX10_ok : ∀ k, k < 3 → parseFieldDescriptor (TX10 k).2.2.1 = some (tyX10 k) := by decide +kernel
abbrev cX10_init : ByteArray := prog_12_method_1_code
def yX10_init : MethodName := ⟨RX10, "<init>", "()V"⟩
abbrev cX10_copyFrom : ByteArray := prog_12_method_2_code
def yX10_copyFrom : MethodName := ⟨RX10, "copyFrom", "(LGalleryRays$Wall;)V"⟩
def RX11 : String := "GalleryRays"
def TX11 : u_T := fun k => match k with
  | 0 => ("GalleryRays", "wall", "LGalleryRays$Wall;", true)
  | 1 => ("GalleryRays", "history", "LGalleryRays$History;", true)
  | 2 => ("GalleryRays", "text", "LGalleryRays$Text;", true)
  | _ => ("GalleryRays", "shot", "LGalleryRays$Shot;", true)
def tyX11 : Nat → FieldType := fun k => match k with
  | 0 => .object "GalleryRays$Wall"
  | 1 => .object "GalleryRays$History"
  | 2 => .object "GalleryRays$Text"
  | _ => .object "GalleryRays$Shot"
abbrev wsX110 : List Cond := u_ws RX11 TX11 4
theorem nmX11 : ∀ a, a < 4 → ∀ b, b < 4 → a ≠ b → (TX11 a).2.1 ≠ (TX11 b).2.1 := by decide +kernel
theorem tyX11_ok : ∀ k, k < 4 → parseFieldDescriptor (TX11 k).2.2.1 = some (tyX11 k) := by decide +kernel
abbrev cX11_init : ByteArray := prog_1_method_1_code
def yX11_init : MethodName := ⟨RX11, "<init>", "()V"⟩
abbrev cX11_add : ByteArray := prog_1_method_2_code
def yX11_add : MethodName := ⟨RX11, "add", "(IIII)I"⟩
abbrev cX11_remove : ByteArray := prog_1_method_3_code
def yX11_remove : MethodName := ⟨RX11, "remove", "(I)I"⟩
abbrev cX11_part : ByteArray := prog_1_method_4_code
def yX11_part : MethodName := ⟨RX11, "part", "(II)I"⟩
abbrev cX11_parts : ByteArray := prog_1_method_5_code
def yX11_parts : MethodName := ⟨RX11, "parts", "()I"⟩
abbrev cX11_setLoss : ByteArray := prog_1_method_6_code
def yX11_setLoss : MethodName := ⟨RX11, "setLoss", "(I)I"⟩
abbrev cX11_setThreshold : ByteArray := prog_1_method_7_code
def yX11_setThreshold : MethodName := ⟨RX11, "setThreshold", "(I)I"⟩
abbrev cX11_type : ByteArray := prog_1_method_8_code
def yX11_type : MethodName := ⟨RX11, "type", "(I)I"⟩
abbrev cX11_clear : ByteArray := prog_1_method_9_code
def yX11_clear : MethodName := ⟨RX11, "clear", "()I"⟩
abbrev cX11_read : ByteArray := prog_1_method_10_code
def yX11_read : MethodName := ⟨RX11, "read", "()I"⟩
abbrev cX11_shoot : ByteArray := prog_1_method_11_code
def yX11_shoot : MethodName := ⟨RX11, "shoot", "(III)I"⟩
abbrev cX11_hits : ByteArray := prog_1_method_12_code
def yX11_hits : MethodName := ⟨RX11, "hits", "()I"⟩
abbrev cX11_hit : ByteArray := prog_1_method_13_code
def yX11_hit : MethodName := ⟨RX11, "hit", "(II)J"⟩
abbrev cX11_rays : ByteArray := prog_1_method_14_code
def yX11_rays : MethodName := ⟨RX11, "rays", "()I"⟩
abbrev cX11_coverage : ByteArray := prog_1_method_15_code
def yX11_coverage : MethodName := ⟨RX11, "coverage", "()I"⟩
abbrev cX11_gap : ByteArray := prog_1_method_16_code
def yX11_gap : MethodName := ⟨RX11, "gap", "()I"⟩
abbrev cX11_heard : ByteArray := prog_1_method_17_code
def yX11_heard : MethodName := ⟨RX11, "heard", "(II)J"⟩
abbrev cX11_echo : ByteArray := prog_1_method_18_code
def yX11_echo : MethodName := ⟨RX11, "echo", "(I)I"⟩
abbrev cX11_mean : ByteArray := prog_1_method_19_code
def yX11_mean : MethodName := ⟨RX11, "mean", "()F"⟩
abbrev cX11_crossings : ByteArray := prog_1_method_20_code
def yX11_crossings : MethodName := ⟨RX11, "crossings", "(I)I"⟩
abbrev cX11_time : ByteArray := prog_1_method_21_code
def yX11_time : MethodName := ⟨RX11, "time", "(I)I"⟩
abbrev cX11_caustic : ByteArray := prog_1_method_22_code
def yX11_caustic : MethodName := ⟨RX11, "caustic", "(I)I"⟩
abbrev cX11_order : ByteArray := prog_1_method_23_code
def yX11_order : MethodName := ⟨RX11, "order", "(I)I"⟩
abbrev cX11_turns : ByteArray := prog_1_method_24_code
def yX11_turns : MethodName := ⟨RX11, "turns", "(I)I"⟩
abbrev cX11_aim : ByteArray := prog_1_method_25_code
def yX11_aim : MethodName := ⟨RX11, "aim", "(III)I"⟩
abbrev cX11_widest : ByteArray := prog_1_method_26_code
def yX11_widest : MethodName := ⟨RX11, "widest", "(I)I"⟩
abbrev cX11_undo : ByteArray := prog_1_method_27_code
def yX11_undo : MethodName := ⟨RX11, "undo", "()I"⟩
abbrev cX11_fingerprint : ByteArray := prog_1_method_28_code
def yX11_fingerprint : MethodName := ⟨RX11, "fingerprint", "()J"⟩
abbrev cX11_mixed : ByteArray := prog_1_method_29_code
def yX11_mixed : MethodName := ⟨RX11, "mixed", "(JJ)J"⟩
def RX12 : String := "GalleryRaysModel"
def TX12 : u_T := fun k => match k with
  | 0 => ("GalleryRaysModel", "v", "[I", true)
  | 1 => ("GalleryRaysModel", "past", "[I", true)
  | 2 => ("GalleryRaysModel", "pastMany", "I", false)
  | 3 => ("GalleryRaysModel", "text", "[I", true)
  | 4 => ("GalleryRaysModel", "typed", "I", false)
  | 5 => ("GalleryRaysModel", "at", "I", false)
  | 6 => ("GalleryRaysModel", "found", "I", false)
  | 7 => ("GalleryRaysModel", "wrong", "I", false)
  | 8 => ("GalleryRaysModel", "kinds", "[I", true)
  | 9 => ("GalleryRaysModel", "numbers", "[I", true)
  | 10 => ("GalleryRaysModel", "rayPlace", "[I", true)
  | 11 => ("GalleryRaysModel", "rayTime", "[J", true)
  | 12 => ("GalleryRaysModel", "rayEnergy", "[I", true)
  | 13 => ("GalleryRaysModel", "rayStep", "[I", true)
  | 14 => ("GalleryRaysModel", "isLive", "[Z", true)
  | 15 => ("GalleryRaysModel", "rayMany", "I", false)
  | 16 => ("GalleryRaysModel", "hits", "[J", true)
  | 17 => ("GalleryRaysModel", "isEcho", "[Z", true)
  | 18 => ("GalleryRaysModel", "hitMany", "I", false)
  | 19 => ("GalleryRaysModel", "heardMany", "[I", true)
  | 20 => ("GalleryRaysModel", "heardSum", "[J", true)
  | 21 => ("GalleryRaysModel", "heardFirst", "[J", true)
  | 22 => ("GalleryRaysModel", "heardMost", "[I", true)
  | 23 => ("GalleryRaysModel", "shots", "I", false)
  | 24 => ("GalleryRaysModel", "begin", "I", false)
  | 25 => ("GalleryRaysModel", "isHit", "[Z", true)
  | _ => ("GalleryRaysModel", "ends", "[I", true)
def tyX12 : Nat → FieldType := fun k => match k with
  | 0 => .array .int
  | 1 => .array .int
  | 2 => .int
  | 3 => .array .int
  | 4 => .int
  | 5 => .int
  | 6 => .int
  | 7 => .int
  | 8 => .array .int
  | 9 => .array .int
  | 10 => .array .int
  | 11 => .array .long
  | 12 => .array .int
  | 13 => .array .int
  | 14 => .array .boolean
  | 15 => .int
  | 16 => .array .long
  | 17 => .array .boolean
  | 18 => .int
  | 19 => .array .int
  | 20 => .array .long
  | 21 => .array .long
  | 22 => .array .int
  | 23 => .int
  | 24 => .int
  | 25 => .array .boolean
  | _ => .array .int
abbrev wsX120 : List Cond := u_ws RX12 TX12 27
theorem nmX12 : ∀ a, a < 27 → ∀ b, b < 27 → a ≠ b → (TX12 a).2.1 ≠ (TX12 b).2.1 := by decide +kernel
theorem tyX12_ok : ∀ k, k < 27 → parseFieldDescriptor (TX12 k).2.2.1 = some (tyX12 k) := by decide +kernel
abbrev cX12_init : ByteArray := prog_14_method_1_code
def yX12_init : MethodName := ⟨RX12, "<init>", "()V"⟩
abbrev cX12_in : ByteArray := prog_14_method_2_code
def yX12_in : MethodName := ⟨RX12, "in", "(III)Z"⟩
abbrev cX12_act : ByteArray := prog_14_method_3_code
def yX12_act : MethodName := ⟨RX12, "act", "()V"⟩
abbrev cX12_isNumber : ByteArray := prog_14_method_4_code
def yX12_isNumber : MethodName := ⟨RX12, "isNumber", "(II)Z"⟩
abbrev cX12_adds : ByteArray := prog_14_method_5_code
def yX12_adds : MethodName := ⟨RX12, "adds", "(IIII)V"⟩
abbrev cX12_add : ByteArray := prog_14_method_6_code
def yX12_add : MethodName := ⟨RX12, "add", "(IIII)I"⟩
abbrev cX12_isPart : ByteArray := prog_14_method_7_code
def yX12_isPart : MethodName := ⟨RX12, "isPart", "(I)Z"⟩
abbrev cX12_remove : ByteArray := prog_14_method_8_code
def yX12_remove : MethodName := ⟨RX12, "remove", "(I)I"⟩
abbrev cX12_part : ByteArray := prog_14_method_9_code
def yX12_part : MethodName := ⟨RX12, "part", "(II)I"⟩
abbrev cX12_parts : ByteArray := prog_14_method_10_code
def yX12_parts : MethodName := ⟨RX12, "parts", "()I"⟩
abbrev cX12_sets : ByteArray := prog_14_method_11_code
def yX12_sets : MethodName := ⟨RX12, "sets", "(II)I"⟩
abbrev cX12_setLoss : ByteArray := prog_14_method_12_code
def yX12_setLoss : MethodName := ⟨RX12, "setLoss", "(I)I"⟩
abbrev cX12_setThreshold : ByteArray := prog_14_method_13_code
def yX12_setThreshold : MethodName := ⟨RX12, "setThreshold", "(I)I"⟩
abbrev cX12_type : ByteArray := prog_14_method_14_code
def yX12_type : MethodName := ⟨RX12, "type", "(I)I"⟩
abbrev cX12_clear : ByteArray := prog_14_method_15_code
def yX12_clear : MethodName := ⟨RX12, "clear", "()I"⟩
abbrev cX12_sign : ByteArray := prog_14_method_16_code
def yX12_sign : MethodName := ⟨RX12, "sign", "()I"⟩
abbrev cX12_takes : ByteArray := prog_14_method_17_code
def yX12_takes : MethodName := ⟨RX12, "takes", "(I)Z"⟩
abbrev cX12_four : ByteArray := prog_14_method_18_code
def yX12_four : MethodName := ⟨RX12, "four", "(IIII)Z"⟩
abbrev cX12_word : ByteArray := prog_14_method_19_code
def yX12_word : MethodName := ⟨RX12, "word", "()Z"⟩
abbrev cX12_number : ByteArray := prog_14_method_20_code
def yX12_number : MethodName := ⟨RX12, "number", "(IIIZ)Z"⟩
abbrev cX12_readsPart : ByteArray := prog_14_method_21_code
def yX12_readsPart : MethodName := ⟨RX12, "readsPart", "()Z"⟩
abbrev cX12_wrongAt : ByteArray := prog_14_method_22_code
def yX12_wrongAt : MethodName := ⟨RX12, "wrongAt", "()I"⟩
abbrev cX12_read : ByteArray := prog_14_method_23_code
def yX12_read : MethodName := ⟨RX12, "read", "()I"⟩
abbrev cX12_isStep : ByteArray := prog_14_method_24_code
def yX12_isStep : MethodName := ⟨RX12, "isStep", "(I)Z"⟩
abbrev cX12_wide : ByteArray := prog_14_method_25_code
def yX12_wide : MethodName := ⟨RX12, "wide", "(JJ)I"⟩
abbrev cX12_chord : ByteArray := prog_14_method_26_code
def yX12_chord : MethodName := ⟨RX12, "chord", "(I)I"⟩
abbrev cX12_time : ByteArray := prog_14_method_27_code
def yX12_time : MethodName := ⟨RX12, "time", "(I)I"⟩
abbrev cX12_circle : ByteArray := prog_14_method_28_code
def yX12_circle : MethodName := ⟨RX12, "circle", "(I)I"⟩
abbrev cX12_caustic : ByteArray := prog_14_method_29_code
def yX12_caustic : MethodName := ⟨RX12, "caustic", "(I)I"⟩
abbrev cX12_common : ByteArray := prog_14_method_30_code
def yX12_common : MethodName := ⟨RX12, "common", "(I)I"⟩
abbrev cX12_size : ByteArray := prog_14_method_31_code
def yX12_size : MethodName := ⟨RX12, "size", "(I)I"⟩
abbrev cX12_order : ByteArray := prog_14_method_32_code
def yX12_order : MethodName := ⟨RX12, "order", "(I)I"⟩
abbrev cX12_turns : ByteArray := prog_14_method_33_code
def yX12_turns : MethodName := ⟨RX12, "turns", "(I)I"⟩
abbrev cX12_isPlace : ByteArray := prog_14_method_34_code
def yX12_isPlace : MethodName := ⟨RX12, "isPlace", "(I)Z"⟩
abbrev cX12_aim : ByteArray := prog_14_method_35_code
def yX12_aim : MethodName := ⟨RX12, "aim", "(III)I"⟩
abbrev cX12_widest : ByteArray := prog_14_method_36_code
def yX12_widest : MethodName := ⟨RX12, "widest", "(I)I"⟩
abbrev cX12_begins : ByteArray := prog_14_method_37_code
def yX12_begins : MethodName := ⟨RX12, "begins", "(IJII)V"⟩
abbrev cX12_next : ByteArray := prog_14_method_38_code
def yX12_next : MethodName := ⟨RX12, "next", "()I"⟩
abbrev cX12_tilted : ByteArray := prog_14_method_39_code
def yX12_tilted : MethodName := ⟨RX12, "tilted", "(II)I"⟩
abbrev cX12_hears : ByteArray := prog_14_method_40_code
def yX12_hears : MethodName := ⟨RX12, "hears", "(II)V"⟩
abbrev cX12_meets : ByteArray := prog_14_method_41_code
def yX12_meets : MethodName := ⟨RX12, "meets", "(II)V"⟩
abbrev cX12_covers : ByteArray := prog_14_method_42_code
def yX12_covers : MethodName := ⟨RX12, "covers", "(II)Z"⟩
abbrev cX12_goes : ByteArray := prog_14_method_43_code
def yX12_goes : MethodName := ⟨RX12, "goes", "(I)V"⟩
abbrev cX12_shoot : ByteArray := prog_14_method_44_code
def yX12_shoot : MethodName := ⟨RX12, "shoot", "(III)I"⟩
abbrev cX12_hits : ByteArray := prog_14_method_45_code
def yX12_hits : MethodName := ⟨RX12, "hits", "()I"⟩
abbrev cX12_hit : ByteArray := prog_14_method_46_code
def yX12_hit : MethodName := ⟨RX12, "hit", "(II)J"⟩
abbrev cX12_rays : ByteArray := prog_14_method_47_code
def yX12_rays : MethodName := ⟨RX12, "rays", "()I"⟩
abbrev cX12_covered : ByteArray := prog_14_method_48_code
def yX12_covered : MethodName := ⟨RX12, "covered", "()I"⟩
abbrev cX12_coverage : ByteArray := prog_14_method_49_code
def yX12_coverage : MethodName := ⟨RX12, "coverage", "()I"⟩
abbrev cX12_gap : ByteArray := prog_14_method_50_code
def yX12_gap : MethodName := ⟨RX12, "gap", "()I"⟩
abbrev cX12_heardOf : ByteArray := prog_14_method_51_code
def yX12_heardOf : MethodName := ⟨RX12, "heardOf", "(II)J"⟩
abbrev cX12_heard : ByteArray := prog_14_method_52_code
def yX12_heard : MethodName := ⟨RX12, "heard", "(II)J"⟩
abbrev cX12_echo : ByteArray := prog_14_method_53_code
def yX12_echo : MethodName := ⟨RX12, "echo", "(I)I"⟩
abbrev cX12_mean : ByteArray := prog_14_method_54_code
def yX12_mean : MethodName := ⟨RX12, "mean", "()F"⟩
abbrev cX12_between : ByteArray := prog_14_method_55_code
def yX12_between : MethodName := ⟨RX12, "between", "(III)Z"⟩
abbrev cX12_crosses : ByteArray := prog_14_method_56_code
def yX12_crosses : MethodName := ⟨RX12, "crosses", "(II)Z"⟩
abbrev cX12_crossings : ByteArray := prog_14_method_57_code
def yX12_crossings : MethodName := ⟨RX12, "crossings", "(I)I"⟩
abbrev cX12_undo : ByteArray := prog_14_method_58_code
def yX12_undo : MethodName := ⟨RX12, "undo", "()I"⟩
abbrev cX12_fingerprint : ByteArray := prog_14_method_59_code
def yX12_fingerprint : MethodName := ⟨RX12, "fingerprint", "()J"⟩
def RJ13 : String := "java/lang/Long"
def TJ13 : u_T := fun k => match k with
  | _ => ("", "", "", false)
def tyJ13 : Nat → FieldType := fun k => match k with
  | _ => .int
abbrev wsJ130 : List Cond := u_ws RJ13 TJ13 0
theorem nmJ13 : ∀ a, a < 0 → ∀ b, b < 0 → a ≠ b → (TJ13 a).2.1 ≠ (TJ13 b).2.1 := by decide +kernel
theorem tyJ13_ok : ∀ k, k < 0 → parseFieldDescriptor (TJ13 k).2.2.1 = some (tyJ13 k) := by decide +kernel
abbrev cJ13_bitCount_95d88 : ByteArray := prog_15_method_50_code
def yJ13_bitCount_95d88 : MethodName := ⟨RJ13, "bitCount", "(J)I"⟩
def RJ9 : String := "java/lang/Math"
def TJ9 : u_T := fun k => match k with
  | _ => ("", "", "", false)
def tyJ9 : Nat → FieldType := fun k => match k with
  | _ => .int
abbrev wsJ90 : List Cond := u_ws RJ9 TJ9 0
theorem nmJ9 : ∀ a, a < 0 → ∀ b, b < 0 → a ≠ b → (TJ9 a).2.1 ≠ (TJ9 b).2.1 := by decide +kernel
theorem tyJ9_ok : ∀ k, k < 0 → parseFieldDescriptor (TJ9 k).2.2.1 = some (tyJ9 k) := by decide +kernel
abbrev cJ9_floorMod_7cf53 : ByteArray := prog_16_method_50_code
def yJ9_floorMod_7cf53 : MethodName := ⟨RJ9, "floorMod", "(II)I"⟩
abbrev cJ9_abs_0f7a4 : ByteArray := prog_16_method_59_code
def yJ9_abs_0f7a4 : MethodName := ⟨RJ9, "abs", "(I)I"⟩
abbrev cJ9_max_7cf53 : ByteArray := prog_16_method_65_code
def yJ9_max_7cf53 : MethodName := ⟨RJ9, "max", "(II)I"⟩
abbrev cJ9_max_f86c9 : ByteArray := prog_16_method_66_code
def yJ9_max_f86c9 : MethodName := ⟨RJ9, "max", "(JJ)J"⟩
abbrev cJ9_min_7cf53 : ByteArray := prog_16_method_69_code
def yJ9_min_7cf53 : MethodName := ⟨RJ9, "min", "(II)I"⟩
def RJ0 : String := "java/lang/String"
def TJ0 : u_T := fun k => match k with
  | _ => ("", "", "", false)
def tyJ0 : Nat → FieldType := fun k => match k with
  | _ => .int
abbrev wsJ00 : List Cond := u_ws RJ0 TJ0 0
theorem nmJ0 : ∀ a, a < 0 → ∀ b, b < 0 → a ≠ b → (TJ0 a).2.1 ≠ (TJ0 b).2.1 := by decide +kernel
theorem tyJ0_ok : ∀ k, k < 0 → parseFieldDescriptor (TJ0 k).2.2.1 = some (tyJ0 k) := by decide +kernel
abbrev cJ0_length_8abf5 : ByteArray := prog_17_method_54_code
def yJ0_length_8abf5 : MethodName := ⟨RJ0, "length", "()I"⟩
abbrev cJ0_charAt_5068e : ByteArray := prog_17_method_56_code
def yJ0_charAt_5068e : MethodName := ⟨RJ0, "charAt", "(I)C"⟩
abbrev cJ0_coder_7d493 : ByteArray := prog_17_method_152_code
def yJ0_coder_7d493 : MethodName := ⟨RJ0, "coder", "()B"⟩
abbrev cJ0_isLatin1_aae02 : ByteArray := prog_17_method_154_code
def yJ0_isLatin1_aae02 : MethodName := ⟨RJ0, "isLatin1", "()Z"⟩
abbrev cJ0_checkIndex_df160 : ByteArray := prog_17_method_155_code
def yJ0_checkIndex_df160 : MethodName := ⟨RJ0, "checkIndex", "(II)V"⟩
def RJ1 : String := "java/lang/StringLatin1"
def TJ1 : u_T := fun k => match k with
  | _ => ("", "", "", false)
def tyJ1 : Nat → FieldType := fun k => match k with
  | _ => .int
abbrev wsJ10 : List Cond := u_ws RJ1 TJ1 0
theorem nmJ1 : ∀ a, a < 0 → ∀ b, b < 0 → a ≠ b → (TJ1 a).2.1 ≠ (TJ1 b).2.1 := by decide +kernel
theorem tyJ1_ok : ∀ k, k < 0 → parseFieldDescriptor (TJ1 k).2.2.1 = some (tyJ1 k) := by decide +kernel
abbrev cJ1_charAt_3b067 : ByteArray := prog_18_method_2_code
def yJ1_charAt_3b067 : MethodName := ⟨RJ1, "charAt", "([BI)C"⟩
def RJ2 : String := "java/lang/StringUTF16"
def TJ2 : u_T := fun k => match k with
  | _ => ("", "", "", false)
def tyJ2 : Nat → FieldType := fun k => match k with
  | _ => .int
abbrev wsJ20 : List Cond := u_ws RJ2 TJ2 0
theorem nmJ2 : ∀ a, a < 0 → ∀ b, b < 0 → a ≠ b → (TJ2 a).2.1 ≠ (TJ2 b).2.1 := by decide +kernel
theorem tyJ2_ok : ∀ k, k < 0 → parseFieldDescriptor (TJ2 k).2.2.1 = some (tyJ2 k) := by decide +kernel
abbrev cJ2_getChar_3b067 : ByteArray := prog_19_method_5_code
def yJ2_getChar_3b067 : MethodName := ⟨RJ2, "getChar", "([BI)C"⟩
abbrev cJ2_length_9d52b : ByteArray := prog_19_method_6_code
def yJ2_length_9d52b : MethodName := ⟨RJ2, "length", "([B)I"⟩
abbrev cJ2_charAt_3b067 : ByteArray := prog_19_method_83_code
def yJ2_charAt_3b067 : MethodName := ⟨RJ2, "charAt", "([BI)C"⟩
abbrev cJ2_checkIndex_2214a : ByteArray := prog_19_method_91_code
def yJ2_checkIndex_2214a : MethodName := ⟨RJ2, "checkIndex", "(I[B)V"⟩
def RJ10 : String := "java/lang/System"
def TJ10 : u_T := fun k => match k with
  | _ => ("", "", "", false)
def tyJ10 : Nat → FieldType := fun k => match k with
  | _ => .int
abbrev wsJ100 : List Cond := u_ws RJ10 TJ10 0
theorem nmJ10 : ∀ a, a < 0 → ∀ b, b < 0 → a ≠ b → (TJ10 a).2.1 ≠ (TJ10 b).2.1 := by decide +kernel
theorem tyJ10_ok : ∀ k, k < 0 → parseFieldDescriptor (TJ10 k).2.2.1 = some (tyJ10 k) := by decide +kernel
def RJ3 : String := "jdk/internal/util/Preconditions"
def TJ3 : u_T := fun k => match k with
  | _ => ("", "", "", false)
def tyJ3 : Nat → FieldType := fun k => match k with
  | _ => .int
abbrev wsJ30 : List Cond := u_ws RJ3 TJ3 0
theorem nmJ3 : ∀ a, a < 0 → ∀ b, b < 0 → a ≠ b → (TJ3 a).2.1 ≠ (TJ3 b).2.1 := by decide +kernel
theorem tyJ3_ok : ∀ k, k < 0 → parseFieldDescriptor (TJ3 k).2.2.1 = some (tyJ3 k) := by decide +kernel
abbrev cJ3_checkIndex_8e157 : ByteArray := prog_21_method_11_code
def yJ3_checkIndex_8e157 : MethodName := ⟨RJ3, "checkIndex", "(IILjava/util/function/BiFunction;)I"⟩
def RL : String := "GalleryRaysLaw"
abbrev cL_law : ByteArray := code
def yL_law : MethodName := ⟨RL, "law", "([I)Z"⟩
abbrev vwCl : List vw_C := [(RX1, TX1, 1), (RX2, TX2, 2), (RX3, TX3, 5), (RX4, TX4, 2), (RX5, TX5, 2), (RX6, TX6, 2), (RX7, TX7, 6), (RX8, TX8, 6), (RX9, TX9, 6), (RX10, TX10, 3), (RX11, TX11, 4), (RX12, TX12, 27)]
def lw_all : List Cond := lw_tbl.filter goodWord
theorem lw_all_tbl : ∀ w ∈ lw_all, w ∈ lw_tbl := fun _ h => (List.mem_filter.mp h).1
theorem lw_all_good : GoodIn lw_tbl lw_all := fun w h => ⟨lw_all_tbl w h, good_of_word (List.mem_filter.mp h).2⟩
theorem gi_of {ws : List Cond} (h : ∀ w ∈ ws, w ∈ lw_all) : GoodIn lw_all ws := fun w hw => ⟨h w hw, good_of_word (List.mem_filter.mp (h w hw)).2⟩
theorem lw_inT {w : Cond} (h : w ∈ tables_1) (hg : goodWord w = true) : w ∈ lw_all := List.mem_filter.mpr ⟨List.mem_append_right _ h, hg⟩
theorem lw_in1 {w : Cond} (h : w ∈ tables_1_1) (hg : goodWord w = true) : w ∈ lw_all := lw_inT (List.mem_append_left _ h) hg
theorem lw_in2 {w : Cond} (h : w ∈ tables_1_2) (hg : goodWord w = true) : w ∈ lw_all := lw_inT (List.mem_append_right _ (List.mem_append_left _ h)) hg
theorem lw_in3 {w : Cond} (h : w ∈ tables_1_3) (hg : goodWord w = true) : w ∈ lw_all := lw_inT (List.mem_append_right _ (List.mem_append_right _ (List.mem_append_left _ h))) hg
theorem lw_in4 {w : Cond} (h : w ∈ tables_1_4) (hg : goodWord w = true) : w ∈ lw_all := lw_inT (List.mem_append_right _ (List.mem_append_right _ (List.mem_append_right _ (List.mem_append_left _ h)))) hg
theorem lw_in5 {w : Cond} (h : w ∈ tables_1_5) (hg : goodWord w = true) : w ∈ lw_all := lw_inT (List.mem_append_right _ (List.mem_append_right _ (List.mem_append_right _ (List.mem_append_right _ h)))) hg
theorem lw_inP {i : Nat} {c : String} {y : MethodName} (h : (k2_sels lw_privs)[i]? = some (.selects c y y)) : Cond.selects c y y ∈ lw_all := List.mem_filter.mpr ⟨List.mem_append_left _ (List.mem_of_getElem? h), rfl⟩
theorem q1_0 : Cond.initialized RL ∈ lw_all := lw_in1 (List.mem_of_getElem? (i := 0) (by decide +kernel)) (by decide +kernel)
theorem q1_1 : Cond.initialized RX11 ∈ lw_all := lw_in1 (List.mem_of_getElem? (i := 1) (by decide +kernel)) (by decide +kernel)
theorem q1_2 : Cond.initialized RX10 ∈ lw_all := lw_in1 (List.mem_of_getElem? (i := 2) (by decide +kernel)) (by decide +kernel)
theorem q1_3 : Cond.initialized RX4 ∈ lw_all := lw_in1 (List.mem_of_getElem? (i := 3) (by decide +kernel)) (by decide +kernel)
theorem q1_4 : Cond.initialized RX2 ∈ lw_all := lw_in1 (List.mem_of_getElem? (i := 4) (by decide +kernel)) (by decide +kernel)
theorem q1_5 : Cond.initialized RX9 ∈ lw_all := lw_in1 (List.mem_of_getElem? (i := 5) (by decide +kernel)) (by decide +kernel)
theorem q1_6 : Cond.initialized RX8 ∈ lw_all := lw_in1 (List.mem_of_getElem? (i := 6) (by decide +kernel)) (by decide +kernel)
theorem q1_7 : Cond.initialized RX3 ∈ lw_all := lw_in1 (List.mem_of_getElem? (i := 7) (by decide +kernel)) (by decide +kernel)
theorem q1_8 : Cond.initialized RX6 ∈ lw_all := lw_in1 (List.mem_of_getElem? (i := 8) (by decide +kernel)) (by decide +kernel)
theorem q1_9 : Cond.initialized RX1 ∈ lw_all := lw_in1 (List.mem_of_getElem? (i := 9) (by decide +kernel)) (by decide +kernel)
theorem q1_10 : Cond.initialized RX5 ∈ lw_all := lw_in1 (List.mem_of_getElem? (i := 10) (by decide +kernel)) (by decide +kernel)
theorem q1_11 : Cond.initialized RX7 ∈ lw_all := lw_in1 (List.mem_of_getElem? (i := 11) (by decide +kernel)) (by decide +kernel)
theorem q1_12 : Cond.initialized RX12 ∈ lw_all := lw_in1 (List.mem_of_getElem? (i := 12) (by decide +kernel)) (by decide +kernel)
theorem q1_13 : Cond.initialized RX0 ∈ lw_all := lw_in1 (List.mem_of_getElem? (i := 13) (by decide +kernel)) (by decide +kernel)
theorem q1_14 : Cond.initialized RJ10 ∈ lw_all := lw_in1 (List.mem_of_getElem? (i := 14) (by decide +kernel)) (by decide +kernel)
theorem q1_15 : Cond.initialized RJ0 ∈ lw_all := lw_in1 (List.mem_of_getElem? (i := 15) (by decide +kernel)) (by decide +kernel)
theorem q1_16 : Cond.initialized RJ1 ∈ lw_all := lw_in1 (List.mem_of_getElem? (i := 16) (by decide +kernel)) (by decide +kernel)
theorem q1_17 : Cond.initialized RJ3 ∈ lw_all := lw_in1 (List.mem_of_getElem? (i := 17) (by decide +kernel)) (by decide +kernel)
theorem q1_18 : Cond.initialized RJ2 ∈ lw_all := lw_in1 (List.mem_of_getElem? (i := 18) (by decide +kernel)) (by decide +kernel)
theorem q1_19 : Cond.initialized RJ9 ∈ lw_all := lw_in1 (List.mem_of_getElem? (i := 19) (by decide +kernel)) (by decide +kernel)
theorem q1_20 : Cond.initialized RJ13 ∈ lw_all := lw_in1 (List.mem_of_getElem? (i := 20) (by decide +kernel)) (by decide +kernel)
theorem q1_21 : Cond.classLink RL 7 RX11 ∈ lw_all := lw_in1 (List.mem_of_getElem? (i := 21) (by decide +kernel)) (by decide +kernel)
theorem q1_22 : Cond.instantiable RX11 4 ∈ lw_all := lw_in1 (List.mem_of_getElem? (i := 22) (by decide +kernel)) (by decide +kernel)
theorem q1_23 : Cond.methodLink RL 9 yX11_init ∈ lw_all := lw_in1 (List.mem_of_getElem? (i := 23) (by decide +kernel)) (by decide +kernel)
theorem q1_24 : Cond.instanceMethod yX11_init ∈ lw_all := lw_in1 (List.mem_of_getElem? (i := 24) (by decide +kernel)) (by decide +kernel)
theorem q1_25 : Cond.code yX11_init prog_1_method_1_code 1 none ∈ lw_all := lw_in1 (List.mem_of_getElem? (i := 25) (by decide +kernel)) (by decide +kernel)
theorem q1_26 : Cond.methodLink RX11 1 objectInit ∈ lw_all := lw_in1 (List.mem_of_getElem? (i := 26) (by decide +kernel)) (by decide +kernel)
theorem q1_27 : Cond.instanceMethod objectInit ∈ lw_all := lw_in1 (List.mem_of_getElem? (i := 27) (by decide +kernel)) (by decide +kernel)
theorem q1_28 : Cond.code objectInit object_method_1_code 1 none ∈ lw_all := lw_in1 (List.mem_of_getElem? (i := 28) (by decide +kernel)) (by decide +kernel)
theorem q1_29 : Cond.classLink RX11 7 RX10 ∈ lw_all := lw_in1 (List.mem_of_getElem? (i := 29) (by decide +kernel)) (by decide +kernel)
theorem q1_30 : Cond.instantiable RX10 3 ∈ lw_all := lw_in1 (List.mem_of_getElem? (i := 30) (by decide +kernel)) (by decide +kernel)
theorem q1_32 : Cond.instanceMethod yX10_init ∈ lw_all := lw_in1 (List.mem_of_getElem? (i := 32) (by decide +kernel)) (by decide +kernel)
theorem q1_33 : Cond.code yX10_init prog_12_method_1_code 1 none ∈ lw_all := lw_in1 (List.mem_of_getElem? (i := 33) (by decide +kernel)) (by decide +kernel)
theorem q1_34 : Cond.methodLink RX10 1 objectInit ∈ lw_all := lw_in1 (List.mem_of_getElem? (i := 34) (by decide +kernel)) (by decide +kernel)
theorem q1_35 : Cond.classLink RX10 7 RX4 ∈ lw_all := lw_in1 (List.mem_of_getElem? (i := 35) (by decide +kernel)) (by decide +kernel)
theorem q1_36 : Cond.instantiable RX4 2 ∈ lw_all := lw_in1 (List.mem_of_getElem? (i := 36) (by decide +kernel)) (by decide +kernel)
theorem q1_38 : Cond.instanceMethod yX4_init ∈ lw_all := lw_in1 (List.mem_of_getElem? (i := 38) (by decide +kernel)) (by decide +kernel)
theorem q1_39 : Cond.code yX4_init prog_6_method_1_code 1 none ∈ lw_all := lw_in1 (List.mem_of_getElem? (i := 39) (by decide +kernel)) (by decide +kernel)
theorem q1_40 : Cond.methodLink RX4 3 objectInit ∈ lw_all := lw_in1 (List.mem_of_getElem? (i := 40) (by decide +kernel)) (by decide +kernel)
theorem q1_41 : Cond.fieldLink RX4 9 "GalleryRays$Parts" "numbers" "[I" ∈ lw_all := lw_in1 (List.mem_of_getElem? (i := 41) (by decide +kernel)) (by decide +kernel)
theorem q1_45 : Cond.fieldLink RX4 41 "GalleryRays$Parts" "count" "I" ∈ lw_all := lw_in1 (List.mem_of_getElem? (i := 45) (by decide +kernel)) (by decide +kernel)
theorem q1_46 : Cond.laysFinal "GalleryRays$Parts" "GalleryRays$Parts" "numbers" "[I" ∈ lw_all := lw_in1 (List.mem_of_getElem? (i := 46) (by decide +kernel)) (by decide +kernel)
theorem q1_48 : Cond.lays "GalleryRays$Parts" "GalleryRays$Parts" "count" "I" ∈ lw_all := lw_in1 (List.mem_of_getElem? (i := 48) (by decide +kernel)) (by decide +kernel)
theorem q1_51 : Cond.arrayClass FieldType.int ∈ lw_all := lw_in1 (List.mem_of_getElem? (i := 51) (by decide +kernel)) (by decide +kernel)
theorem q1_52 : Cond.fieldLink RX10 10 "GalleryRays$Wall" "parts" "LGalleryRays$Parts;" ∈ lw_all := lw_in1 (List.mem_of_getElem? (i := 52) (by decide +kernel)) (by decide +kernel)
theorem q1_55 : Cond.fieldLink RX10 16 "GalleryRays$Wall" "loss" "I" ∈ lw_all := lw_in1 (List.mem_of_getElem? (i := 55) (by decide +kernel)) (by decide +kernel)
theorem q1_58 : Cond.fieldLink RX10 20 "GalleryRays$Wall" "threshold" "I" ∈ lw_all := lw_in1 (List.mem_of_getElem? (i := 58) (by decide +kernel)) (by decide +kernel)
theorem q1_61 : Cond.laysFinal "GalleryRays$Wall" "GalleryRays$Wall" "parts" "LGalleryRays$Parts;" ∈ lw_all := lw_in1 (List.mem_of_getElem? (i := 61) (by decide +kernel)) (by decide +kernel)
theorem q1_63 : Cond.lays "GalleryRays$Wall" "GalleryRays$Wall" "loss" "I" ∈ lw_all := lw_in1 (List.mem_of_getElem? (i := 63) (by decide +kernel)) (by decide +kernel)
theorem q1_65 : Cond.lays "GalleryRays$Wall" "GalleryRays$Wall" "threshold" "I" ∈ lw_all := lw_in1 (List.mem_of_getElem? (i := 65) (by decide +kernel)) (by decide +kernel)
theorem q1_68 : Cond.classLink RX11 16 RX2 ∈ lw_all := lw_in1 (List.mem_of_getElem? (i := 68) (by decide +kernel)) (by decide +kernel)
theorem q1_69 : Cond.instantiable RX2 2 ∈ lw_all := lw_in1 (List.mem_of_getElem? (i := 69) (by decide +kernel)) (by decide +kernel)
theorem q1_70 : Cond.methodLink RX11 18 yX2_init ∈ lw_all := lw_in1 (List.mem_of_getElem? (i := 70) (by decide +kernel)) (by decide +kernel)
theorem q1_71 : Cond.instanceMethod yX2_init ∈ lw_all := lw_in1 (List.mem_of_getElem? (i := 71) (by decide +kernel)) (by decide +kernel)
theorem q1_72 : Cond.code yX2_init prog_4_method_1_code 2 none ∈ lw_all := lw_in1 (List.mem_of_getElem? (i := 72) (by decide +kernel)) (by decide +kernel)
theorem q1_73 : Cond.methodLink RX2 3 objectInit ∈ lw_all := lw_in1 (List.mem_of_getElem? (i := 73) (by decide +kernel)) (by decide +kernel)
theorem q1_74 : Cond.classLink RX2 9 RX10 ∈ lw_all := lw_in1 (List.mem_of_getElem? (i := 74) (by decide +kernel)) (by decide +kernel)
theorem q1_75 : Cond.arrayOver (FieldType.object "GalleryRays$Wall") ∈ lw_tbl := List.mem_append_right _ (List.mem_of_getElem? (i := 75) (by decide +kernel))
theorem q1_77 : Cond.fieldLink RX2 11 "GalleryRays$History" "states" "[LGalleryRays$Wall;" ∈ lw_all := lw_in1 (List.mem_of_getElem? (i := 77) (by decide +kernel)) (by decide +kernel)
theorem q1_78 : Cond.fieldLink RX2 18 "GalleryRays$History" "count" "I" ∈ lw_all := lw_in1 (List.mem_of_getElem? (i := 78) (by decide +kernel)) (by decide +kernel)
theorem q1_80 : Cond.laysFinal "GalleryRays$History" "GalleryRays$History" "states" "[LGalleryRays$Wall;" ∈ lw_all := lw_in1 (List.mem_of_getElem? (i := 80) (by decide +kernel)) (by decide +kernel)
theorem q1_82 : Cond.lays "GalleryRays$History" "GalleryRays$History" "count" "I" ∈ lw_all := lw_in1 (List.mem_of_getElem? (i := 82) (by decide +kernel)) (by decide +kernel)
theorem q1_85 : Cond.classLink RX11 23 RX9 ∈ lw_all := lw_in1 (List.mem_of_getElem? (i := 85) (by decide +kernel)) (by decide +kernel)
theorem q1_86 : Cond.instantiable RX9 6 ∈ lw_all := lw_in1 (List.mem_of_getElem? (i := 86) (by decide +kernel)) (by decide +kernel)
theorem q1_88 : Cond.instanceMethod yX9_init ∈ lw_all := lw_in1 (List.mem_of_getElem? (i := 88) (by decide +kernel)) (by decide +kernel)
theorem q1_89 : Cond.code yX9_init prog_11_method_1_code 1 none ∈ lw_all := lw_in1 (List.mem_of_getElem? (i := 89) (by decide +kernel)) (by decide +kernel)
theorem q1_90 : Cond.methodLink RX9 3 objectInit ∈ lw_all := lw_in1 (List.mem_of_getElem? (i := 90) (by decide +kernel)) (by decide +kernel)
theorem q1_91 : Cond.classLink RX9 15 RX4 ∈ lw_all := lw_in1 (List.mem_of_getElem? (i := 91) (by decide +kernel)) (by decide +kernel)
theorem q1_93 : Cond.fieldLink RX9 9 "GalleryRays$Text" "signs" "[C" ∈ lw_all := lw_in1 (List.mem_of_getElem? (i := 93) (by decide +kernel)) (by decide +kernel)
theorem q1_94 : Cond.fieldLink RX9 18 "GalleryRays$Text" "found" "LGalleryRays$Parts;" ∈ lw_all := lw_in1 (List.mem_of_getElem? (i := 94) (by decide +kernel)) (by decide +kernel)
theorem q1_96 : Cond.fieldLink RX9 22 "GalleryRays$Text" "length" "I" ∈ lw_all := lw_in1 (List.mem_of_getElem? (i := 96) (by decide +kernel)) (by decide +kernel)
theorem q1_98 : Cond.fieldLink RX9 29 "GalleryRays$Text" "at" "I" ∈ lw_all := lw_in1 (List.mem_of_getElem? (i := 98) (by decide +kernel)) (by decide +kernel)
theorem q1_99 : Cond.fieldLink RX9 32 "GalleryRays$Text" "broken" "Z" ∈ lw_all := lw_in1 (List.mem_of_getElem? (i := 99) (by decide +kernel)) (by decide +kernel)
theorem q1_100 : Cond.fieldLink RX9 36 "GalleryRays$Text" "outOfRange" "I" ∈ lw_all := lw_in1 (List.mem_of_getElem? (i := 100) (by decide +kernel)) (by decide +kernel)
theorem q1_101 : Cond.laysFinal "GalleryRays$Text" "GalleryRays$Text" "signs" "[C" ∈ lw_all := lw_in1 (List.mem_of_getElem? (i := 101) (by decide +kernel)) (by decide +kernel)
theorem q1_103 : Cond.laysFinal "GalleryRays$Text" "GalleryRays$Text" "found" "LGalleryRays$Parts;" ∈ lw_all := lw_in1 (List.mem_of_getElem? (i := 103) (by decide +kernel)) (by decide +kernel)
theorem q1_105 : Cond.lays "GalleryRays$Text" "GalleryRays$Text" "length" "I" ∈ lw_all := lw_in1 (List.mem_of_getElem? (i := 105) (by decide +kernel)) (by decide +kernel)
theorem q1_107 : Cond.lays "GalleryRays$Text" "GalleryRays$Text" "at" "I" ∈ lw_all := lw_in1 (List.mem_of_getElem? (i := 107) (by decide +kernel)) (by decide +kernel)
theorem q1_109 : Cond.lays "GalleryRays$Text" "GalleryRays$Text" "broken" "Z" ∈ lw_all := lw_in1 (List.mem_of_getElem? (i := 109) (by decide +kernel)) (by decide +kernel)
theorem q1_111 : Cond.lays "GalleryRays$Text" "GalleryRays$Text" "outOfRange" "I" ∈ lw_all := lw_in1 (List.mem_of_getElem? (i := 111) (by decide +kernel)) (by decide +kernel)
theorem q1_114 : Cond.arrayClass FieldType.char ∈ lw_all := lw_in1 (List.mem_of_getElem? (i := 114) (by decide +kernel)) (by decide +kernel)
theorem q1_115 : Cond.classLink RX11 30 RX8 ∈ lw_all := lw_in1 (List.mem_of_getElem? (i := 115) (by decide +kernel)) (by decide +kernel)
theorem q1_116 : Cond.instantiable RX8 6 ∈ lw_all := lw_in1 (List.mem_of_getElem? (i := 116) (by decide +kernel)) (by decide +kernel)
theorem q1_117 : Cond.methodLink RX11 32 yX8_init ∈ lw_all := lw_in1 (List.mem_of_getElem? (i := 117) (by decide +kernel)) (by decide +kernel)
theorem q1_118 : Cond.instanceMethod yX8_init ∈ lw_all := lw_in1 (List.mem_of_getElem? (i := 118) (by decide +kernel)) (by decide +kernel)
theorem q1_119 : Cond.code yX8_init prog_10_method_1_code 2 none ∈ lw_all := lw_in1 (List.mem_of_getElem? (i := 119) (by decide +kernel)) (by decide +kernel)
theorem q1_120 : Cond.methodLink RX8 3 objectInit ∈ lw_all := lw_in1 (List.mem_of_getElem? (i := 120) (by decide +kernel)) (by decide +kernel)
theorem q1_121 : Cond.classLink RX8 9 RX7 ∈ lw_all := lw_in1 (List.mem_of_getElem? (i := 121) (by decide +kernel)) (by decide +kernel)
theorem q1_122 : Cond.arrayOver (FieldType.object "GalleryRays$Ray") ∈ lw_tbl := List.mem_append_right _ (List.mem_of_getElem? (i := 122) (by decide +kernel))
theorem q1_123 : Cond.classLink RX8 17 RX3 ∈ lw_all := lw_in1 (List.mem_of_getElem? (i := 123) (by decide +kernel)) (by decide +kernel)
theorem q1_124 : Cond.instantiable RX3 5 ∈ lw_all := lw_in1 (List.mem_of_getElem? (i := 124) (by decide +kernel)) (by decide +kernel)
theorem q1_126 : Cond.instanceMethod yX3_init ∈ lw_all := lw_in1 (List.mem_of_getElem? (i := 126) (by decide +kernel)) (by decide +kernel)
theorem q1_127 : Cond.code yX3_init prog_5_method_1_code 1 none ∈ lw_all := lw_in1 (List.mem_of_getElem? (i := 127) (by decide +kernel)) (by decide +kernel)
theorem q1_128 : Cond.methodLink RX3 3 objectInit ∈ lw_all := lw_in1 (List.mem_of_getElem? (i := 128) (by decide +kernel)) (by decide +kernel)
theorem q1_129 : Cond.fieldLink RX3 9 "GalleryRays$HitLog" "numbers" "[J" ∈ lw_all := lw_in1 (List.mem_of_getElem? (i := 129) (by decide +kernel)) (by decide +kernel)
theorem q1_130 : Cond.fieldLink RX3 15 "GalleryRays$HitLog" "echoes" "[I" ∈ lw_all := lw_in1 (List.mem_of_getElem? (i := 130) (by decide +kernel)) (by decide +kernel)
theorem q1_131 : Cond.fieldLink RX3 19 "GalleryRays$HitLog" "count" "I" ∈ lw_all := lw_in1 (List.mem_of_getElem? (i := 131) (by decide +kernel)) (by decide +kernel)
theorem q1_133 : Cond.fieldLink RX3 23 "GalleryRays$HitLog" "echoCount" "I" ∈ lw_all := lw_in1 (List.mem_of_getElem? (i := 133) (by decide +kernel)) (by decide +kernel)
theorem q1_134 : Cond.fieldLink RX3 26 "GalleryRays$HitLog" "energySum" "J" ∈ lw_all := lw_in1 (List.mem_of_getElem? (i := 134) (by decide +kernel)) (by decide +kernel)
theorem q1_135 : Cond.laysFinal "GalleryRays$HitLog" "GalleryRays$HitLog" "numbers" "[J" ∈ lw_all := lw_in1 (List.mem_of_getElem? (i := 135) (by decide +kernel)) (by decide +kernel)
theorem q1_137 : Cond.laysFinal "GalleryRays$HitLog" "GalleryRays$HitLog" "echoes" "[I" ∈ lw_all := lw_in1 (List.mem_of_getElem? (i := 137) (by decide +kernel)) (by decide +kernel)
theorem q1_139 : Cond.lays "GalleryRays$HitLog" "GalleryRays$HitLog" "count" "I" ∈ lw_all := lw_in1 (List.mem_of_getElem? (i := 139) (by decide +kernel)) (by decide +kernel)
theorem q1_141 : Cond.lays "GalleryRays$HitLog" "GalleryRays$HitLog" "echoCount" "I" ∈ lw_all := lw_in1 (List.mem_of_getElem? (i := 141) (by decide +kernel)) (by decide +kernel)
theorem q1_143 : Cond.lays "GalleryRays$HitLog" "GalleryRays$HitLog" "energySum" "J" ∈ lw_all := lw_in1 (List.mem_of_getElem? (i := 143) (by decide +kernel)) (by decide +kernel)
theorem q1_146 : Cond.arrayClass FieldType.long ∈ lw_all := lw_in1 (List.mem_of_getElem? (i := 146) (by decide +kernel)) (by decide +kernel)
theorem q1_147 : Cond.classLink RX8 24 RX6 ∈ lw_all := lw_in1 (List.mem_of_getElem? (i := 147) (by decide +kernel)) (by decide +kernel)
theorem q1_148 : Cond.instantiable RX6 2 ∈ lw_all := lw_in1 (List.mem_of_getElem? (i := 148) (by decide +kernel)) (by decide +kernel)
theorem q1_150 : Cond.instanceMethod yX6_init ∈ lw_all := lw_in1 (List.mem_of_getElem? (i := 150) (by decide +kernel)) (by decide +kernel)
theorem q1_151 : Cond.code yX6_init prog_8_method_1_code 1 none ∈ lw_all := lw_in1 (List.mem_of_getElem? (i := 151) (by decide +kernel)) (by decide +kernel)
theorem q1_152 : Cond.methodLink RX6 3 objectInit ∈ lw_all := lw_in1 (List.mem_of_getElem? (i := 152) (by decide +kernel)) (by decide +kernel)
theorem q1_153 : Cond.fieldLink RX6 9 "GalleryRays$PlaceMarks" "words" "[J" ∈ lw_all := lw_in1 (List.mem_of_getElem? (i := 153) (by decide +kernel)) (by decide +kernel)
theorem q1_154 : Cond.fieldLink RX6 15 "GalleryRays$PlaceMarks" "count" "I" ∈ lw_all := lw_in1 (List.mem_of_getElem? (i := 154) (by decide +kernel)) (by decide +kernel)
theorem q1_156 : Cond.laysFinal "GalleryRays$PlaceMarks" "GalleryRays$PlaceMarks" "words" "[J" ∈ lw_all := lw_in1 (List.mem_of_getElem? (i := 156) (by decide +kernel)) (by decide +kernel)
theorem q1_158 : Cond.lays "GalleryRays$PlaceMarks" "GalleryRays$PlaceMarks" "count" "I" ∈ lw_all := lw_in1 (List.mem_of_getElem? (i := 158) (by decide +kernel)) (by decide +kernel)
theorem q1_161 : Cond.classLink RX8 31 RX1 ∈ lw_all := lw_in1 (List.mem_of_getElem? (i := 161) (by decide +kernel)) (by decide +kernel)
theorem q1_162 : Cond.instantiable RX1 1 ∈ lw_all := lw_in1 (List.mem_of_getElem? (i := 162) (by decide +kernel)) (by decide +kernel)
theorem q1_163 : Cond.methodLink RX8 33 yX1_init ∈ lw_all := lw_in1 (List.mem_of_getElem? (i := 163) (by decide +kernel)) (by decide +kernel)
theorem q1_164 : Cond.instanceMethod yX1_init ∈ lw_all := lw_in1 (List.mem_of_getElem? (i := 164) (by decide +kernel)) (by decide +kernel)
theorem q1_165 : Cond.code yX1_init prog_3_method_1_code 1 none ∈ lw_all := lw_in1 (List.mem_of_getElem? (i := 165) (by decide +kernel)) (by decide +kernel)
theorem q1_166 : Cond.methodLink RX1 3 objectInit ∈ lw_all := lw_in1 (List.mem_of_getElem? (i := 166) (by decide +kernel)) (by decide +kernel)
theorem q1_167 : Cond.methodLink RX1 15 yX1_forget ∈ lw_all := lw_in1 (List.mem_of_getElem? (i := 167) (by decide +kernel)) (by decide +kernel)
theorem q1_168 : Cond.instanceMethod yX1_forget ∈ lw_all := lw_in1 (List.mem_of_getElem? (i := 168) (by decide +kernel)) (by decide +kernel)
theorem q1_169 : Cond.selects RX1 yX1_forget yX1_forget ∈ lw_all := lw_in1 (List.mem_of_getElem? (i := 169) (by decide +kernel)) (by decide +kernel)
theorem q1_170 : Cond.code yX1_forget prog_3_method_2_code 3 none ∈ lw_all := lw_in1 (List.mem_of_getElem? (i := 170) (by decide +kernel)) (by decide +kernel)
theorem q1_171 : Cond.constantLong RX1 18 (lZ (-100009)) ∈ lw_all := lw_in1 (List.mem_of_getElem? (i := 171) (by decide +kernel)) (by decide +kernel)
theorem q1_172 : Cond.fieldLink RX1 9 "GalleryRays$Ears" "numbers" "[J" ∈ lw_all := lw_in1 (List.mem_of_getElem? (i := 172) (by decide +kernel)) (by decide +kernel)
theorem q1_173 : Cond.laysFinal "GalleryRays$Ears" "GalleryRays$Ears" "numbers" "[J" ∈ lw_all := lw_in1 (List.mem_of_getElem? (i := 173) (by decide +kernel)) (by decide +kernel)
theorem q1_176 : Cond.classLink RX8 38 RX5 ∈ lw_all := lw_in1 (List.mem_of_getElem? (i := 176) (by decide +kernel)) (by decide +kernel)
theorem q1_177 : Cond.instantiable RX5 2 ∈ lw_all := lw_in1 (List.mem_of_getElem? (i := 177) (by decide +kernel)) (by decide +kernel)
theorem q1_179 : Cond.instanceMethod yX5_init ∈ lw_all := lw_in1 (List.mem_of_getElem? (i := 179) (by decide +kernel)) (by decide +kernel)
theorem q1_180 : Cond.code yX5_init prog_7_method_1_code 1 none ∈ lw_all := lw_in1 (List.mem_of_getElem? (i := 180) (by decide +kernel)) (by decide +kernel)
theorem q1_181 : Cond.methodLink RX5 3 objectInit ∈ lw_all := lw_in1 (List.mem_of_getElem? (i := 181) (by decide +kernel)) (by decide +kernel)
theorem q1_182 : Cond.fieldLink RX5 9 "GalleryRays$Path" "corners" "[I" ∈ lw_all := lw_in1 (List.mem_of_getElem? (i := 182) (by decide +kernel)) (by decide +kernel)
theorem q1_183 : Cond.fieldLink RX5 15 "GalleryRays$Path" "count" "I" ∈ lw_all := lw_in1 (List.mem_of_getElem? (i := 183) (by decide +kernel)) (by decide +kernel)
theorem q1_184 : Cond.laysFinal "GalleryRays$Path" "GalleryRays$Path" "corners" "[I" ∈ lw_all := lw_in1 (List.mem_of_getElem? (i := 184) (by decide +kernel)) (by decide +kernel)
theorem q1_186 : Cond.lays "GalleryRays$Path" "GalleryRays$Path" "count" "I" ∈ lw_all := lw_in1 (List.mem_of_getElem? (i := 186) (by decide +kernel)) (by decide +kernel)
theorem q1_189 : Cond.instantiable RX7 6 ∈ lw_all := lw_in1 (List.mem_of_getElem? (i := 189) (by decide +kernel)) (by decide +kernel)
theorem q1_190 : Cond.methodLink RX8 45 yX7_init ∈ lw_all := lw_in1 (List.mem_of_getElem? (i := 190) (by decide +kernel)) (by decide +kernel)
theorem q1_191 : Cond.instanceMethod yX7_init ∈ lw_all := lw_in1 (List.mem_of_getElem? (i := 191) (by decide +kernel)) (by decide +kernel)
theorem q1_192 : Cond.code yX7_init prog_9_method_1_code 2 none ∈ lw_all := lw_in1 (List.mem_of_getElem? (i := 192) (by decide +kernel)) (by decide +kernel)
theorem q1_193 : Cond.methodLink RX7 1 objectInit ∈ lw_all := lw_in1 (List.mem_of_getElem? (i := 193) (by decide +kernel)) (by decide +kernel)
theorem q1_194 : Cond.fieldLink RX7 7 "GalleryRays$Ray" "number" "I" ∈ lw_all := lw_in1 (List.mem_of_getElem? (i := 194) (by decide +kernel)) (by decide +kernel)
theorem q1_197 : Cond.fieldLink RX7 13 "GalleryRays$Ray" "place" "I" ∈ lw_all := lw_in1 (List.mem_of_getElem? (i := 197) (by decide +kernel)) (by decide +kernel)
theorem q1_200 : Cond.fieldLink RX7 16 "GalleryRays$Ray" "step" "I" ∈ lw_all := lw_in1 (List.mem_of_getElem? (i := 200) (by decide +kernel)) (by decide +kernel)
theorem q1_203 : Cond.fieldLink RX7 19 "GalleryRays$Ray" "energy" "I" ∈ lw_all := lw_in1 (List.mem_of_getElem? (i := 203) (by decide +kernel)) (by decide +kernel)
theorem q1_207 : Cond.fieldLink RX7 22 "GalleryRays$Ray" "arrival" "J" ∈ lw_all := lw_in1 (List.mem_of_getElem? (i := 207) (by decide +kernel)) (by decide +kernel)
theorem q1_211 : Cond.fieldLink RX7 26 "GalleryRays$Ray" "going" "Z" ∈ lw_all := lw_in1 (List.mem_of_getElem? (i := 211) (by decide +kernel)) (by decide +kernel)
theorem q1_213 : Cond.laysFinal "GalleryRays$Ray" "GalleryRays$Ray" "number" "I" ∈ lw_all := lw_in1 (List.mem_of_getElem? (i := 213) (by decide +kernel)) (by decide +kernel)
theorem q1_215 : Cond.lays "GalleryRays$Ray" "GalleryRays$Ray" "place" "I" ∈ lw_all := lw_in1 (List.mem_of_getElem? (i := 215) (by decide +kernel)) (by decide +kernel)
theorem q1_217 : Cond.lays "GalleryRays$Ray" "GalleryRays$Ray" "step" "I" ∈ lw_all := lw_in1 (List.mem_of_getElem? (i := 217) (by decide +kernel)) (by decide +kernel)
theorem q1_219 : Cond.lays "GalleryRays$Ray" "GalleryRays$Ray" "energy" "I" ∈ lw_all := lw_in1 (List.mem_of_getElem? (i := 219) (by decide +kernel)) (by decide +kernel)
theorem q1_221 : Cond.lays "GalleryRays$Ray" "GalleryRays$Ray" "arrival" "J" ∈ lw_all := lw_in1 (List.mem_of_getElem? (i := 221) (by decide +kernel)) (by decide +kernel)
theorem q1_223 : Cond.lays "GalleryRays$Ray" "GalleryRays$Ray" "going" "Z" ∈ lw_all := lw_in1 (List.mem_of_getElem? (i := 223) (by decide +kernel)) (by decide +kernel)
theorem q1_226 : Cond.fieldLink RX8 11 "GalleryRays$Shot" "rays" "[LGalleryRays$Ray;" ∈ lw_all := lw_in1 (List.mem_of_getElem? (i := 226) (by decide +kernel)) (by decide +kernel)
theorem q1_227 : Cond.fieldLink RX8 20 "GalleryRays$Shot" "log" "LGalleryRays$HitLog;" ∈ lw_all := lw_in1 (List.mem_of_getElem? (i := 227) (by decide +kernel)) (by decide +kernel)
theorem q1_229 : Cond.fieldLink RX8 27 "GalleryRays$Shot" "marks" "LGalleryRays$PlaceMarks;" ∈ lw_all := lw_in1 (List.mem_of_getElem? (i := 229) (by decide +kernel)) (by decide +kernel)
theorem q1_231 : Cond.fieldLink RX8 34 "GalleryRays$Shot" "ears" "LGalleryRays$Ears;" ∈ lw_all := lw_in1 (List.mem_of_getElem? (i := 231) (by decide +kernel)) (by decide +kernel)
theorem q1_233 : Cond.fieldLink RX8 41 "GalleryRays$Shot" "path" "LGalleryRays$Path;" ∈ lw_all := lw_in1 (List.mem_of_getElem? (i := 233) (by decide +kernel)) (by decide +kernel)
theorem q1_235 : Cond.fieldLink RX8 56 "GalleryRays$Shot" "rayCount" "I" ∈ lw_all := lw_in1 (List.mem_of_getElem? (i := 235) (by decide +kernel)) (by decide +kernel)
theorem q1_237 : Cond.laysFinal "GalleryRays$Shot" "GalleryRays$Shot" "rays" "[LGalleryRays$Ray;" ∈ lw_all := lw_in1 (List.mem_of_getElem? (i := 237) (by decide +kernel)) (by decide +kernel)
theorem q1_239 : Cond.laysFinal "GalleryRays$Shot" "GalleryRays$Shot" "log" "LGalleryRays$HitLog;" ∈ lw_all := lw_in1 (List.mem_of_getElem? (i := 239) (by decide +kernel)) (by decide +kernel)
theorem q2_1 : Cond.laysFinal "GalleryRays$Shot" "GalleryRays$Shot" "marks" "LGalleryRays$PlaceMarks;" ∈ lw_all := lw_in2 (List.mem_of_getElem? (i := 1) (by decide +kernel)) (by decide +kernel)
theorem q2_3 : Cond.laysFinal "GalleryRays$Shot" "GalleryRays$Shot" "ears" "LGalleryRays$Ears;" ∈ lw_all := lw_in2 (List.mem_of_getElem? (i := 3) (by decide +kernel)) (by decide +kernel)
theorem q2_5 : Cond.laysFinal "GalleryRays$Shot" "GalleryRays$Shot" "path" "LGalleryRays$Path;" ∈ lw_all := lw_in2 (List.mem_of_getElem? (i := 5) (by decide +kernel)) (by decide +kernel)
theorem q2_7 : Cond.lays "GalleryRays$Shot" "GalleryRays$Shot" "rayCount" "I" ∈ lw_all := lw_in2 (List.mem_of_getElem? (i := 7) (by decide +kernel)) (by decide +kernel)
theorem q2_10 : Cond.fieldLink RX11 10 "GalleryRays" "wall" "LGalleryRays$Wall;" ∈ lw_all := lw_in2 (List.mem_of_getElem? (i := 10) (by decide +kernel)) (by decide +kernel)
theorem q2_11 : Cond.fieldLink RX11 19 "GalleryRays" "history" "LGalleryRays$History;" ∈ lw_all := lw_in2 (List.mem_of_getElem? (i := 11) (by decide +kernel)) (by decide +kernel)
theorem q2_12 : Cond.fieldLink RX11 26 "GalleryRays" "text" "LGalleryRays$Text;" ∈ lw_all := lw_in2 (List.mem_of_getElem? (i := 12) (by decide +kernel)) (by decide +kernel)
theorem q2_13 : Cond.fieldLink RX11 33 "GalleryRays" "shot" "LGalleryRays$Shot;" ∈ lw_all := lw_in2 (List.mem_of_getElem? (i := 13) (by decide +kernel)) (by decide +kernel)
theorem q2_14 : Cond.laysFinal "GalleryRays" "GalleryRays" "wall" "LGalleryRays$Wall;" ∈ lw_all := lw_in2 (List.mem_of_getElem? (i := 14) (by decide +kernel)) (by decide +kernel)
theorem q2_16 : Cond.laysFinal "GalleryRays" "GalleryRays" "history" "LGalleryRays$History;" ∈ lw_all := lw_in2 (List.mem_of_getElem? (i := 16) (by decide +kernel)) (by decide +kernel)
theorem q2_18 : Cond.laysFinal "GalleryRays" "GalleryRays" "text" "LGalleryRays$Text;" ∈ lw_all := lw_in2 (List.mem_of_getElem? (i := 18) (by decide +kernel)) (by decide +kernel)
theorem q2_20 : Cond.laysFinal "GalleryRays" "GalleryRays" "shot" "LGalleryRays$Shot;" ∈ lw_all := lw_in2 (List.mem_of_getElem? (i := 20) (by decide +kernel)) (by decide +kernel)
theorem q2_23 : Cond.methodLink RL 13 yX11_add ∈ lw_all := lw_in2 (List.mem_of_getElem? (i := 23) (by decide +kernel)) (by decide +kernel)
theorem q2_24 : Cond.instanceMethod yX11_add ∈ lw_all := lw_in2 (List.mem_of_getElem? (i := 24) (by decide +kernel)) (by decide +kernel)
theorem q2_25 : Cond.selects RX11 yX11_add yX11_add ∈ lw_all := lw_in2 (List.mem_of_getElem? (i := 25) (by decide +kernel)) (by decide +kernel)
theorem q2_26 : Cond.code yX11_add prog_1_method_2_code 5 (Option.some FieldType.int) ∈ lw_all := lw_in2 (List.mem_of_getElem? (i := 26) (by decide +kernel)) (by decide +kernel)
theorem q2_27 : Cond.methodLink RX11 37 yX4_isAllowed ∈ lw_all := lw_in2 (List.mem_of_getElem? (i := 27) (by decide +kernel)) (by decide +kernel)
theorem q2_28 : Cond.static yX4_isAllowed ∈ lw_all := lw_in2 (List.mem_of_getElem? (i := 28) (by decide +kernel)) (by decide +kernel)
theorem q2_29 : Cond.code yX4_isAllowed prog_6_method_2_code 4 (Option.some FieldType.boolean) ∈ lw_all := lw_in2 (List.mem_of_getElem? (i := 29) (by decide +kernel)) (by decide +kernel)
theorem q2_30 : Cond.methodLink RX4 15 yX0_isPlace ∈ lw_all := lw_in2 (List.mem_of_getElem? (i := 30) (by decide +kernel)) (by decide +kernel)
theorem q2_31 : Cond.static yX0_isPlace ∈ lw_all := lw_in2 (List.mem_of_getElem? (i := 31) (by decide +kernel)) (by decide +kernel)
theorem q2_32 : Cond.code yX0_isPlace prog_2_method_2_code 1 (Option.some FieldType.boolean) ∈ lw_all := lw_in2 (List.mem_of_getElem? (i := 32) (by decide +kernel)) (by decide +kernel)
theorem q2_33 : Cond.methodLink RX4 21 yX4_leastBy ∈ lw_all := lw_in2 (List.mem_of_getElem? (i := 33) (by decide +kernel)) (by decide +kernel)
theorem q2_34 : Cond.static yX4_leastBy ∈ lw_all := lw_in2 (List.mem_of_getElem? (i := 34) (by decide +kernel)) (by decide +kernel)
theorem q2_35 : Cond.code yX4_leastBy prog_6_method_3_code 1 (Option.some FieldType.int) ∈ lw_all := lw_in2 (List.mem_of_getElem? (i := 35) (by decide +kernel)) (by decide +kernel)
theorem q2_36 : Cond.methodLink RX4 28 yX4_mayBeNegative ∈ lw_all := lw_in2 (List.mem_of_getElem? (i := 36) (by decide +kernel)) (by decide +kernel)
theorem q2_37 : Cond.static yX4_mayBeNegative ∈ lw_all := lw_in2 (List.mem_of_getElem? (i := 37) (by decide +kernel)) (by decide +kernel)
theorem q2_38 : Cond.code yX4_mayBeNegative prog_6_method_5_code 1 (Option.some FieldType.boolean) ∈ lw_all := lw_in2 (List.mem_of_getElem? (i := 38) (by decide +kernel)) (by decide +kernel)
theorem q2_39 : Cond.methodLink RX4 25 yX4_mostBy ∈ lw_all := lw_in2 (List.mem_of_getElem? (i := 39) (by decide +kernel)) (by decide +kernel)
theorem q2_40 : Cond.static yX4_mostBy ∈ lw_all := lw_in2 (List.mem_of_getElem? (i := 40) (by decide +kernel)) (by decide +kernel)
theorem q2_41 : Cond.code yX4_mostBy prog_6_method_4_code 1 (Option.some FieldType.int) ∈ lw_all := lw_in2 (List.mem_of_getElem? (i := 41) (by decide +kernel)) (by decide +kernel)
theorem q2_42 : Cond.constant RX11 43 (iZ (-100001)) ∈ lw_all := lw_in2 (List.mem_of_getElem? (i := 42) (by decide +kernel)) (by decide +kernel)
theorem q2_43 : Cond.constant RX11 52 (iZ (-100003)) ∈ lw_all := lw_in2 (List.mem_of_getElem? (i := 43) (by decide +kernel)) (by decide +kernel)
theorem q2_44 : Cond.methodLink RX11 53 yX2_keep ∈ lw_all := lw_in2 (List.mem_of_getElem? (i := 44) (by decide +kernel)) (by decide +kernel)
theorem q2_45 : Cond.instanceMethod yX2_keep ∈ lw_all := lw_in2 (List.mem_of_getElem? (i := 45) (by decide +kernel)) (by decide +kernel)
theorem q2_46 : Cond.selects RX2 yX2_keep yX2_keep ∈ lw_all := lw_in2 (List.mem_of_getElem? (i := 46) (by decide +kernel)) (by decide +kernel)
theorem q2_47 : Cond.code yX2_keep prog_4_method_2_code 2 none ∈ lw_all := lw_in2 (List.mem_of_getElem? (i := 47) (by decide +kernel)) (by decide +kernel)
theorem q2_48 : Cond.methodLink RX2 22 yX2_dropOldest ∈ lw_all := lw_in2 (List.mem_of_getElem? (i := 48) (by decide +kernel)) (by decide +kernel)
theorem q2_50 : Cond.instanceMethod yX2_dropOldest ∈ lw_all := lw_in2 (List.mem_of_getElem? (i := 50) (by decide +kernel)) (by decide +kernel)
theorem q2_51 : Cond.code yX2_dropOldest prog_4_method_3_code 3 none ∈ lw_all := lw_in2 (List.mem_of_getElem? (i := 51) (by decide +kernel)) (by decide +kernel)
theorem q2_52 : Cond.methodLink RX2 25 yX10_copyFrom ∈ lw_all := lw_in2 (List.mem_of_getElem? (i := 52) (by decide +kernel)) (by decide +kernel)
theorem q2_53 : Cond.instanceMethod yX10_copyFrom ∈ lw_all := lw_in2 (List.mem_of_getElem? (i := 53) (by decide +kernel)) (by decide +kernel)
theorem q2_54 : Cond.selects RX10 yX10_copyFrom yX10_copyFrom ∈ lw_all := lw_in2 (List.mem_of_getElem? (i := 54) (by decide +kernel)) (by decide +kernel)
theorem q2_55 : Cond.code yX10_copyFrom prog_12_method_2_code 2 none ∈ lw_all := lw_in2 (List.mem_of_getElem? (i := 55) (by decide +kernel)) (by decide +kernel)
theorem q2_56 : Cond.methodLink RX10 23 yX4_copyFrom ∈ lw_all := lw_in2 (List.mem_of_getElem? (i := 56) (by decide +kernel)) (by decide +kernel)
theorem q2_57 : Cond.instanceMethod yX4_copyFrom ∈ lw_all := lw_in2 (List.mem_of_getElem? (i := 57) (by decide +kernel)) (by decide +kernel)
theorem q2_58 : Cond.selects RX4 yX4_copyFrom yX4_copyFrom ∈ lw_all := lw_in2 (List.mem_of_getElem? (i := 58) (by decide +kernel)) (by decide +kernel)
theorem q2_59 : Cond.code yX4_copyFrom prog_6_method_14_code 2 none ∈ lw_all := lw_in2 (List.mem_of_getElem? (i := 59) (by decide +kernel)) (by decide +kernel)
theorem q2_60 : Cond.methodLink RX4 62 arraycopyName ∈ lw_all := lw_in2 (List.mem_of_getElem? (i := 60) (by decide +kernel)) (by decide +kernel)
theorem q2_61 : Cond.static arraycopyName ∈ lw_all := lw_in2 (List.mem_of_getElem? (i := 61) (by decide +kernel)) (by decide +kernel)
theorem q2_62 : Cond.native arraycopyName ∈ lw_all := lw_in2 (List.mem_of_getElem? (i := 62) (by decide +kernel)) (by decide +kernel)
theorem q2_63 : Cond.methodLink RX11 57 yX4_append ∈ lw_all := lw_in2 (List.mem_of_getElem? (i := 63) (by decide +kernel)) (by decide +kernel)
theorem q2_64 : Cond.instanceMethod yX4_append ∈ lw_all := lw_in2 (List.mem_of_getElem? (i := 64) (by decide +kernel)) (by decide +kernel)
theorem q2_65 : Cond.selects RX4 yX4_append yX4_append ∈ lw_all := lw_in2 (List.mem_of_getElem? (i := 65) (by decide +kernel)) (by decide +kernel)
theorem q2_66 : Cond.code yX4_append prog_6_method_11_code 6 none ∈ lw_all := lw_in2 (List.mem_of_getElem? (i := 66) (by decide +kernel)) (by decide +kernel)
theorem q2_67 : Cond.methodLink RL 18 yX11_remove ∈ lw_all := lw_in2 (List.mem_of_getElem? (i := 67) (by decide +kernel)) (by decide +kernel)
theorem q2_68 : Cond.instanceMethod yX11_remove ∈ lw_all := lw_in2 (List.mem_of_getElem? (i := 68) (by decide +kernel)) (by decide +kernel)
theorem q2_69 : Cond.selects RX11 yX11_remove yX11_remove ∈ lw_all := lw_in2 (List.mem_of_getElem? (i := 69) (by decide +kernel)) (by decide +kernel)
theorem q2_70 : Cond.code yX11_remove prog_1_method_3_code 2 (Option.some FieldType.int) ∈ lw_all := lw_in2 (List.mem_of_getElem? (i := 70) (by decide +kernel)) (by decide +kernel)
theorem q2_71 : Cond.methodLink RX11 61 yX4_has ∈ lw_all := lw_in2 (List.mem_of_getElem? (i := 71) (by decide +kernel)) (by decide +kernel)
theorem q2_72 : Cond.instanceMethod yX4_has ∈ lw_all := lw_in2 (List.mem_of_getElem? (i := 72) (by decide +kernel)) (by decide +kernel)
theorem q2_73 : Cond.selects RX4 yX4_has yX4_has ∈ lw_all := lw_in2 (List.mem_of_getElem? (i := 73) (by decide +kernel)) (by decide +kernel)
theorem q2_74 : Cond.code yX4_has prog_6_method_8_code 2 (Option.some FieldType.boolean) ∈ lw_all := lw_in2 (List.mem_of_getElem? (i := 74) (by decide +kernel)) (by decide +kernel)
theorem q2_75 : Cond.methodLink RX11 65 yX4_takeOut ∈ lw_all := lw_in2 (List.mem_of_getElem? (i := 75) (by decide +kernel)) (by decide +kernel)
theorem q2_76 : Cond.instanceMethod yX4_takeOut ∈ lw_all := lw_in2 (List.mem_of_getElem? (i := 76) (by decide +kernel)) (by decide +kernel)
theorem q2_77 : Cond.selects RX4 yX4_takeOut yX4_takeOut ∈ lw_all := lw_in2 (List.mem_of_getElem? (i := 77) (by decide +kernel)) (by decide +kernel)
theorem q2_78 : Cond.code yX4_takeOut prog_6_method_13_code 4 none ∈ lw_all := lw_in2 (List.mem_of_getElem? (i := 78) (by decide +kernel)) (by decide +kernel)
theorem q2_79 : Cond.methodLink RX4 45 yX4_has ∈ lw_all := lw_in2 (List.mem_of_getElem? (i := 79) (by decide +kernel)) (by decide +kernel)
theorem q2_80 : Cond.methodLink RL 23 yX11_part ∈ lw_all := lw_in2 (List.mem_of_getElem? (i := 80) (by decide +kernel)) (by decide +kernel)
theorem q2_81 : Cond.instanceMethod yX11_part ∈ lw_all := lw_in2 (List.mem_of_getElem? (i := 81) (by decide +kernel)) (by decide +kernel)
theorem q2_82 : Cond.selects RX11 yX11_part yX11_part ∈ lw_all := lw_in2 (List.mem_of_getElem? (i := 82) (by decide +kernel)) (by decide +kernel)
theorem q2_83 : Cond.code yX11_part prog_1_method_4_code 3 (Option.some FieldType.int) ∈ lw_all := lw_in2 (List.mem_of_getElem? (i := 83) (by decide +kernel)) (by decide +kernel)
theorem q2_84 : Cond.methodLink RX11 69 yX4_numberOf ∈ lw_all := lw_in2 (List.mem_of_getElem? (i := 84) (by decide +kernel)) (by decide +kernel)
theorem q2_85 : Cond.instanceMethod yX4_numberOf ∈ lw_all := lw_in2 (List.mem_of_getElem? (i := 85) (by decide +kernel)) (by decide +kernel)
theorem q2_86 : Cond.selects RX4 yX4_numberOf yX4_numberOf ∈ lw_all := lw_in2 (List.mem_of_getElem? (i := 86) (by decide +kernel)) (by decide +kernel)
theorem q2_87 : Cond.code yX4_numberOf prog_6_method_9_code 3 (Option.some FieldType.int) ∈ lw_all := lw_in2 (List.mem_of_getElem? (i := 87) (by decide +kernel)) (by decide +kernel)
theorem q2_88 : Cond.constant RX4 48 (iZ (-100001)) ∈ lw_all := lw_in2 (List.mem_of_getElem? (i := 88) (by decide +kernel)) (by decide +kernel)
theorem q2_89 : Cond.methodLink RL 28 yX11_parts ∈ lw_all := lw_in2 (List.mem_of_getElem? (i := 89) (by decide +kernel)) (by decide +kernel)
theorem q2_90 : Cond.instanceMethod yX11_parts ∈ lw_all := lw_in2 (List.mem_of_getElem? (i := 90) (by decide +kernel)) (by decide +kernel)
theorem q2_91 : Cond.selects RX11 yX11_parts yX11_parts ∈ lw_all := lw_in2 (List.mem_of_getElem? (i := 91) (by decide +kernel)) (by decide +kernel)
theorem q2_92 : Cond.code yX11_parts prog_1_method_5_code 1 (Option.some FieldType.int) ∈ lw_all := lw_in2 (List.mem_of_getElem? (i := 92) (by decide +kernel)) (by decide +kernel)
theorem q2_93 : Cond.methodLink RL 33 yX11_setLoss ∈ lw_all := lw_in2 (List.mem_of_getElem? (i := 93) (by decide +kernel)) (by decide +kernel)
theorem q2_94 : Cond.instanceMethod yX11_setLoss ∈ lw_all := lw_in2 (List.mem_of_getElem? (i := 94) (by decide +kernel)) (by decide +kernel)
theorem q2_95 : Cond.selects RX11 yX11_setLoss yX11_setLoss ∈ lw_all := lw_in2 (List.mem_of_getElem? (i := 95) (by decide +kernel)) (by decide +kernel)
theorem q2_96 : Cond.code yX11_setLoss prog_1_method_6_code 3 (Option.some FieldType.int) ∈ lw_all := lw_in2 (List.mem_of_getElem? (i := 96) (by decide +kernel)) (by decide +kernel)
theorem q2_97 : Cond.methodLink RL 37 yX11_setThreshold ∈ lw_all := lw_in2 (List.mem_of_getElem? (i := 97) (by decide +kernel)) (by decide +kernel)
theorem q2_98 : Cond.instanceMethod yX11_setThreshold ∈ lw_all := lw_in2 (List.mem_of_getElem? (i := 98) (by decide +kernel)) (by decide +kernel)
theorem q2_99 : Cond.selects RX11 yX11_setThreshold yX11_setThreshold ∈ lw_all := lw_in2 (List.mem_of_getElem? (i := 99) (by decide +kernel)) (by decide +kernel)
theorem q2_100 : Cond.code yX11_setThreshold prog_1_method_7_code 3 (Option.some FieldType.int) ∈ lw_all := lw_in2 (List.mem_of_getElem? (i := 100) (by decide +kernel)) (by decide +kernel)
theorem q2_101 : Cond.constant RX11 76 (iZ (1000000)) ∈ lw_all := lw_in2 (List.mem_of_getElem? (i := 101) (by decide +kernel)) (by decide +kernel)
theorem q2_102 : Cond.methodLink RL 41 yX11_type ∈ lw_all := lw_in2 (List.mem_of_getElem? (i := 102) (by decide +kernel)) (by decide +kernel)
theorem q2_103 : Cond.instanceMethod yX11_type ∈ lw_all := lw_in2 (List.mem_of_getElem? (i := 103) (by decide +kernel)) (by decide +kernel)
theorem q2_104 : Cond.selects RX11 yX11_type yX11_type ∈ lw_all := lw_in2 (List.mem_of_getElem? (i := 104) (by decide +kernel)) (by decide +kernel)
theorem q2_105 : Cond.code yX11_type prog_1_method_8_code 2 (Option.some FieldType.int) ∈ lw_all := lw_in2 (List.mem_of_getElem? (i := 105) (by decide +kernel)) (by decide +kernel)
theorem q2_106 : Cond.methodLink RX11 83 yX9_append ∈ lw_all := lw_in2 (List.mem_of_getElem? (i := 106) (by decide +kernel)) (by decide +kernel)
theorem q2_107 : Cond.instanceMethod yX9_append ∈ lw_all := lw_in2 (List.mem_of_getElem? (i := 107) (by decide +kernel)) (by decide +kernel)
theorem q2_108 : Cond.selects RX9 yX9_append yX9_append ∈ lw_all := lw_in2 (List.mem_of_getElem? (i := 108) (by decide +kernel)) (by decide +kernel)
theorem q2_109 : Cond.code yX9_append prog_11_method_2_code 2 none ∈ lw_all := lw_in2 (List.mem_of_getElem? (i := 109) (by decide +kernel)) (by decide +kernel)
theorem q2_110 : Cond.methodLink RL 45 yX11_clear ∈ lw_all := lw_in2 (List.mem_of_getElem? (i := 110) (by decide +kernel)) (by decide +kernel)
theorem q2_111 : Cond.instanceMethod yX11_clear ∈ lw_all := lw_in2 (List.mem_of_getElem? (i := 111) (by decide +kernel)) (by decide +kernel)
theorem q2_112 : Cond.selects RX11 yX11_clear yX11_clear ∈ lw_all := lw_in2 (List.mem_of_getElem? (i := 112) (by decide +kernel)) (by decide +kernel)
theorem q2_113 : Cond.code yX11_clear prog_1_method_9_code 2 (Option.some FieldType.int) ∈ lw_all := lw_in2 (List.mem_of_getElem? (i := 113) (by decide +kernel)) (by decide +kernel)
theorem q2_114 : Cond.methodLink RL 49 yX11_read ∈ lw_all := lw_in2 (List.mem_of_getElem? (i := 114) (by decide +kernel)) (by decide +kernel)
theorem q2_115 : Cond.instanceMethod yX11_read ∈ lw_all := lw_in2 (List.mem_of_getElem? (i := 115) (by decide +kernel)) (by decide +kernel)
theorem q2_116 : Cond.selects RX11 yX11_read yX11_read ∈ lw_all := lw_in2 (List.mem_of_getElem? (i := 116) (by decide +kernel)) (by decide +kernel)
theorem q2_117 : Cond.code yX11_read prog_1_method_10_code 2 (Option.some FieldType.int) ∈ lw_all := lw_in2 (List.mem_of_getElem? (i := 117) (by decide +kernel)) (by decide +kernel)
theorem q2_118 : Cond.methodLink RX11 86 yX9_errorPlace ∈ lw_all := lw_in2 (List.mem_of_getElem? (i := 118) (by decide +kernel)) (by decide +kernel)
theorem q2_119 : Cond.instanceMethod yX9_errorPlace ∈ lw_all := lw_in2 (List.mem_of_getElem? (i := 119) (by decide +kernel)) (by decide +kernel)
theorem q2_120 : Cond.selects RX9 yX9_errorPlace yX9_errorPlace ∈ lw_all := lw_in2 (List.mem_of_getElem? (i := 120) (by decide +kernel)) (by decide +kernel)
theorem q2_121 : Cond.code yX9_errorPlace prog_11_method_4_code 2 (Option.some FieldType.int) ∈ lw_all := lw_in2 (List.mem_of_getElem? (i := 121) (by decide +kernel)) (by decide +kernel)
theorem q2_122 : Cond.methodLink RX9 39 yX9_readOne ∈ lw_all := lw_in2 (List.mem_of_getElem? (i := 122) (by decide +kernel)) (by decide +kernel)
theorem q2_124 : Cond.instanceMethod yX9_readOne ∈ lw_all := lw_in2 (List.mem_of_getElem? (i := 124) (by decide +kernel)) (by decide +kernel)
theorem q2_125 : Cond.code yX9_readOne prog_11_method_5_code 5 none ∈ lw_all := lw_in2 (List.mem_of_getElem? (i := 125) (by decide +kernel)) (by decide +kernel)
theorem q2_126 : Cond.methodLink RX9 46 yX9_takeWord ∈ lw_all := lw_in2 (List.mem_of_getElem? (i := 126) (by decide +kernel)) (by decide +kernel)
theorem q2_128 : Cond.instanceMethod yX9_takeWord ∈ lw_all := lw_in2 (List.mem_of_getElem? (i := 128) (by decide +kernel)) (by decide +kernel)
theorem q2_129 : Cond.code yX9_takeWord prog_11_method_7_code 5 (Option.some FieldType.int) ∈ lw_all := lw_in2 (List.mem_of_getElem? (i := 129) (by decide +kernel)) (by decide +kernel)
theorem q2_130 : Cond.methodLink RX9 76 yX4_word ∈ lw_all := lw_in2 (List.mem_of_getElem? (i := 130) (by decide +kernel)) (by decide +kernel)
theorem q2_131 : Cond.static yX4_word ∈ lw_all := lw_in2 (List.mem_of_getElem? (i := 131) (by decide +kernel)) (by decide +kernel)
theorem q2_132 : Cond.code yX4_word prog_6_method_7_code 1 (Option.some (FieldType.object "java/lang/String")) ∈ lw_all := lw_in2 (List.mem_of_getElem? (i := 132) (by decide +kernel)) (by decide +kernel)
theorem q2_133 : Cond.stringRef RX4 31 "soak" ∈ lw_tbl := List.mem_append_right _ (List.mem_of_getElem? (i := 373) (by decide +kernel))
theorem q2_134 : Cond.stringRef RX4 33 "back" ∈ lw_tbl := List.mem_append_right _ (List.mem_of_getElem? (i := 374) (by decide +kernel))
theorem q2_135 : Cond.stringRef RX4 35 "tilt" ∈ lw_tbl := List.mem_append_right _ (List.mem_of_getElem? (i := 375) (by decide +kernel))
theorem q2_136 : Cond.stringRef RX4 37 "split" ∈ lw_tbl := List.mem_append_right _ (List.mem_of_getElem? (i := 376) (by decide +kernel))
theorem q2_137 : Cond.stringRef RX4 39 "hear" ∈ lw_tbl := List.mem_append_right _ (List.mem_of_getElem? (i := 377) (by decide +kernel))
theorem q2_138 : Cond.methodLink RX9 80 yX9_sameSigns ∈ lw_all := lw_in2 (List.mem_of_getElem? (i := 138) (by decide +kernel)) (by decide +kernel)
theorem q2_140 : Cond.instanceMethod yX9_sameSigns ∈ lw_all := lw_in2 (List.mem_of_getElem? (i := 140) (by decide +kernel)) (by decide +kernel)
theorem q2_141 : Cond.code yX9_sameSigns prog_11_method_8_code 3 (Option.some FieldType.int) ∈ lw_all := lw_in2 (List.mem_of_getElem? (i := 141) (by decide +kernel)) (by decide +kernel)
theorem q2_142 : Cond.methodLink RX9 84 yJ0_length_8abf5 ∈ lw_all := lw_in2 (List.mem_of_getElem? (i := 142) (by decide +kernel)) (by decide +kernel)
theorem q2_143 : Cond.instanceMethod yJ0_length_8abf5 ∈ lw_all := lw_in2 (List.mem_of_getElem? (i := 143) (by decide +kernel)) (by decide +kernel)
theorem q2_144 : Cond.selects RJ0 yJ0_length_8abf5 yJ0_length_8abf5 ∈ lw_all := lw_in2 (List.mem_of_getElem? (i := 144) (by decide +kernel)) (by decide +kernel)
theorem q2_145 : Cond.code yJ0_length_8abf5 prog_17_method_54_code 1 (Option.some FieldType.int) ∈ lw_all := lw_in2 (List.mem_of_getElem? (i := 145) (by decide +kernel)) (by decide +kernel)
theorem q2_146 : Cond.methodLink RJ0 335 yJ0_coder_7d493 ∈ lw_all := lw_in2 (List.mem_of_getElem? (i := 146) (by decide +kernel)) (by decide +kernel)
theorem q2_147 : Cond.instanceMethod yJ0_coder_7d493 ∈ lw_all := lw_in2 (List.mem_of_getElem? (i := 147) (by decide +kernel)) (by decide +kernel)
theorem q2_148 : Cond.selects RJ0 yJ0_coder_7d493 yJ0_coder_7d493 ∈ lw_all := lw_in2 (List.mem_of_getElem? (i := 148) (by decide +kernel)) (by decide +kernel)
theorem q2_149 : Cond.code yJ0_coder_7d493 prog_17_method_152_code 1 (Option.some FieldType.byte) ∈ lw_all := lw_in2 (List.mem_of_getElem? (i := 149) (by decide +kernel)) (by decide +kernel)
theorem q2_150 : Cond.fieldLink RJ0 38 "java/lang/String" "COMPACT_STRINGS" "Z" ∈ lw_all := lw_in2 (List.mem_of_getElem? (i := 150) (by decide +kernel)) (by decide +kernel)
theorem q2_151 : Cond.laysStatic "java/lang/String" "COMPACT_STRINGS" "Z" ∈ lw_tbl := List.mem_append_right _ (List.mem_of_getElem? (i := 391) (by decide +kernel))
theorem q2_152 : Cond.methodLink RX9 72 yX9_signAt ∈ lw_all := lw_in2 (List.mem_of_getElem? (i := 152) (by decide +kernel)) (by decide +kernel)
theorem q2_154 : Cond.instanceMethod yX9_signAt ∈ lw_all := lw_in2 (List.mem_of_getElem? (i := 154) (by decide +kernel)) (by decide +kernel)
theorem q2_155 : Cond.code yX9_signAt prog_11_method_3_code 2 (Option.some FieldType.char) ∈ lw_all := lw_in2 (List.mem_of_getElem? (i := 155) (by decide +kernel)) (by decide +kernel)
theorem q2_156 : Cond.methodLink RX9 94 yJ0_charAt_5068e ∈ lw_all := lw_in2 (List.mem_of_getElem? (i := 156) (by decide +kernel)) (by decide +kernel)
theorem q2_157 : Cond.instanceMethod yJ0_charAt_5068e ∈ lw_all := lw_in2 (List.mem_of_getElem? (i := 157) (by decide +kernel)) (by decide +kernel)
theorem q2_158 : Cond.selects RJ0 yJ0_charAt_5068e yJ0_charAt_5068e ∈ lw_all := lw_in2 (List.mem_of_getElem? (i := 158) (by decide +kernel)) (by decide +kernel)
theorem q2_159 : Cond.code yJ0_charAt_5068e prog_17_method_56_code 2 (Option.some FieldType.char) ∈ lw_all := lw_in2 (List.mem_of_getElem? (i := 159) (by decide +kernel)) (by decide +kernel)
theorem q2_160 : Cond.methodLink RJ0 492 yJ0_isLatin1_aae02 ∈ lw_all := lw_in2 (List.mem_of_getElem? (i := 160) (by decide +kernel)) (by decide +kernel)
theorem q2_161 : Cond.instanceMethod yJ0_isLatin1_aae02 ∈ lw_all := lw_in2 (List.mem_of_getElem? (i := 161) (by decide +kernel)) (by decide +kernel)
theorem q2_162 : Cond.selects RJ0 yJ0_isLatin1_aae02 yJ0_isLatin1_aae02 ∈ lw_all := lw_in2 (List.mem_of_getElem? (i := 162) (by decide +kernel)) (by decide +kernel)
theorem q2_163 : Cond.code yJ0_isLatin1_aae02 prog_17_method_154_code 1 (Option.some FieldType.boolean) ∈ lw_all := lw_in2 (List.mem_of_getElem? (i := 163) (by decide +kernel)) (by decide +kernel)
theorem q2_164 : Cond.methodLink RJ0 495 yJ1_charAt_3b067 ∈ lw_all := lw_in2 (List.mem_of_getElem? (i := 164) (by decide +kernel)) (by decide +kernel)
theorem q2_165 : Cond.static yJ1_charAt_3b067 ∈ lw_all := lw_in2 (List.mem_of_getElem? (i := 165) (by decide +kernel)) (by decide +kernel)
theorem q2_166 : Cond.code yJ1_charAt_3b067 prog_18_method_2_code 2 (Option.some FieldType.char) ∈ lw_all := lw_in2 (List.mem_of_getElem? (i := 166) (by decide +kernel)) (by decide +kernel)
theorem q2_167 : Cond.methodLink RJ1 9 yJ0_checkIndex_df160 ∈ lw_all := lw_in2 (List.mem_of_getElem? (i := 167) (by decide +kernel)) (by decide +kernel)
theorem q2_168 : Cond.static yJ0_checkIndex_df160 ∈ lw_all := lw_in2 (List.mem_of_getElem? (i := 168) (by decide +kernel)) (by decide +kernel)
theorem q2_169 : Cond.code yJ0_checkIndex_df160 prog_17_method_155_code 2 none ∈ lw_all := lw_in2 (List.mem_of_getElem? (i := 169) (by decide +kernel)) (by decide +kernel)
theorem q2_170 : Cond.fieldLink RJ0 1053 "jdk/internal/util/Preconditions" "SIOOBE_FORMATTER" "Ljava/util/function/BiFunction;" ∈ lw_all := lw_in2 (List.mem_of_getElem? (i := 170) (by decide +kernel)) (by decide +kernel)
theorem q2_171 : Cond.laysStatic "jdk/internal/util/Preconditions" "SIOOBE_FORMATTER" "Ljava/util/function/BiFunction;" ∈ lw_tbl := List.mem_append_right _ (List.mem_of_getElem? (i := 411) (by decide +kernel))
theorem q2_172 : Cond.methodLink RJ0 1059 yJ3_checkIndex_8e157 ∈ lw_all := lw_in2 (List.mem_of_getElem? (i := 172) (by decide +kernel)) (by decide +kernel)
theorem q2_173 : Cond.static yJ3_checkIndex_8e157 ∈ lw_all := lw_in2 (List.mem_of_getElem? (i := 173) (by decide +kernel)) (by decide +kernel)
theorem q2_174 : Cond.code yJ3_checkIndex_8e157 prog_21_method_11_code 3 (Option.some FieldType.int) ∈ lw_all := lw_in2 (List.mem_of_getElem? (i := 174) (by decide +kernel)) (by decide +kernel)
theorem q2_175 : Cond.methodLink RJ0 498 yJ2_charAt_3b067 ∈ lw_all := lw_in2 (List.mem_of_getElem? (i := 175) (by decide +kernel)) (by decide +kernel)
theorem q2_176 : Cond.static yJ2_charAt_3b067 ∈ lw_all := lw_in2 (List.mem_of_getElem? (i := 176) (by decide +kernel)) (by decide +kernel)
theorem q2_177 : Cond.code yJ2_charAt_3b067 prog_19_method_83_code 2 (Option.some FieldType.char) ∈ lw_all := lw_in2 (List.mem_of_getElem? (i := 177) (by decide +kernel)) (by decide +kernel)
theorem q2_178 : Cond.methodLink RJ2 67 yJ2_checkIndex_2214a ∈ lw_all := lw_in2 (List.mem_of_getElem? (i := 178) (by decide +kernel)) (by decide +kernel)
theorem q2_179 : Cond.static yJ2_checkIndex_2214a ∈ lw_all := lw_in2 (List.mem_of_getElem? (i := 179) (by decide +kernel)) (by decide +kernel)
theorem q2_180 : Cond.code yJ2_checkIndex_2214a prog_19_method_91_code 2 none ∈ lw_all := lw_in2 (List.mem_of_getElem? (i := 180) (by decide +kernel)) (by decide +kernel)
theorem q2_181 : Cond.methodLink RJ2 48 yJ2_length_9d52b ∈ lw_all := lw_in2 (List.mem_of_getElem? (i := 181) (by decide +kernel)) (by decide +kernel)
theorem q2_182 : Cond.static yJ2_length_9d52b ∈ lw_all := lw_in2 (List.mem_of_getElem? (i := 182) (by decide +kernel)) (by decide +kernel)
theorem q2_183 : Cond.code yJ2_length_9d52b prog_19_method_6_code 1 (Option.some FieldType.int) ∈ lw_all := lw_in2 (List.mem_of_getElem? (i := 183) (by decide +kernel)) (by decide +kernel)
theorem q2_184 : Cond.methodLink RJ2 414 yJ0_checkIndex_df160 ∈ lw_all := lw_in2 (List.mem_of_getElem? (i := 184) (by decide +kernel)) (by decide +kernel)
theorem q2_185 : Cond.methodLink RJ2 71 yJ2_getChar_3b067 ∈ lw_all := lw_in2 (List.mem_of_getElem? (i := 185) (by decide +kernel)) (by decide +kernel)
theorem q2_186 : Cond.static yJ2_getChar_3b067 ∈ lw_all := lw_in2 (List.mem_of_getElem? (i := 186) (by decide +kernel)) (by decide +kernel)
theorem q2_187 : Cond.code yJ2_getChar_3b067 prog_19_method_5_code 2 (Option.some FieldType.char) ∈ lw_all := lw_in2 (List.mem_of_getElem? (i := 187) (by decide +kernel)) (by decide +kernel)
theorem q2_188 : Cond.fieldLink RJ2 44 "java/lang/StringUTF16" "$assertionsDisabled" "Z" ∈ lw_all := lw_in2 (List.mem_of_getElem? (i := 188) (by decide +kernel)) (by decide +kernel)
theorem q2_189 : Cond.laysStatic "java/lang/StringUTF16" "$assertionsDisabled" "Z" ∈ lw_tbl := List.mem_append_right _ (List.mem_of_getElem? (i := 429) (by decide +kernel))
theorem q2_190 : Cond.fieldLink RJ2 59 "java/lang/StringUTF16" "HI_BYTE_SHIFT" "I" ∈ lw_all := lw_in2 (List.mem_of_getElem? (i := 190) (by decide +kernel)) (by decide +kernel)
theorem q2_191 : Cond.laysStatic "java/lang/StringUTF16" "HI_BYTE_SHIFT" "I" ∈ lw_tbl := List.mem_append_right _ (List.mem_of_getElem? (i := 431) (by decide +kernel))
theorem q2_192 : Cond.fieldLink RJ2 63 "java/lang/StringUTF16" "LO_BYTE_SHIFT" "I" ∈ lw_all := lw_in2 (List.mem_of_getElem? (i := 192) (by decide +kernel)) (by decide +kernel)
theorem q2_193 : Cond.laysStatic "java/lang/StringUTF16" "LO_BYTE_SHIFT" "I" ∈ lw_tbl := List.mem_append_right _ (List.mem_of_getElem? (i := 433) (by decide +kernel))
theorem q2_194 : Cond.methodLink RX9 88 yJ9_max_7cf53 ∈ lw_all := lw_in2 (List.mem_of_getElem? (i := 194) (by decide +kernel)) (by decide +kernel)
theorem q2_195 : Cond.static yJ9_max_7cf53 ∈ lw_all := lw_in2 (List.mem_of_getElem? (i := 195) (by decide +kernel)) (by decide +kernel)
theorem q2_196 : Cond.code yJ9_max_7cf53 prog_16_method_65_code 2 (Option.some FieldType.int) ∈ lw_all := lw_in2 (List.mem_of_getElem? (i := 196) (by decide +kernel)) (by decide +kernel)
theorem q2_197 : Cond.methodLink RX9 42 yX9_take ∈ lw_all := lw_in2 (List.mem_of_getElem? (i := 197) (by decide +kernel)) (by decide +kernel)
theorem q2_199 : Cond.instanceMethod yX9_take ∈ lw_all := lw_in2 (List.mem_of_getElem? (i := 199) (by decide +kernel)) (by decide +kernel)
theorem q2_200 : Cond.code yX9_take prog_11_method_6_code 2 none ∈ lw_all := lw_in2 (List.mem_of_getElem? (i := 200) (by decide +kernel)) (by decide +kernel)
theorem q2_201 : Cond.methodLink RX9 50 yX9_takeNumber ∈ lw_all := lw_in2 (List.mem_of_getElem? (i := 201) (by decide +kernel)) (by decide +kernel)
theorem q2_203 : Cond.instanceMethod yX9_takeNumber ∈ lw_all := lw_in2 (List.mem_of_getElem? (i := 203) (by decide +kernel)) (by decide +kernel)
theorem q2_204 : Cond.code yX9_takeNumber prog_11_method_9_code 7 (Option.some FieldType.int) ∈ lw_all := lw_in2 (List.mem_of_getElem? (i := 204) (by decide +kernel)) (by decide +kernel)
theorem q2_205 : Cond.methodLink RX9 97 yX9_isDigit ∈ lw_all := lw_in2 (List.mem_of_getElem? (i := 205) (by decide +kernel)) (by decide +kernel)
theorem q2_206 : Cond.static yX9_isDigit ∈ lw_all := lw_in2 (List.mem_of_getElem? (i := 206) (by decide +kernel)) (by decide +kernel)
theorem q2_207 : Cond.code yX9_isDigit prog_11_method_10_code 1 (Option.some FieldType.boolean) ∈ lw_all := lw_in2 (List.mem_of_getElem? (i := 207) (by decide +kernel)) (by decide +kernel)
theorem q2_208 : Cond.methodLink RX9 54 yX4_hasBy ∈ lw_all := lw_in2 (List.mem_of_getElem? (i := 208) (by decide +kernel)) (by decide +kernel)
theorem q2_209 : Cond.static yX4_hasBy ∈ lw_all := lw_in2 (List.mem_of_getElem? (i := 209) (by decide +kernel)) (by decide +kernel)
theorem q2_210 : Cond.code yX4_hasBy prog_6_method_6_code 1 (Option.some FieldType.boolean) ∈ lw_all := lw_in2 (List.mem_of_getElem? (i := 210) (by decide +kernel)) (by decide +kernel)
theorem q2_211 : Cond.methodLink RX9 58 yX4_leastBy ∈ lw_all := lw_in2 (List.mem_of_getElem? (i := 211) (by decide +kernel)) (by decide +kernel)
theorem q2_212 : Cond.methodLink RX9 62 yX4_mostBy ∈ lw_all := lw_in2 (List.mem_of_getElem? (i := 212) (by decide +kernel)) (by decide +kernel)
theorem q2_213 : Cond.methodLink RX9 65 yX4_mayBeNegative ∈ lw_all := lw_in2 (List.mem_of_getElem? (i := 213) (by decide +kernel)) (by decide +kernel)
theorem q2_214 : Cond.methodLink RX9 68 yX4_append ∈ lw_all := lw_in2 (List.mem_of_getElem? (i := 214) (by decide +kernel)) (by decide +kernel)
theorem q2_215 : Cond.methodLink RX11 93 yX4_appendAll ∈ lw_all := lw_in2 (List.mem_of_getElem? (i := 215) (by decide +kernel)) (by decide +kernel)
theorem q2_216 : Cond.instanceMethod yX4_appendAll ∈ lw_all := lw_in2 (List.mem_of_getElem? (i := 216) (by decide +kernel)) (by decide +kernel)
theorem q2_217 : Cond.selects RX4 yX4_appendAll yX4_appendAll ∈ lw_all := lw_in2 (List.mem_of_getElem? (i := 217) (by decide +kernel)) (by decide +kernel)
theorem q2_218 : Cond.code yX4_appendAll prog_6_method_12_code 3 none ∈ lw_all := lw_in2 (List.mem_of_getElem? (i := 218) (by decide +kernel)) (by decide +kernel)
theorem q2_219 : Cond.methodLink RX4 49 yX4_numberOf ∈ lw_all := lw_in2 (List.mem_of_getElem? (i := 219) (by decide +kernel)) (by decide +kernel)
theorem q2_220 : Cond.methodLink RX4 58 yX4_append ∈ lw_all := lw_in2 (List.mem_of_getElem? (i := 220) (by decide +kernel)) (by decide +kernel)
theorem q2_221 : Cond.arrayClass FieldType.byte ∈ lw_all := lw_in2 (List.mem_of_getElem? (i := 221) (by decide +kernel)) (by decide +kernel)
theorem q2_222 : Cond.methodLink RL 53 yX11_shoot ∈ lw_all := lw_in2 (List.mem_of_getElem? (i := 222) (by decide +kernel)) (by decide +kernel)
theorem q2_223 : Cond.instanceMethod yX11_shoot ∈ lw_all := lw_in2 (List.mem_of_getElem? (i := 223) (by decide +kernel)) (by decide +kernel)
theorem q2_224 : Cond.selects RX11 yX11_shoot yX11_shoot ∈ lw_all := lw_in2 (List.mem_of_getElem? (i := 224) (by decide +kernel)) (by decide +kernel)
theorem q2_225 : Cond.code yX11_shoot prog_1_method_11_code 4 (Option.some FieldType.int) ∈ lw_all := lw_in2 (List.mem_of_getElem? (i := 225) (by decide +kernel)) (by decide +kernel)
theorem q2_226 : Cond.methodLink RX11 97 yX0_isPlace ∈ lw_all := lw_in2 (List.mem_of_getElem? (i := 226) (by decide +kernel)) (by decide +kernel)
theorem q2_227 : Cond.methodLink RX11 102 yX0_isStep ∈ lw_all := lw_in2 (List.mem_of_getElem? (i := 227) (by decide +kernel)) (by decide +kernel)
theorem q2_228 : Cond.static yX0_isStep ∈ lw_all := lw_in2 (List.mem_of_getElem? (i := 228) (by decide +kernel)) (by decide +kernel)
theorem q2_229 : Cond.code yX0_isStep prog_2_method_3_code 1 (Option.some FieldType.boolean) ∈ lw_all := lw_in2 (List.mem_of_getElem? (i := 229) (by decide +kernel)) (by decide +kernel)
theorem q2_230 : Cond.methodLink RX11 105 yX8_run ∈ lw_all := lw_in2 (List.mem_of_getElem? (i := 230) (by decide +kernel)) (by decide +kernel)
theorem q2_231 : Cond.instanceMethod yX8_run ∈ lw_all := lw_in2 (List.mem_of_getElem? (i := 231) (by decide +kernel)) (by decide +kernel)
theorem q2_232 : Cond.selects RX8 yX8_run yX8_run ∈ lw_all := lw_in2 (List.mem_of_getElem? (i := 232) (by decide +kernel)) (by decide +kernel)
theorem q2_233 : Cond.code yX8_run prog_10_method_2_code 7 none ∈ lw_all := lw_in2 (List.mem_of_getElem? (i := 233) (by decide +kernel)) (by decide +kernel)
theorem q2_234 : Cond.methodLink RX8 48 yX3_forget ∈ lw_all := lw_in2 (List.mem_of_getElem? (i := 234) (by decide +kernel)) (by decide +kernel)
theorem q2_235 : Cond.instanceMethod yX3_forget ∈ lw_all := lw_in2 (List.mem_of_getElem? (i := 235) (by decide +kernel)) (by decide +kernel)
theorem q2_236 : Cond.selects RX3 yX3_forget yX3_forget ∈ lw_all := lw_in2 (List.mem_of_getElem? (i := 236) (by decide +kernel)) (by decide +kernel)
theorem q2_237 : Cond.code yX3_forget prog_5_method_2_code 1 none ∈ lw_all := lw_in2 (List.mem_of_getElem? (i := 237) (by decide +kernel)) (by decide +kernel)
theorem q2_238 : Cond.methodLink RX8 51 yX6_forget ∈ lw_all := lw_in2 (List.mem_of_getElem? (i := 238) (by decide +kernel)) (by decide +kernel)
theorem q2_239 : Cond.instanceMethod yX6_forget ∈ lw_all := lw_in2 (List.mem_of_getElem? (i := 239) (by decide +kernel)) (by decide +kernel)
theorem q3_0 : Cond.selects RX6 yX6_forget yX6_forget ∈ lw_all := lw_in3 (List.mem_of_getElem? (i := 0) (by decide +kernel)) (by decide +kernel)
theorem q3_1 : Cond.code yX6_forget prog_8_method_2_code 2 none ∈ lw_all := lw_in3 (List.mem_of_getElem? (i := 1) (by decide +kernel)) (by decide +kernel)
theorem q3_2 : Cond.methodLink RX8 52 yX1_forget ∈ lw_all := lw_in3 (List.mem_of_getElem? (i := 2) (by decide +kernel)) (by decide +kernel)
theorem q3_3 : Cond.methodLink RX8 53 yX5_startAt ∈ lw_all := lw_in3 (List.mem_of_getElem? (i := 3) (by decide +kernel)) (by decide +kernel)
theorem q3_4 : Cond.instanceMethod yX5_startAt ∈ lw_all := lw_in3 (List.mem_of_getElem? (i := 4) (by decide +kernel)) (by decide +kernel)
theorem q3_5 : Cond.selects RX5 yX5_startAt yX5_startAt ∈ lw_all := lw_in3 (List.mem_of_getElem? (i := 5) (by decide +kernel)) (by decide +kernel)
theorem q3_6 : Cond.code yX5_startAt prog_7_method_2_code 2 none ∈ lw_all := lw_in3 (List.mem_of_getElem? (i := 6) (by decide +kernel)) (by decide +kernel)
theorem q3_7 : Cond.methodLink RX5 19 yX5_goTo ∈ lw_all := lw_in3 (List.mem_of_getElem? (i := 7) (by decide +kernel)) (by decide +kernel)
theorem q3_8 : Cond.instanceMethod yX5_goTo ∈ lw_all := lw_in3 (List.mem_of_getElem? (i := 8) (by decide +kernel)) (by decide +kernel)
theorem q3_9 : Cond.selects RX5 yX5_goTo yX5_goTo ∈ lw_all := lw_in3 (List.mem_of_getElem? (i := 9) (by decide +kernel)) (by decide +kernel)
theorem q3_10 : Cond.code yX5_goTo prog_7_method_3_code 2 none ∈ lw_all := lw_in3 (List.mem_of_getElem? (i := 10) (by decide +kernel)) (by decide +kernel)
theorem q3_11 : Cond.methodLink RX8 60 yX0_chordTime ∈ lw_all := lw_in3 (List.mem_of_getElem? (i := 11) (by decide +kernel)) (by decide +kernel)
theorem q3_12 : Cond.static yX0_chordTime ∈ lw_all := lw_in3 (List.mem_of_getElem? (i := 12) (by decide +kernel)) (by decide +kernel)
theorem q3_13 : Cond.code yX0_chordTime prog_2_method_6_code 1 (Option.some FieldType.int) ∈ lw_all := lw_in3 (List.mem_of_getElem? (i := 13) (by decide +kernel)) (by decide +kernel)
theorem q3_14 : Cond.constant RX0 21 (iZ (2000000)) ∈ lw_all := lw_in3 (List.mem_of_getElem? (i := 14) (by decide +kernel)) (by decide +kernel)
theorem q3_15 : Cond.methodLink RX0 22 yJ9_abs_0f7a4 ∈ lw_all := lw_in3 (List.mem_of_getElem? (i := 15) (by decide +kernel)) (by decide +kernel)
theorem q3_16 : Cond.static yJ9_abs_0f7a4 ∈ lw_all := lw_in3 (List.mem_of_getElem? (i := 16) (by decide +kernel)) (by decide +kernel)
theorem q3_17 : Cond.code yJ9_abs_0f7a4 prog_16_method_59_code 1 (Option.some FieldType.int) ∈ lw_all := lw_in3 (List.mem_of_getElem? (i := 17) (by decide +kernel)) (by decide +kernel)
theorem q3_18 : Cond.methodLink RX0 26 yX0_sine ∈ lw_all := lw_in3 (List.mem_of_getElem? (i := 18) (by decide +kernel)) (by decide +kernel)
theorem q3_19 : Cond.static yX0_sine ∈ lw_all := lw_in3 (List.mem_of_getElem? (i := 19) (by decide +kernel)) (by decide +kernel)
theorem q3_20 : Cond.code yX0_sine prog_2_method_5_code 4 (Option.some FieldType.int) ∈ lw_all := lw_in3 (List.mem_of_getElem? (i := 20) (by decide +kernel)) (by decide +kernel)
theorem q3_21 : Cond.constantLong RX0 15 (lZ (16)) ∈ lw_all := lw_in3 (List.mem_of_getElem? (i := 21) (by decide +kernel)) (by decide +kernel)
theorem q3_22 : Cond.constantLong RX0 17 (lZ (3841992000)) ∈ lw_all := lw_in3 (List.mem_of_getElem? (i := 22) (by decide +kernel)) (by decide +kernel)
theorem q3_23 : Cond.constantLong RX0 19 (lZ (4)) ∈ lw_all := lw_in3 (List.mem_of_getElem? (i := 23) (by decide +kernel)) (by decide +kernel)
theorem q3_24 : Cond.methodLink RX8 66 yX8_begin ∈ lw_all := lw_in3 (List.mem_of_getElem? (i := 24) (by decide +kernel)) (by decide +kernel)
theorem q3_26 : Cond.instanceMethod yX8_begin ∈ lw_all := lw_in3 (List.mem_of_getElem? (i := 26) (by decide +kernel)) (by decide +kernel)
theorem q3_27 : Cond.code yX8_begin prog_10_method_3_code 6 none ∈ lw_all := lw_in3 (List.mem_of_getElem? (i := 27) (by decide +kernel)) (by decide +kernel)
theorem q3_28 : Cond.methodLink RX8 78 yX7_start ∈ lw_all := lw_in3 (List.mem_of_getElem? (i := 28) (by decide +kernel)) (by decide +kernel)
theorem q3_29 : Cond.instanceMethod yX7_start ∈ lw_all := lw_in3 (List.mem_of_getElem? (i := 29) (by decide +kernel)) (by decide +kernel)
theorem q3_30 : Cond.selects RX7 yX7_start yX7_start ∈ lw_all := lw_in3 (List.mem_of_getElem? (i := 30) (by decide +kernel)) (by decide +kernel)
theorem q3_31 : Cond.code yX7_start prog_9_method_2_code 6 none ∈ lw_all := lw_in3 (List.mem_of_getElem? (i := 31) (by decide +kernel)) (by decide +kernel)
theorem q3_32 : Cond.methodLink RX8 70 yX8_earliest ∈ lw_all := lw_in3 (List.mem_of_getElem? (i := 32) (by decide +kernel)) (by decide +kernel)
theorem q3_34 : Cond.instanceMethod yX8_earliest ∈ lw_all := lw_in3 (List.mem_of_getElem? (i := 34) (by decide +kernel)) (by decide +kernel)
theorem q3_35 : Cond.code yX8_earliest prog_10_method_4_code 4 (Option.some (FieldType.object "GalleryRays$Ray")) ∈ lw_all := lw_in3 (List.mem_of_getElem? (i := 35) (by decide +kernel)) (by decide +kernel)
theorem q3_36 : Cond.methodLink RX8 74 yX8_meet ∈ lw_all := lw_in3 (List.mem_of_getElem? (i := 36) (by decide +kernel)) (by decide +kernel)
theorem q3_38 : Cond.instanceMethod yX8_meet ∈ lw_all := lw_in3 (List.mem_of_getElem? (i := 38) (by decide +kernel)) (by decide +kernel)
theorem q3_39 : Cond.code yX8_meet prog_10_method_5_code 4 none ∈ lw_all := lw_in3 (List.mem_of_getElem? (i := 39) (by decide +kernel)) (by decide +kernel)
theorem q3_40 : Cond.methodLink RX8 95 yX0_placeAfter ∈ lw_all := lw_in3 (List.mem_of_getElem? (i := 40) (by decide +kernel)) (by decide +kernel)
theorem q3_41 : Cond.static yX0_placeAfter ∈ lw_all := lw_in3 (List.mem_of_getElem? (i := 41) (by decide +kernel)) (by decide +kernel)
theorem q3_42 : Cond.code yX0_placeAfter prog_2_method_4_code 2 (Option.some FieldType.int) ∈ lw_all := lw_in3 (List.mem_of_getElem? (i := 42) (by decide +kernel)) (by decide +kernel)
theorem q3_43 : Cond.methodLink RX0 9 yJ9_floorMod_7cf53 ∈ lw_all := lw_in3 (List.mem_of_getElem? (i := 43) (by decide +kernel)) (by decide +kernel)
theorem q3_44 : Cond.static yJ9_floorMod_7cf53 ∈ lw_all := lw_in3 (List.mem_of_getElem? (i := 44) (by decide +kernel)) (by decide +kernel)
theorem q3_45 : Cond.code yJ9_floorMod_7cf53 prog_16_method_50_code 3 (Option.some FieldType.int) ∈ lw_all := lw_in3 (List.mem_of_getElem? (i := 45) (by decide +kernel)) (by decide +kernel)
theorem q3_46 : Cond.methodLink RX8 99 yX3_note ∈ lw_all := lw_in3 (List.mem_of_getElem? (i := 46) (by decide +kernel)) (by decide +kernel)
theorem q3_47 : Cond.instanceMethod yX3_note ∈ lw_all := lw_in3 (List.mem_of_getElem? (i := 47) (by decide +kernel)) (by decide +kernel)
theorem q3_48 : Cond.selects RX3 yX3_note yX3_note ∈ lw_all := lw_in3 (List.mem_of_getElem? (i := 48) (by decide +kernel)) (by decide +kernel)
theorem q3_49 : Cond.code yX3_note prog_5_method_3_code 3 none ∈ lw_all := lw_in3 (List.mem_of_getElem? (i := 49) (by decide +kernel)) (by decide +kernel)
theorem q3_50 : Cond.methodLink RX8 103 yX6_mark ∈ lw_all := lw_in3 (List.mem_of_getElem? (i := 50) (by decide +kernel)) (by decide +kernel)
theorem q3_51 : Cond.instanceMethod yX6_mark ∈ lw_all := lw_in3 (List.mem_of_getElem? (i := 51) (by decide +kernel)) (by decide +kernel)
theorem q3_52 : Cond.selects RX6 yX6_mark yX6_mark ∈ lw_all := lw_in3 (List.mem_of_getElem? (i := 52) (by decide +kernel)) (by decide +kernel)
theorem q3_53 : Cond.code yX6_mark prog_8_method_3_code 4 none ∈ lw_all := lw_in3 (List.mem_of_getElem? (i := 53) (by decide +kernel)) (by decide +kernel)
theorem q3_54 : Cond.methodLink RX6 19 yX0_isPlace ∈ lw_all := lw_in3 (List.mem_of_getElem? (i := 54) (by decide +kernel)) (by decide +kernel)
theorem q3_55 : Cond.methodLink RX8 109 yX5_goTo ∈ lw_all := lw_in3 (List.mem_of_getElem? (i := 55) (by decide +kernel)) (by decide +kernel)
theorem q3_56 : Cond.methodLink RX8 117 yX7_lose ∈ lw_all := lw_in3 (List.mem_of_getElem? (i := 56) (by decide +kernel)) (by decide +kernel)
theorem q3_57 : Cond.instanceMethod yX7_lose ∈ lw_all := lw_in3 (List.mem_of_getElem? (i := 57) (by decide +kernel)) (by decide +kernel)
theorem q3_58 : Cond.selects RX7 yX7_lose yX7_lose ∈ lw_all := lw_in3 (List.mem_of_getElem? (i := 58) (by decide +kernel)) (by decide +kernel)
theorem q3_59 : Cond.code yX7_lose prog_9_method_3_code 2 none ∈ lw_all := lw_in3 (List.mem_of_getElem? (i := 59) (by decide +kernel)) (by decide +kernel)
theorem q3_60 : Cond.methodLink RX8 129 yX4_covers ∈ lw_all := lw_in3 (List.mem_of_getElem? (i := 60) (by decide +kernel)) (by decide +kernel)
theorem q3_61 : Cond.instanceMethod yX4_covers ∈ lw_all := lw_in3 (List.mem_of_getElem? (i := 61) (by decide +kernel)) (by decide +kernel)
theorem q3_62 : Cond.selects RX4 yX4_covers yX4_covers ∈ lw_all := lw_in3 (List.mem_of_getElem? (i := 62) (by decide +kernel)) (by decide +kernel)
theorem q3_63 : Cond.code yX4_covers prog_6_method_10_code 3 (Option.some FieldType.boolean) ∈ lw_all := lw_in3 (List.mem_of_getElem? (i := 63) (by decide +kernel)) (by decide +kernel)
theorem q3_64 : Cond.methodLink RX4 53 yJ9_floorMod_7cf53 ∈ lw_all := lw_in3 (List.mem_of_getElem? (i := 64) (by decide +kernel)) (by decide +kernel)
theorem q3_65 : Cond.methodLink RX8 133 yX8_act ∈ lw_all := lw_in3 (List.mem_of_getElem? (i := 65) (by decide +kernel)) (by decide +kernel)
theorem q3_67 : Cond.instanceMethod yX8_act ∈ lw_all := lw_in3 (List.mem_of_getElem? (i := 67) (by decide +kernel)) (by decide +kernel)
theorem q3_68 : Cond.code yX8_act prog_10_method_6_code 5 none ∈ lw_all := lw_in3 (List.mem_of_getElem? (i := 68) (by decide +kernel)) (by decide +kernel)
theorem q3_69 : Cond.methodLink RX8 143 yX4_numberOf ∈ lw_all := lw_in3 (List.mem_of_getElem? (i := 69) (by decide +kernel)) (by decide +kernel)
theorem q3_70 : Cond.methodLink RX8 146 yX7_tilt ∈ lw_all := lw_in3 (List.mem_of_getElem? (i := 70) (by decide +kernel)) (by decide +kernel)
theorem q3_71 : Cond.instanceMethod yX7_tilt ∈ lw_all := lw_in3 (List.mem_of_getElem? (i := 71) (by decide +kernel)) (by decide +kernel)
theorem q3_72 : Cond.selects RX7 yX7_tilt yX7_tilt ∈ lw_all := lw_in3 (List.mem_of_getElem? (i := 72) (by decide +kernel)) (by decide +kernel)
theorem q3_73 : Cond.code yX7_tilt prog_9_method_4_code 3 none ∈ lw_all := lw_in3 (List.mem_of_getElem? (i := 73) (by decide +kernel)) (by decide +kernel)
theorem q3_74 : Cond.methodLink RX7 30 yX0_tilted ∈ lw_all := lw_in3 (List.mem_of_getElem? (i := 74) (by decide +kernel)) (by decide +kernel)
theorem q3_75 : Cond.static yX0_tilted ∈ lw_all := lw_in3 (List.mem_of_getElem? (i := 75) (by decide +kernel)) (by decide +kernel)
theorem q3_76 : Cond.code yX0_tilted prog_2_method_9_code 3 (Option.some FieldType.int) ∈ lw_all := lw_in3 (List.mem_of_getElem? (i := 76) (by decide +kernel)) (by decide +kernel)
theorem q3_77 : Cond.methodLink RX8 149 yX8_split ∈ lw_all := lw_in3 (List.mem_of_getElem? (i := 77) (by decide +kernel)) (by decide +kernel)
theorem q3_79 : Cond.instanceMethod yX8_split ∈ lw_all := lw_in3 (List.mem_of_getElem? (i := 79) (by decide +kernel)) (by decide +kernel)
theorem q3_80 : Cond.code yX8_split prog_10_method_7_code 6 none ∈ lw_all := lw_in3 (List.mem_of_getElem? (i := 80) (by decide +kernel)) (by decide +kernel)
theorem q3_81 : Cond.methodLink RX8 160 yX0_tilted ∈ lw_all := lw_in3 (List.mem_of_getElem? (i := 81) (by decide +kernel)) (by decide +kernel)
theorem q3_82 : Cond.methodLink RX8 153 yX1_hear ∈ lw_all := lw_in3 (List.mem_of_getElem? (i := 82) (by decide +kernel)) (by decide +kernel)
theorem q3_83 : Cond.instanceMethod yX1_hear ∈ lw_all := lw_in3 (List.mem_of_getElem? (i := 83) (by decide +kernel)) (by decide +kernel)
theorem q3_84 : Cond.selects RX1 yX1_hear yX1_hear ∈ lw_all := lw_in3 (List.mem_of_getElem? (i := 84) (by decide +kernel)) (by decide +kernel)
theorem q3_85 : Cond.code yX1_hear prog_3_method_3_code 4 none ∈ lw_all := lw_in3 (List.mem_of_getElem? (i := 85) (by decide +kernel)) (by decide +kernel)
theorem q3_86 : Cond.methodLink RX1 30 yJ9_max_f86c9 ∈ lw_all := lw_in3 (List.mem_of_getElem? (i := 86) (by decide +kernel)) (by decide +kernel)
theorem q3_87 : Cond.static yJ9_max_f86c9 ∈ lw_all := lw_in3 (List.mem_of_getElem? (i := 87) (by decide +kernel)) (by decide +kernel)
theorem q3_88 : Cond.code yJ9_max_f86c9 prog_16_method_66_code 4 (Option.some FieldType.long) ∈ lw_all := lw_in3 (List.mem_of_getElem? (i := 88) (by decide +kernel)) (by decide +kernel)
theorem q3_89 : Cond.methodLink RX8 157 yX3_noteEcho ∈ lw_all := lw_in3 (List.mem_of_getElem? (i := 89) (by decide +kernel)) (by decide +kernel)
theorem q3_90 : Cond.instanceMethod yX3_noteEcho ∈ lw_all := lw_in3 (List.mem_of_getElem? (i := 90) (by decide +kernel)) (by decide +kernel)
theorem q3_91 : Cond.selects RX3 yX3_noteEcho yX3_noteEcho ∈ lw_all := lw_in3 (List.mem_of_getElem? (i := 91) (by decide +kernel)) (by decide +kernel)
theorem q3_92 : Cond.code yX3_noteEcho prog_5_method_4_code 2 none ∈ lw_all := lw_in3 (List.mem_of_getElem? (i := 92) (by decide +kernel)) (by decide +kernel)
theorem q3_93 : Cond.methodLink RL 58 yX11_hits ∈ lw_all := lw_in3 (List.mem_of_getElem? (i := 93) (by decide +kernel)) (by decide +kernel)
theorem q3_94 : Cond.instanceMethod yX11_hits ∈ lw_all := lw_in3 (List.mem_of_getElem? (i := 94) (by decide +kernel)) (by decide +kernel)
theorem q3_95 : Cond.selects RX11 yX11_hits yX11_hits ∈ lw_all := lw_in3 (List.mem_of_getElem? (i := 95) (by decide +kernel)) (by decide +kernel)
theorem q3_96 : Cond.code yX11_hits prog_1_method_12_code 1 (Option.some FieldType.int) ∈ lw_all := lw_in3 (List.mem_of_getElem? (i := 96) (by decide +kernel)) (by decide +kernel)
theorem q3_97 : Cond.methodLink RL 62 yX11_hit ∈ lw_all := lw_in3 (List.mem_of_getElem? (i := 97) (by decide +kernel)) (by decide +kernel)
theorem q3_98 : Cond.instanceMethod yX11_hit ∈ lw_all := lw_in3 (List.mem_of_getElem? (i := 98) (by decide +kernel)) (by decide +kernel)
theorem q3_99 : Cond.selects RX11 yX11_hit yX11_hit ∈ lw_all := lw_in3 (List.mem_of_getElem? (i := 99) (by decide +kernel)) (by decide +kernel)
theorem q3_100 : Cond.code yX11_hit prog_1_method_13_code 3 (Option.some FieldType.long) ∈ lw_all := lw_in3 (List.mem_of_getElem? (i := 100) (by decide +kernel)) (by decide +kernel)
theorem q3_101 : Cond.methodLink RX11 116 yX3_numberOf ∈ lw_all := lw_in3 (List.mem_of_getElem? (i := 101) (by decide +kernel)) (by decide +kernel)
theorem q3_102 : Cond.instanceMethod yX3_numberOf ∈ lw_all := lw_in3 (List.mem_of_getElem? (i := 102) (by decide +kernel)) (by decide +kernel)
theorem q3_103 : Cond.selects RX3 yX3_numberOf yX3_numberOf ∈ lw_all := lw_in3 (List.mem_of_getElem? (i := 103) (by decide +kernel)) (by decide +kernel)
theorem q3_104 : Cond.code yX3_numberOf prog_5_method_5_code 3 (Option.some FieldType.long) ∈ lw_all := lw_in3 (List.mem_of_getElem? (i := 104) (by decide +kernel)) (by decide +kernel)
theorem q3_105 : Cond.constantLong RX3 47 (lZ (-100001)) ∈ lw_all := lw_in3 (List.mem_of_getElem? (i := 105) (by decide +kernel)) (by decide +kernel)
theorem q3_106 : Cond.methodLink RL 67 yX11_rays ∈ lw_all := lw_in3 (List.mem_of_getElem? (i := 106) (by decide +kernel)) (by decide +kernel)
theorem q3_107 : Cond.instanceMethod yX11_rays ∈ lw_all := lw_in3 (List.mem_of_getElem? (i := 107) (by decide +kernel)) (by decide +kernel)
theorem q3_108 : Cond.selects RX11 yX11_rays yX11_rays ∈ lw_all := lw_in3 (List.mem_of_getElem? (i := 108) (by decide +kernel)) (by decide +kernel)
theorem q3_109 : Cond.code yX11_rays prog_1_method_14_code 1 (Option.some FieldType.int) ∈ lw_all := lw_in3 (List.mem_of_getElem? (i := 109) (by decide +kernel)) (by decide +kernel)
theorem q3_110 : Cond.methodLink RL 71 yX11_coverage ∈ lw_all := lw_in3 (List.mem_of_getElem? (i := 110) (by decide +kernel)) (by decide +kernel)
theorem q3_111 : Cond.instanceMethod yX11_coverage ∈ lw_all := lw_in3 (List.mem_of_getElem? (i := 111) (by decide +kernel)) (by decide +kernel)
theorem q3_112 : Cond.selects RX11 yX11_coverage yX11_coverage ∈ lw_all := lw_in3 (List.mem_of_getElem? (i := 112) (by decide +kernel)) (by decide +kernel)
theorem q3_113 : Cond.code yX11_coverage prog_1_method_15_code 1 (Option.some FieldType.int) ∈ lw_all := lw_in3 (List.mem_of_getElem? (i := 113) (by decide +kernel)) (by decide +kernel)
theorem q3_114 : Cond.methodLink RL 75 yX11_gap ∈ lw_all := lw_in3 (List.mem_of_getElem? (i := 114) (by decide +kernel)) (by decide +kernel)
theorem q3_115 : Cond.instanceMethod yX11_gap ∈ lw_all := lw_in3 (List.mem_of_getElem? (i := 115) (by decide +kernel)) (by decide +kernel)
theorem q3_116 : Cond.selects RX11 yX11_gap yX11_gap ∈ lw_all := lw_in3 (List.mem_of_getElem? (i := 116) (by decide +kernel)) (by decide +kernel)
theorem q3_117 : Cond.code yX11_gap prog_1_method_16_code 1 (Option.some FieldType.int) ∈ lw_all := lw_in3 (List.mem_of_getElem? (i := 117) (by decide +kernel)) (by decide +kernel)
theorem q3_118 : Cond.methodLink RX11 129 yX6_longestGap ∈ lw_all := lw_in3 (List.mem_of_getElem? (i := 118) (by decide +kernel)) (by decide +kernel)
theorem q3_119 : Cond.instanceMethod yX6_longestGap ∈ lw_all := lw_in3 (List.mem_of_getElem? (i := 119) (by decide +kernel)) (by decide +kernel)
theorem q3_120 : Cond.selects RX6 yX6_longestGap yX6_longestGap ∈ lw_all := lw_in3 (List.mem_of_getElem? (i := 120) (by decide +kernel)) (by decide +kernel)
theorem q3_121 : Cond.code yX6_longestGap prog_8_method_5_code 9 (Option.some FieldType.int) ∈ lw_all := lw_in3 (List.mem_of_getElem? (i := 121) (by decide +kernel)) (by decide +kernel)
theorem q3_122 : Cond.methodLink RX6 31 yX6_lowestBit ∈ lw_all := lw_in3 (List.mem_of_getElem? (i := 122) (by decide +kernel)) (by decide +kernel)
theorem q3_123 : Cond.static yX6_lowestBit ∈ lw_all := lw_in3 (List.mem_of_getElem? (i := 123) (by decide +kernel)) (by decide +kernel)
theorem q3_124 : Cond.code yX6_lowestBit prog_8_method_4_code 2 (Option.some FieldType.int) ∈ lw_all := lw_in3 (List.mem_of_getElem? (i := 124) (by decide +kernel)) (by decide +kernel)
theorem q3_125 : Cond.methodLink RX6 25 yJ13_bitCount_95d88 ∈ lw_all := lw_in3 (List.mem_of_getElem? (i := 125) (by decide +kernel)) (by decide +kernel)
theorem q3_126 : Cond.static yJ13_bitCount_95d88 ∈ lw_all := lw_in3 (List.mem_of_getElem? (i := 126) (by decide +kernel)) (by decide +kernel)
theorem q3_127 : Cond.code yJ13_bitCount_95d88 prog_15_method_50_code 2 (Option.some FieldType.int) ∈ lw_all := lw_in3 (List.mem_of_getElem? (i := 127) (by decide +kernel)) (by decide +kernel)
theorem q3_128 : Cond.constantLong RJ13 314 (lZ (6148914691236517205)) ∈ lw_all := lw_in3 (List.mem_of_getElem? (i := 128) (by decide +kernel)) (by decide +kernel)
theorem q3_129 : Cond.constantLong RJ13 316 (lZ (3689348814741910323)) ∈ lw_all := lw_in3 (List.mem_of_getElem? (i := 129) (by decide +kernel)) (by decide +kernel)
theorem q3_130 : Cond.constantLong RJ13 318 (lZ (1085102592571150095)) ∈ lw_all := lw_in3 (List.mem_of_getElem? (i := 130) (by decide +kernel)) (by decide +kernel)
theorem q3_131 : Cond.methodLink RX6 34 yJ9_max_7cf53 ∈ lw_all := lw_in3 (List.mem_of_getElem? (i := 131) (by decide +kernel)) (by decide +kernel)
theorem q3_132 : Cond.methodLink RL 79 yX11_heard ∈ lw_all := lw_in3 (List.mem_of_getElem? (i := 132) (by decide +kernel)) (by decide +kernel)
theorem q3_133 : Cond.instanceMethod yX11_heard ∈ lw_all := lw_in3 (List.mem_of_getElem? (i := 133) (by decide +kernel)) (by decide +kernel)
theorem q3_134 : Cond.selects RX11 yX11_heard yX11_heard ∈ lw_all := lw_in3 (List.mem_of_getElem? (i := 134) (by decide +kernel)) (by decide +kernel)
theorem q3_135 : Cond.code yX11_heard prog_1_method_17_code 3 (Option.some FieldType.long) ∈ lw_all := lw_in3 (List.mem_of_getElem? (i := 135) (by decide +kernel)) (by decide +kernel)
theorem q3_136 : Cond.methodLink RX11 136 yX1_numberOf ∈ lw_all := lw_in3 (List.mem_of_getElem? (i := 136) (by decide +kernel)) (by decide +kernel)
theorem q3_137 : Cond.instanceMethod yX1_numberOf ∈ lw_all := lw_in3 (List.mem_of_getElem? (i := 137) (by decide +kernel)) (by decide +kernel)
theorem q3_138 : Cond.selects RX1 yX1_numberOf yX1_numberOf ∈ lw_all := lw_in3 (List.mem_of_getElem? (i := 138) (by decide +kernel)) (by decide +kernel)
theorem q3_139 : Cond.code yX1_numberOf prog_3_method_4_code 3 (Option.some FieldType.long) ∈ lw_all := lw_in3 (List.mem_of_getElem? (i := 139) (by decide +kernel)) (by decide +kernel)
theorem q3_140 : Cond.constantLong RX1 36 (lZ (-100001)) ∈ lw_all := lw_in3 (List.mem_of_getElem? (i := 140) (by decide +kernel)) (by decide +kernel)
theorem q3_141 : Cond.methodLink RL 83 yX11_echo ∈ lw_all := lw_in3 (List.mem_of_getElem? (i := 141) (by decide +kernel)) (by decide +kernel)
theorem q3_142 : Cond.instanceMethod yX11_echo ∈ lw_all := lw_in3 (List.mem_of_getElem? (i := 142) (by decide +kernel)) (by decide +kernel)
theorem q3_143 : Cond.selects RX11 yX11_echo yX11_echo ∈ lw_all := lw_in3 (List.mem_of_getElem? (i := 143) (by decide +kernel)) (by decide +kernel)
theorem q3_144 : Cond.code yX11_echo prog_1_method_18_code 2 (Option.some FieldType.int) ∈ lw_all := lw_in3 (List.mem_of_getElem? (i := 144) (by decide +kernel)) (by decide +kernel)
theorem q3_145 : Cond.methodLink RX11 139 yX3_echoAt ∈ lw_all := lw_in3 (List.mem_of_getElem? (i := 145) (by decide +kernel)) (by decide +kernel)
theorem q3_146 : Cond.instanceMethod yX3_echoAt ∈ lw_all := lw_in3 (List.mem_of_getElem? (i := 146) (by decide +kernel)) (by decide +kernel)
theorem q3_147 : Cond.selects RX3 yX3_echoAt yX3_echoAt ∈ lw_all := lw_in3 (List.mem_of_getElem? (i := 147) (by decide +kernel)) (by decide +kernel)
theorem q3_148 : Cond.code yX3_echoAt prog_5_method_6_code 2 (Option.some FieldType.int) ∈ lw_all := lw_in3 (List.mem_of_getElem? (i := 148) (by decide +kernel)) (by decide +kernel)
theorem q3_149 : Cond.constant RX3 49 (iZ (-100001)) ∈ lw_all := lw_in3 (List.mem_of_getElem? (i := 149) (by decide +kernel)) (by decide +kernel)
theorem q3_150 : Cond.constant RX3 50 (iZ (-100009)) ∈ lw_all := lw_in3 (List.mem_of_getElem? (i := 150) (by decide +kernel)) (by decide +kernel)
theorem q3_151 : Cond.methodLink RL 87 yX11_mean ∈ lw_all := lw_in3 (List.mem_of_getElem? (i := 151) (by decide +kernel)) (by decide +kernel)
theorem q3_152 : Cond.instanceMethod yX11_mean ∈ lw_all := lw_in3 (List.mem_of_getElem? (i := 152) (by decide +kernel)) (by decide +kernel)
theorem q3_153 : Cond.selects RX11 yX11_mean yX11_mean ∈ lw_all := lw_in3 (List.mem_of_getElem? (i := 153) (by decide +kernel)) (by decide +kernel)
theorem q3_154 : Cond.code yX11_mean prog_1_method_19_code 1 (Option.some FieldType.float) ∈ lw_all := lw_in3 (List.mem_of_getElem? (i := 154) (by decide +kernel)) (by decide +kernel)
theorem q3_155 : Cond.methodLink RX11 143 yX3_meanEnergy ∈ lw_all := lw_in3 (List.mem_of_getElem? (i := 155) (by decide +kernel)) (by decide +kernel)
theorem q3_156 : Cond.instanceMethod yX3_meanEnergy ∈ lw_all := lw_in3 (List.mem_of_getElem? (i := 156) (by decide +kernel)) (by decide +kernel)
theorem q3_157 : Cond.selects RX3 yX3_meanEnergy yX3_meanEnergy ∈ lw_all := lw_in3 (List.mem_of_getElem? (i := 157) (by decide +kernel)) (by decide +kernel)
theorem q3_158 : Cond.code yX3_meanEnergy prog_5_method_7_code 1 (Option.some FieldType.float) ∈ lw_all := lw_in3 (List.mem_of_getElem? (i := 158) (by decide +kernel)) (by decide +kernel)
theorem q3_159 : Cond.methodLink RL 92 yX11_crossings ∈ lw_all := lw_in3 (List.mem_of_getElem? (i := 159) (by decide +kernel)) (by decide +kernel)
theorem q3_160 : Cond.instanceMethod yX11_crossings ∈ lw_all := lw_in3 (List.mem_of_getElem? (i := 160) (by decide +kernel)) (by decide +kernel)
theorem q3_161 : Cond.selects RX11 yX11_crossings yX11_crossings ∈ lw_all := lw_in3 (List.mem_of_getElem? (i := 161) (by decide +kernel)) (by decide +kernel)
theorem q3_162 : Cond.code yX11_crossings prog_1_method_20_code 2 (Option.some FieldType.int) ∈ lw_all := lw_in3 (List.mem_of_getElem? (i := 162) (by decide +kernel)) (by decide +kernel)
theorem q3_163 : Cond.methodLink RX11 151 yX5_crossingPairs ∈ lw_all := lw_in3 (List.mem_of_getElem? (i := 163) (by decide +kernel)) (by decide +kernel)
theorem q3_164 : Cond.instanceMethod yX5_crossingPairs ∈ lw_all := lw_in3 (List.mem_of_getElem? (i := 164) (by decide +kernel)) (by decide +kernel)
theorem q3_165 : Cond.selects RX5 yX5_crossingPairs yX5_crossingPairs ∈ lw_all := lw_in3 (List.mem_of_getElem? (i := 165) (by decide +kernel)) (by decide +kernel)
theorem q3_166 : Cond.code yX5_crossingPairs prog_7_method_4_code 6 (Option.some FieldType.int) ∈ lw_all := lw_in3 (List.mem_of_getElem? (i := 166) (by decide +kernel)) (by decide +kernel)
theorem q3_167 : Cond.methodLink RX5 23 yJ9_min_7cf53 ∈ lw_all := lw_in3 (List.mem_of_getElem? (i := 167) (by decide +kernel)) (by decide +kernel)
theorem q3_168 : Cond.static yJ9_min_7cf53 ∈ lw_all := lw_in3 (List.mem_of_getElem? (i := 168) (by decide +kernel)) (by decide +kernel)
theorem q3_169 : Cond.code yJ9_min_7cf53 prog_16_method_69_code 2 (Option.some FieldType.int) ∈ lw_all := lw_in3 (List.mem_of_getElem? (i := 169) (by decide +kernel)) (by decide +kernel)
theorem q3_170 : Cond.methodLink RX5 29 yX5_cross ∈ lw_all := lw_in3 (List.mem_of_getElem? (i := 170) (by decide +kernel)) (by decide +kernel)
theorem q3_171 : Cond.static yX5_cross ∈ lw_all := lw_in3 (List.mem_of_getElem? (i := 171) (by decide +kernel)) (by decide +kernel)
theorem q3_172 : Cond.code yX5_cross prog_7_method_5_code 6 (Option.some FieldType.boolean) ∈ lw_all := lw_in3 (List.mem_of_getElem? (i := 172) (by decide +kernel)) (by decide +kernel)
theorem q3_173 : Cond.methodLink RX5 33 yJ9_max_7cf53 ∈ lw_all := lw_in3 (List.mem_of_getElem? (i := 173) (by decide +kernel)) (by decide +kernel)
theorem q3_174 : Cond.methodLink RX5 36 yX5_isBetween ∈ lw_all := lw_in3 (List.mem_of_getElem? (i := 174) (by decide +kernel)) (by decide +kernel)
theorem q3_175 : Cond.static yX5_isBetween ∈ lw_all := lw_in3 (List.mem_of_getElem? (i := 175) (by decide +kernel)) (by decide +kernel)
theorem q3_176 : Cond.code yX5_isBetween prog_7_method_6_code 3 (Option.some FieldType.boolean) ∈ lw_all := lw_in3 (List.mem_of_getElem? (i := 176) (by decide +kernel)) (by decide +kernel)
theorem q3_177 : Cond.methodLink RX5 40 yX5_isBeyond ∈ lw_all := lw_in3 (List.mem_of_getElem? (i := 177) (by decide +kernel)) (by decide +kernel)
theorem q3_178 : Cond.static yX5_isBeyond ∈ lw_all := lw_in3 (List.mem_of_getElem? (i := 178) (by decide +kernel)) (by decide +kernel)
theorem q3_179 : Cond.code yX5_isBeyond prog_7_method_7_code 3 (Option.some FieldType.boolean) ∈ lw_all := lw_in3 (List.mem_of_getElem? (i := 179) (by decide +kernel)) (by decide +kernel)
theorem q3_180 : Cond.methodLink RL 96 yX11_time ∈ lw_all := lw_in3 (List.mem_of_getElem? (i := 180) (by decide +kernel)) (by decide +kernel)
theorem q3_181 : Cond.instanceMethod yX11_time ∈ lw_all := lw_in3 (List.mem_of_getElem? (i := 181) (by decide +kernel)) (by decide +kernel)
theorem q3_182 : Cond.selects RX11 yX11_time yX11_time ∈ lw_all := lw_in3 (List.mem_of_getElem? (i := 182) (by decide +kernel)) (by decide +kernel)
theorem q3_183 : Cond.code yX11_time prog_1_method_21_code 2 (Option.some FieldType.int) ∈ lw_all := lw_in3 (List.mem_of_getElem? (i := 183) (by decide +kernel)) (by decide +kernel)
theorem q3_184 : Cond.methodLink RX11 156 yX0_chordTime ∈ lw_all := lw_in3 (List.mem_of_getElem? (i := 184) (by decide +kernel)) (by decide +kernel)
theorem q3_185 : Cond.methodLink RL 100 yX11_caustic ∈ lw_all := lw_in3 (List.mem_of_getElem? (i := 185) (by decide +kernel)) (by decide +kernel)
theorem q3_186 : Cond.instanceMethod yX11_caustic ∈ lw_all := lw_in3 (List.mem_of_getElem? (i := 186) (by decide +kernel)) (by decide +kernel)
theorem q3_187 : Cond.selects RX11 yX11_caustic yX11_caustic ∈ lw_all := lw_in3 (List.mem_of_getElem? (i := 187) (by decide +kernel)) (by decide +kernel)
theorem q3_188 : Cond.code yX11_caustic prog_1_method_22_code 2 (Option.some FieldType.int) ∈ lw_all := lw_in3 (List.mem_of_getElem? (i := 188) (by decide +kernel)) (by decide +kernel)
theorem q3_189 : Cond.methodLink RX11 159 yX0_causticRadius ∈ lw_all := lw_in3 (List.mem_of_getElem? (i := 189) (by decide +kernel)) (by decide +kernel)
theorem q3_190 : Cond.static yX0_causticRadius ∈ lw_all := lw_in3 (List.mem_of_getElem? (i := 190) (by decide +kernel)) (by decide +kernel)
theorem q3_191 : Cond.code yX0_causticRadius prog_2_method_7_code 1 (Option.some FieldType.int) ∈ lw_all := lw_in3 (List.mem_of_getElem? (i := 191) (by decide +kernel)) (by decide +kernel)
theorem q3_192 : Cond.constant RX0 31 (iZ (1000000)) ∈ lw_all := lw_in3 (List.mem_of_getElem? (i := 192) (by decide +kernel)) (by decide +kernel)
theorem q3_193 : Cond.methodLink RL 104 yX11_order ∈ lw_all := lw_in3 (List.mem_of_getElem? (i := 193) (by decide +kernel)) (by decide +kernel)
theorem q3_194 : Cond.instanceMethod yX11_order ∈ lw_all := lw_in3 (List.mem_of_getElem? (i := 194) (by decide +kernel)) (by decide +kernel)
theorem q3_195 : Cond.selects RX11 yX11_order yX11_order ∈ lw_all := lw_in3 (List.mem_of_getElem? (i := 195) (by decide +kernel)) (by decide +kernel)
theorem q3_196 : Cond.code yX11_order prog_1_method_23_code 2 (Option.some FieldType.int) ∈ lw_all := lw_in3 (List.mem_of_getElem? (i := 196) (by decide +kernel)) (by decide +kernel)
theorem q3_197 : Cond.methodLink RX11 162 yX0_sharedDivisor ∈ lw_all := lw_in3 (List.mem_of_getElem? (i := 197) (by decide +kernel)) (by decide +kernel)
theorem q3_198 : Cond.static yX0_sharedDivisor ∈ lw_all := lw_in3 (List.mem_of_getElem? (i := 198) (by decide +kernel)) (by decide +kernel)
theorem q3_199 : Cond.code yX0_sharedDivisor prog_2_method_8_code 5 (Option.some FieldType.int) ∈ lw_all := lw_in3 (List.mem_of_getElem? (i := 199) (by decide +kernel)) (by decide +kernel)
theorem q3_200 : Cond.methodLink RL 108 yX11_turns ∈ lw_all := lw_in3 (List.mem_of_getElem? (i := 200) (by decide +kernel)) (by decide +kernel)
theorem q3_201 : Cond.instanceMethod yX11_turns ∈ lw_all := lw_in3 (List.mem_of_getElem? (i := 201) (by decide +kernel)) (by decide +kernel)
theorem q3_202 : Cond.selects RX11 yX11_turns yX11_turns ∈ lw_all := lw_in3 (List.mem_of_getElem? (i := 202) (by decide +kernel)) (by decide +kernel)
theorem q3_203 : Cond.code yX11_turns prog_1_method_24_code 2 (Option.some FieldType.int) ∈ lw_all := lw_in3 (List.mem_of_getElem? (i := 203) (by decide +kernel)) (by decide +kernel)
theorem q3_204 : Cond.methodLink RX11 165 yJ9_abs_0f7a4 ∈ lw_all := lw_in3 (List.mem_of_getElem? (i := 204) (by decide +kernel)) (by decide +kernel)
theorem q3_205 : Cond.methodLink RL 112 yX11_aim ∈ lw_all := lw_in3 (List.mem_of_getElem? (i := 205) (by decide +kernel)) (by decide +kernel)
theorem q3_206 : Cond.instanceMethod yX11_aim ∈ lw_all := lw_in3 (List.mem_of_getElem? (i := 206) (by decide +kernel)) (by decide +kernel)
theorem q3_207 : Cond.selects RX11 yX11_aim yX11_aim ∈ lw_all := lw_in3 (List.mem_of_getElem? (i := 207) (by decide +kernel)) (by decide +kernel)
theorem q3_208 : Cond.code yX11_aim prog_1_method_25_code 5 (Option.some FieldType.int) ∈ lw_all := lw_in3 (List.mem_of_getElem? (i := 208) (by decide +kernel)) (by decide +kernel)
theorem q3_209 : Cond.methodLink RX11 170 yX0_smallestStep ∈ lw_all := lw_in3 (List.mem_of_getElem? (i := 209) (by decide +kernel)) (by decide +kernel)
theorem q3_210 : Cond.static yX0_smallestStep ∈ lw_all := lw_in3 (List.mem_of_getElem? (i := 210) (by decide +kernel)) (by decide +kernel)
theorem q3_211 : Cond.code yX0_smallestStep prog_2_method_10_code 5 (Option.some FieldType.int) ∈ lw_all := lw_in3 (List.mem_of_getElem? (i := 211) (by decide +kernel)) (by decide +kernel)
theorem q3_212 : Cond.methodLink RX0 32 yX0_isStep ∈ lw_all := lw_in3 (List.mem_of_getElem? (i := 212) (by decide +kernel)) (by decide +kernel)
theorem q3_213 : Cond.methodLink RX0 36 yX0_isBetter ∈ lw_all := lw_in3 (List.mem_of_getElem? (i := 213) (by decide +kernel)) (by decide +kernel)
theorem q3_214 : Cond.static yX0_isBetter ∈ lw_all := lw_in3 (List.mem_of_getElem? (i := 214) (by decide +kernel)) (by decide +kernel)
theorem q3_215 : Cond.code yX0_isBetter prog_2_method_11_code 4 (Option.some FieldType.boolean) ∈ lw_all := lw_in3 (List.mem_of_getElem? (i := 215) (by decide +kernel)) (by decide +kernel)
theorem q3_216 : Cond.constant RX11 173 (iZ (-100009)) ∈ lw_all := lw_in3 (List.mem_of_getElem? (i := 216) (by decide +kernel)) (by decide +kernel)
theorem q3_217 : Cond.methodLink RL 116 yX11_widest ∈ lw_all := lw_in3 (List.mem_of_getElem? (i := 217) (by decide +kernel)) (by decide +kernel)
theorem q3_218 : Cond.instanceMethod yX11_widest ∈ lw_all := lw_in3 (List.mem_of_getElem? (i := 218) (by decide +kernel)) (by decide +kernel)
theorem q3_219 : Cond.selects RX11 yX11_widest yX11_widest ∈ lw_all := lw_in3 (List.mem_of_getElem? (i := 219) (by decide +kernel)) (by decide +kernel)
theorem q3_220 : Cond.code yX11_widest prog_1_method_26_code 2 (Option.some FieldType.int) ∈ lw_all := lw_in3 (List.mem_of_getElem? (i := 220) (by decide +kernel)) (by decide +kernel)
theorem q3_221 : Cond.methodLink RL 120 yX11_undo ∈ lw_all := lw_in3 (List.mem_of_getElem? (i := 221) (by decide +kernel)) (by decide +kernel)
theorem q3_222 : Cond.instanceMethod yX11_undo ∈ lw_all := lw_in3 (List.mem_of_getElem? (i := 222) (by decide +kernel)) (by decide +kernel)
theorem q3_223 : Cond.selects RX11 yX11_undo yX11_undo ∈ lw_all := lw_in3 (List.mem_of_getElem? (i := 223) (by decide +kernel)) (by decide +kernel)
theorem q3_224 : Cond.code yX11_undo prog_1_method_27_code 1 (Option.some FieldType.int) ∈ lw_all := lw_in3 (List.mem_of_getElem? (i := 224) (by decide +kernel)) (by decide +kernel)
theorem q3_225 : Cond.methodLink RX11 175 yX2_restore ∈ lw_all := lw_in3 (List.mem_of_getElem? (i := 225) (by decide +kernel)) (by decide +kernel)
theorem q3_226 : Cond.instanceMethod yX2_restore ∈ lw_all := lw_in3 (List.mem_of_getElem? (i := 226) (by decide +kernel)) (by decide +kernel)
theorem q3_227 : Cond.selects RX2 yX2_restore yX2_restore ∈ lw_all := lw_in3 (List.mem_of_getElem? (i := 227) (by decide +kernel)) (by decide +kernel)
theorem q3_228 : Cond.code yX2_restore prog_4_method_4_code 2 none ∈ lw_all := lw_in3 (List.mem_of_getElem? (i := 228) (by decide +kernel)) (by decide +kernel)
theorem q3_229 : Cond.methodLink RL 124 yX11_fingerprint ∈ lw_all := lw_in3 (List.mem_of_getElem? (i := 229) (by decide +kernel)) (by decide +kernel)
theorem q3_230 : Cond.instanceMethod yX11_fingerprint ∈ lw_all := lw_in3 (List.mem_of_getElem? (i := 230) (by decide +kernel)) (by decide +kernel)
theorem q3_231 : Cond.selects RX11 yX11_fingerprint yX11_fingerprint ∈ lw_all := lw_in3 (List.mem_of_getElem? (i := 231) (by decide +kernel)) (by decide +kernel)
theorem q3_232 : Cond.code yX11_fingerprint prog_1_method_28_code 5 (Option.some FieldType.long) ∈ lw_all := lw_in3 (List.mem_of_getElem? (i := 232) (by decide +kernel)) (by decide +kernel)
theorem q3_233 : Cond.constantLong RX11 178 (lZ (127)) ∈ lw_all := lw_in3 (List.mem_of_getElem? (i := 233) (by decide +kernel)) (by decide +kernel)
theorem q3_234 : Cond.methodLink RX11 180 yX11_parts ∈ lw_all := lw_in3 (List.mem_of_getElem? (i := 234) (by decide +kernel)) (by decide +kernel)
theorem q3_235 : Cond.methodLink RX11 182 yX11_mixed ∈ lw_all := lw_in3 (List.mem_of_getElem? (i := 235) (by decide +kernel)) (by decide +kernel)
theorem q3_236 : Cond.static yX11_mixed ∈ lw_all := lw_in3 (List.mem_of_getElem? (i := 236) (by decide +kernel)) (by decide +kernel)
theorem q3_237 : Cond.code yX11_mixed prog_1_method_29_code 4 (Option.some FieldType.long) ∈ lw_all := lw_in3 (List.mem_of_getElem? (i := 237) (by decide +kernel)) (by decide +kernel)
theorem q3_238 : Cond.constantLong RX11 204 (lZ (31)) ∈ lw_all := lw_in3 (List.mem_of_getElem? (i := 238) (by decide +kernel)) (by decide +kernel)
theorem q3_239 : Cond.methodLink RX11 186 yX11_part ∈ lw_all := lw_in3 (List.mem_of_getElem? (i := 239) (by decide +kernel)) (by decide +kernel)
theorem q4_0 : Cond.methodLink RX11 189 yX11_hits ∈ lw_all := lw_in4 (List.mem_of_getElem? (i := 0) (by decide +kernel)) (by decide +kernel)
theorem q4_1 : Cond.methodLink RX11 192 yX11_rays ∈ lw_all := lw_in4 (List.mem_of_getElem? (i := 1) (by decide +kernel)) (by decide +kernel)
theorem q4_2 : Cond.methodLink RX11 195 yX11_coverage ∈ lw_all := lw_in4 (List.mem_of_getElem? (i := 2) (by decide +kernel)) (by decide +kernel)
theorem q4_3 : Cond.methodLink RX11 198 yX11_hit ∈ lw_all := lw_in4 (List.mem_of_getElem? (i := 3) (by decide +kernel)) (by decide +kernel)
theorem q4_4 : Cond.methodLink RX11 201 yX11_heard ∈ lw_all := lw_in4 (List.mem_of_getElem? (i := 4) (by decide +kernel)) (by decide +kernel)
theorem q4_5 : Cond.classLink RL 10 RX12 ∈ lw_all := lw_in4 (List.mem_of_getElem? (i := 5) (by decide +kernel)) (by decide +kernel)
theorem q4_6 : Cond.instantiable RX12 27 ∈ lw_all := lw_in4 (List.mem_of_getElem? (i := 6) (by decide +kernel)) (by decide +kernel)
theorem q4_7 : Cond.methodLink RL 12 yX12_init ∈ lw_all := lw_in4 (List.mem_of_getElem? (i := 7) (by decide +kernel)) (by decide +kernel)
theorem q4_8 : Cond.instanceMethod yX12_init ∈ lw_all := lw_in4 (List.mem_of_getElem? (i := 8) (by decide +kernel)) (by decide +kernel)
theorem q4_9 : Cond.code yX12_init prog_14_method_1_code 1 none ∈ lw_all := lw_in4 (List.mem_of_getElem? (i := 9) (by decide +kernel)) (by decide +kernel)
theorem q4_10 : Cond.methodLink RX12 1 objectInit ∈ lw_all := lw_in4 (List.mem_of_getElem? (i := 10) (by decide +kernel)) (by decide +kernel)
theorem q4_11 : Cond.fieldLink RX12 7 "GalleryRaysModel" "v" "[I" ∈ lw_all := lw_in4 (List.mem_of_getElem? (i := 11) (by decide +kernel)) (by decide +kernel)
theorem q4_12 : Cond.fieldLink RX12 13 "GalleryRaysModel" "past" "[I" ∈ lw_all := lw_in4 (List.mem_of_getElem? (i := 12) (by decide +kernel)) (by decide +kernel)
theorem q4_13 : Cond.fieldLink RX12 66 "GalleryRaysModel" "pastMany" "I" ∈ lw_all := lw_in4 (List.mem_of_getElem? (i := 13) (by decide +kernel)) (by decide +kernel)
theorem q4_14 : Cond.fieldLink RX12 16 "GalleryRaysModel" "text" "[I" ∈ lw_all := lw_in4 (List.mem_of_getElem? (i := 14) (by decide +kernel)) (by decide +kernel)
theorem q4_15 : Cond.fieldLink RX12 96 "GalleryRaysModel" "typed" "I" ∈ lw_all := lw_in4 (List.mem_of_getElem? (i := 15) (by decide +kernel)) (by decide +kernel)
theorem q4_16 : Cond.fieldLink RX12 99 "GalleryRaysModel" "at" "I" ∈ lw_all := lw_in4 (List.mem_of_getElem? (i := 16) (by decide +kernel)) (by decide +kernel)
theorem q4_17 : Cond.fieldLink RX12 113 "GalleryRaysModel" "found" "I" ∈ lw_all := lw_in4 (List.mem_of_getElem? (i := 17) (by decide +kernel)) (by decide +kernel)
theorem q4_18 : Cond.fieldLink RX12 116 "GalleryRaysModel" "wrong" "I" ∈ lw_all := lw_in4 (List.mem_of_getElem? (i := 18) (by decide +kernel)) (by decide +kernel)
theorem q4_19 : Cond.fieldLink RX12 19 "GalleryRaysModel" "kinds" "[I" ∈ lw_all := lw_in4 (List.mem_of_getElem? (i := 19) (by decide +kernel)) (by decide +kernel)
theorem q4_20 : Cond.fieldLink RX12 22 "GalleryRaysModel" "numbers" "[I" ∈ lw_all := lw_in4 (List.mem_of_getElem? (i := 20) (by decide +kernel)) (by decide +kernel)
theorem q4_21 : Cond.fieldLink RX12 25 "GalleryRaysModel" "rayPlace" "[I" ∈ lw_all := lw_in4 (List.mem_of_getElem? (i := 21) (by decide +kernel)) (by decide +kernel)
theorem q4_22 : Cond.fieldLink RX12 28 "GalleryRaysModel" "rayTime" "[J" ∈ lw_all := lw_in4 (List.mem_of_getElem? (i := 22) (by decide +kernel)) (by decide +kernel)
theorem q4_23 : Cond.fieldLink RX12 32 "GalleryRaysModel" "rayEnergy" "[I" ∈ lw_all := lw_in4 (List.mem_of_getElem? (i := 23) (by decide +kernel)) (by decide +kernel)
theorem q4_24 : Cond.fieldLink RX12 35 "GalleryRaysModel" "rayStep" "[I" ∈ lw_all := lw_in4 (List.mem_of_getElem? (i := 24) (by decide +kernel)) (by decide +kernel)
theorem q4_25 : Cond.fieldLink RX12 38 "GalleryRaysModel" "isLive" "[Z" ∈ lw_all := lw_in4 (List.mem_of_getElem? (i := 25) (by decide +kernel)) (by decide +kernel)
theorem q4_26 : Cond.fieldLink RX12 169 "GalleryRaysModel" "rayMany" "I" ∈ lw_all := lw_in4 (List.mem_of_getElem? (i := 26) (by decide +kernel)) (by decide +kernel)
theorem q4_27 : Cond.fieldLink RX12 42 "GalleryRaysModel" "hits" "[J" ∈ lw_all := lw_in4 (List.mem_of_getElem? (i := 27) (by decide +kernel)) (by decide +kernel)
theorem q4_28 : Cond.fieldLink RX12 45 "GalleryRaysModel" "isEcho" "[Z" ∈ lw_all := lw_in4 (List.mem_of_getElem? (i := 28) (by decide +kernel)) (by decide +kernel)
theorem q4_29 : Cond.fieldLink RX12 172 "GalleryRaysModel" "hitMany" "I" ∈ lw_all := lw_in4 (List.mem_of_getElem? (i := 29) (by decide +kernel)) (by decide +kernel)
theorem q4_30 : Cond.fieldLink RX12 48 "GalleryRaysModel" "heardMany" "[I" ∈ lw_all := lw_in4 (List.mem_of_getElem? (i := 30) (by decide +kernel)) (by decide +kernel)
theorem q4_31 : Cond.fieldLink RX12 51 "GalleryRaysModel" "heardSum" "[J" ∈ lw_all := lw_in4 (List.mem_of_getElem? (i := 31) (by decide +kernel)) (by decide +kernel)
theorem q4_32 : Cond.fieldLink RX12 54 "GalleryRaysModel" "heardFirst" "[J" ∈ lw_all := lw_in4 (List.mem_of_getElem? (i := 32) (by decide +kernel)) (by decide +kernel)
theorem q4_33 : Cond.fieldLink RX12 57 "GalleryRaysModel" "heardMost" "[I" ∈ lw_all := lw_in4 (List.mem_of_getElem? (i := 33) (by decide +kernel)) (by decide +kernel)
theorem q4_34 : Cond.fieldLink RX12 194 "GalleryRaysModel" "shots" "I" ∈ lw_all := lw_in4 (List.mem_of_getElem? (i := 34) (by decide +kernel)) (by decide +kernel)
theorem q4_35 : Cond.fieldLink RX12 197 "GalleryRaysModel" "begin" "I" ∈ lw_all := lw_in4 (List.mem_of_getElem? (i := 35) (by decide +kernel)) (by decide +kernel)
theorem q4_36 : Cond.fieldLink RX12 60 "GalleryRaysModel" "isHit" "[Z" ∈ lw_all := lw_in4 (List.mem_of_getElem? (i := 36) (by decide +kernel)) (by decide +kernel)
theorem q4_37 : Cond.fieldLink RX12 63 "GalleryRaysModel" "ends" "[I" ∈ lw_all := lw_in4 (List.mem_of_getElem? (i := 37) (by decide +kernel)) (by decide +kernel)
theorem q4_38 : Cond.laysFinal "GalleryRaysModel" "GalleryRaysModel" "v" "[I" ∈ lw_all := lw_in4 (List.mem_of_getElem? (i := 38) (by decide +kernel)) (by decide +kernel)
theorem q4_40 : Cond.laysFinal "GalleryRaysModel" "GalleryRaysModel" "past" "[I" ∈ lw_all := lw_in4 (List.mem_of_getElem? (i := 40) (by decide +kernel)) (by decide +kernel)
theorem q4_42 : Cond.lays "GalleryRaysModel" "GalleryRaysModel" "pastMany" "I" ∈ lw_all := lw_in4 (List.mem_of_getElem? (i := 42) (by decide +kernel)) (by decide +kernel)
theorem q4_44 : Cond.laysFinal "GalleryRaysModel" "GalleryRaysModel" "text" "[I" ∈ lw_all := lw_in4 (List.mem_of_getElem? (i := 44) (by decide +kernel)) (by decide +kernel)
theorem q4_46 : Cond.lays "GalleryRaysModel" "GalleryRaysModel" "typed" "I" ∈ lw_all := lw_in4 (List.mem_of_getElem? (i := 46) (by decide +kernel)) (by decide +kernel)
theorem q4_48 : Cond.lays "GalleryRaysModel" "GalleryRaysModel" "at" "I" ∈ lw_all := lw_in4 (List.mem_of_getElem? (i := 48) (by decide +kernel)) (by decide +kernel)
theorem q4_50 : Cond.lays "GalleryRaysModel" "GalleryRaysModel" "found" "I" ∈ lw_all := lw_in4 (List.mem_of_getElem? (i := 50) (by decide +kernel)) (by decide +kernel)
theorem q4_52 : Cond.lays "GalleryRaysModel" "GalleryRaysModel" "wrong" "I" ∈ lw_all := lw_in4 (List.mem_of_getElem? (i := 52) (by decide +kernel)) (by decide +kernel)
theorem q4_54 : Cond.laysFinal "GalleryRaysModel" "GalleryRaysModel" "kinds" "[I" ∈ lw_all := lw_in4 (List.mem_of_getElem? (i := 54) (by decide +kernel)) (by decide +kernel)
theorem q4_56 : Cond.laysFinal "GalleryRaysModel" "GalleryRaysModel" "numbers" "[I" ∈ lw_all := lw_in4 (List.mem_of_getElem? (i := 56) (by decide +kernel)) (by decide +kernel)
theorem q4_58 : Cond.laysFinal "GalleryRaysModel" "GalleryRaysModel" "rayPlace" "[I" ∈ lw_all := lw_in4 (List.mem_of_getElem? (i := 58) (by decide +kernel)) (by decide +kernel)
theorem q4_60 : Cond.laysFinal "GalleryRaysModel" "GalleryRaysModel" "rayTime" "[J" ∈ lw_all := lw_in4 (List.mem_of_getElem? (i := 60) (by decide +kernel)) (by decide +kernel)
theorem q4_62 : Cond.laysFinal "GalleryRaysModel" "GalleryRaysModel" "rayEnergy" "[I" ∈ lw_all := lw_in4 (List.mem_of_getElem? (i := 62) (by decide +kernel)) (by decide +kernel)
theorem q4_64 : Cond.laysFinal "GalleryRaysModel" "GalleryRaysModel" "rayStep" "[I" ∈ lw_all := lw_in4 (List.mem_of_getElem? (i := 64) (by decide +kernel)) (by decide +kernel)
theorem q4_66 : Cond.laysFinal "GalleryRaysModel" "GalleryRaysModel" "isLive" "[Z" ∈ lw_all := lw_in4 (List.mem_of_getElem? (i := 66) (by decide +kernel)) (by decide +kernel)
theorem q4_68 : Cond.lays "GalleryRaysModel" "GalleryRaysModel" "rayMany" "I" ∈ lw_all := lw_in4 (List.mem_of_getElem? (i := 68) (by decide +kernel)) (by decide +kernel)
theorem q4_70 : Cond.laysFinal "GalleryRaysModel" "GalleryRaysModel" "hits" "[J" ∈ lw_all := lw_in4 (List.mem_of_getElem? (i := 70) (by decide +kernel)) (by decide +kernel)
theorem q4_72 : Cond.laysFinal "GalleryRaysModel" "GalleryRaysModel" "isEcho" "[Z" ∈ lw_all := lw_in4 (List.mem_of_getElem? (i := 72) (by decide +kernel)) (by decide +kernel)
theorem q4_74 : Cond.lays "GalleryRaysModel" "GalleryRaysModel" "hitMany" "I" ∈ lw_all := lw_in4 (List.mem_of_getElem? (i := 74) (by decide +kernel)) (by decide +kernel)
theorem q4_76 : Cond.laysFinal "GalleryRaysModel" "GalleryRaysModel" "heardMany" "[I" ∈ lw_all := lw_in4 (List.mem_of_getElem? (i := 76) (by decide +kernel)) (by decide +kernel)
theorem q4_78 : Cond.laysFinal "GalleryRaysModel" "GalleryRaysModel" "heardSum" "[J" ∈ lw_all := lw_in4 (List.mem_of_getElem? (i := 78) (by decide +kernel)) (by decide +kernel)
theorem q4_80 : Cond.laysFinal "GalleryRaysModel" "GalleryRaysModel" "heardFirst" "[J" ∈ lw_all := lw_in4 (List.mem_of_getElem? (i := 80) (by decide +kernel)) (by decide +kernel)
theorem q4_82 : Cond.laysFinal "GalleryRaysModel" "GalleryRaysModel" "heardMost" "[I" ∈ lw_all := lw_in4 (List.mem_of_getElem? (i := 82) (by decide +kernel)) (by decide +kernel)
theorem q4_84 : Cond.lays "GalleryRaysModel" "GalleryRaysModel" "shots" "I" ∈ lw_all := lw_in4 (List.mem_of_getElem? (i := 84) (by decide +kernel)) (by decide +kernel)
theorem q4_86 : Cond.lays "GalleryRaysModel" "GalleryRaysModel" "begin" "I" ∈ lw_all := lw_in4 (List.mem_of_getElem? (i := 86) (by decide +kernel)) (by decide +kernel)
theorem q4_88 : Cond.laysFinal "GalleryRaysModel" "GalleryRaysModel" "isHit" "[Z" ∈ lw_all := lw_in4 (List.mem_of_getElem? (i := 88) (by decide +kernel)) (by decide +kernel)
theorem q4_90 : Cond.laysFinal "GalleryRaysModel" "GalleryRaysModel" "ends" "[I" ∈ lw_all := lw_in4 (List.mem_of_getElem? (i := 90) (by decide +kernel)) (by decide +kernel)
theorem q4_93 : Cond.arrayClass FieldType.boolean ∈ lw_all := lw_in4 (List.mem_of_getElem? (i := 93) (by decide +kernel)) (by decide +kernel)
theorem q4_94 : Cond.methodLink RL 17 yX12_add ∈ lw_all := lw_in4 (List.mem_of_getElem? (i := 94) (by decide +kernel)) (by decide +kernel)
theorem q4_95 : Cond.instanceMethod yX12_add ∈ lw_all := lw_in4 (List.mem_of_getElem? (i := 95) (by decide +kernel)) (by decide +kernel)
theorem q4_96 : Cond.selects RX12 yX12_add yX12_add ∈ lw_all := lw_in4 (List.mem_of_getElem? (i := 96) (by decide +kernel)) (by decide +kernel)
theorem q4_97 : Cond.code yX12_add prog_14_method_6_code 5 (Option.some FieldType.int) ∈ lw_all := lw_in4 (List.mem_of_getElem? (i := 97) (by decide +kernel)) (by decide +kernel)
theorem q4_98 : Cond.methodLink RX12 70 yX12_in ∈ lw_all := lw_in4 (List.mem_of_getElem? (i := 98) (by decide +kernel)) (by decide +kernel)
theorem q4_99 : Cond.static yX12_in ∈ lw_all := lw_in4 (List.mem_of_getElem? (i := 99) (by decide +kernel)) (by decide +kernel)
theorem q4_100 : Cond.code yX12_in prog_14_method_2_code 3 (Option.some FieldType.boolean) ∈ lw_all := lw_in4 (List.mem_of_getElem? (i := 100) (by decide +kernel)) (by decide +kernel)
theorem q4_101 : Cond.methodLink RX12 74 yX12_isNumber ∈ lw_all := lw_in4 (List.mem_of_getElem? (i := 101) (by decide +kernel)) (by decide +kernel)
theorem q4_102 : Cond.static yX12_isNumber ∈ lw_all := lw_in4 (List.mem_of_getElem? (i := 102) (by decide +kernel)) (by decide +kernel)
theorem q4_103 : Cond.code yX12_isNumber prog_14_method_4_code 2 (Option.some FieldType.boolean) ∈ lw_all := lw_in4 (List.mem_of_getElem? (i := 103) (by decide +kernel)) (by decide +kernel)
theorem q4_104 : Cond.constant RX12 78 (iZ (-100001)) ∈ lw_all := lw_in4 (List.mem_of_getElem? (i := 104) (by decide +kernel)) (by decide +kernel)
theorem q4_105 : Cond.constant RX12 79 (iZ (-100003)) ∈ lw_all := lw_in4 (List.mem_of_getElem? (i := 105) (by decide +kernel)) (by decide +kernel)
theorem q4_106 : Cond.methodLink RX12 80 yX12_act ∈ lw_all := lw_in4 (List.mem_of_getElem? (i := 106) (by decide +kernel)) (by decide +kernel)
theorem q4_108 : Cond.instanceMethod yX12_act ∈ lw_all := lw_in4 (List.mem_of_getElem? (i := 108) (by decide +kernel)) (by decide +kernel)
theorem q4_109 : Cond.code yX12_act prog_14_method_3_code 2 none ∈ lw_all := lw_in4 (List.mem_of_getElem? (i := 109) (by decide +kernel)) (by decide +kernel)
theorem q4_110 : Cond.methodLink RX12 83 yX12_adds ∈ lw_all := lw_in4 (List.mem_of_getElem? (i := 110) (by decide +kernel)) (by decide +kernel)
theorem q4_112 : Cond.instanceMethod yX12_adds ∈ lw_all := lw_in4 (List.mem_of_getElem? (i := 112) (by decide +kernel)) (by decide +kernel)
theorem q4_113 : Cond.code yX12_adds prog_14_method_5_code 6 none ∈ lw_all := lw_in4 (List.mem_of_getElem? (i := 113) (by decide +kernel)) (by decide +kernel)
theorem q4_114 : Cond.methodLink RL 22 yX12_remove ∈ lw_all := lw_in4 (List.mem_of_getElem? (i := 114) (by decide +kernel)) (by decide +kernel)
theorem q4_115 : Cond.instanceMethod yX12_remove ∈ lw_all := lw_in4 (List.mem_of_getElem? (i := 115) (by decide +kernel)) (by decide +kernel)
theorem q4_116 : Cond.selects RX12 yX12_remove yX12_remove ∈ lw_all := lw_in4 (List.mem_of_getElem? (i := 116) (by decide +kernel)) (by decide +kernel)
theorem q4_117 : Cond.code yX12_remove prog_14_method_8_code 3 (Option.some FieldType.int) ∈ lw_all := lw_in4 (List.mem_of_getElem? (i := 117) (by decide +kernel)) (by decide +kernel)
theorem q4_118 : Cond.methodLink RX12 87 yX12_isPart ∈ lw_all := lw_in4 (List.mem_of_getElem? (i := 118) (by decide +kernel)) (by decide +kernel)
theorem q4_120 : Cond.instanceMethod yX12_isPart ∈ lw_all := lw_in4 (List.mem_of_getElem? (i := 120) (by decide +kernel)) (by decide +kernel)
theorem q4_121 : Cond.code yX12_isPart prog_14_method_7_code 2 (Option.some FieldType.boolean) ∈ lw_all := lw_in4 (List.mem_of_getElem? (i := 121) (by decide +kernel)) (by decide +kernel)
theorem q4_122 : Cond.methodLink RL 27 yX12_part ∈ lw_all := lw_in4 (List.mem_of_getElem? (i := 122) (by decide +kernel)) (by decide +kernel)
theorem q4_123 : Cond.instanceMethod yX12_part ∈ lw_all := lw_in4 (List.mem_of_getElem? (i := 123) (by decide +kernel)) (by decide +kernel)
theorem q4_124 : Cond.selects RX12 yX12_part yX12_part ∈ lw_all := lw_in4 (List.mem_of_getElem? (i := 124) (by decide +kernel)) (by decide +kernel)
theorem q4_125 : Cond.code yX12_part prog_14_method_9_code 3 (Option.some FieldType.int) ∈ lw_all := lw_in4 (List.mem_of_getElem? (i := 125) (by decide +kernel)) (by decide +kernel)
theorem q4_126 : Cond.methodLink RL 32 yX12_parts ∈ lw_all := lw_in4 (List.mem_of_getElem? (i := 126) (by decide +kernel)) (by decide +kernel)
theorem q4_127 : Cond.instanceMethod yX12_parts ∈ lw_all := lw_in4 (List.mem_of_getElem? (i := 127) (by decide +kernel)) (by decide +kernel)
theorem q4_128 : Cond.selects RX12 yX12_parts yX12_parts ∈ lw_all := lw_in4 (List.mem_of_getElem? (i := 128) (by decide +kernel)) (by decide +kernel)
theorem q4_129 : Cond.code yX12_parts prog_14_method_10_code 1 (Option.some FieldType.int) ∈ lw_all := lw_in4 (List.mem_of_getElem? (i := 129) (by decide +kernel)) (by decide +kernel)
theorem q4_130 : Cond.methodLink RL 36 yX12_setLoss ∈ lw_all := lw_in4 (List.mem_of_getElem? (i := 130) (by decide +kernel)) (by decide +kernel)
theorem q4_131 : Cond.instanceMethod yX12_setLoss ∈ lw_all := lw_in4 (List.mem_of_getElem? (i := 131) (by decide +kernel)) (by decide +kernel)
theorem q4_132 : Cond.selects RX12 yX12_setLoss yX12_setLoss ∈ lw_all := lw_in4 (List.mem_of_getElem? (i := 132) (by decide +kernel)) (by decide +kernel)
theorem q4_133 : Cond.code yX12_setLoss prog_14_method_12_code 2 (Option.some FieldType.int) ∈ lw_all := lw_in4 (List.mem_of_getElem? (i := 133) (by decide +kernel)) (by decide +kernel)
theorem q4_134 : Cond.methodLink RX12 91 yX12_sets ∈ lw_all := lw_in4 (List.mem_of_getElem? (i := 134) (by decide +kernel)) (by decide +kernel)
theorem q4_136 : Cond.instanceMethod yX12_sets ∈ lw_all := lw_in4 (List.mem_of_getElem? (i := 136) (by decide +kernel)) (by decide +kernel)
theorem q4_137 : Cond.code yX12_sets prog_14_method_11_code 4 (Option.some FieldType.int) ∈ lw_all := lw_in4 (List.mem_of_getElem? (i := 137) (by decide +kernel)) (by decide +kernel)
theorem q4_138 : Cond.methodLink RL 40 yX12_setThreshold ∈ lw_all := lw_in4 (List.mem_of_getElem? (i := 138) (by decide +kernel)) (by decide +kernel)
theorem q4_139 : Cond.instanceMethod yX12_setThreshold ∈ lw_all := lw_in4 (List.mem_of_getElem? (i := 139) (by decide +kernel)) (by decide +kernel)
theorem q4_140 : Cond.selects RX12 yX12_setThreshold yX12_setThreshold ∈ lw_all := lw_in4 (List.mem_of_getElem? (i := 140) (by decide +kernel)) (by decide +kernel)
theorem q4_141 : Cond.code yX12_setThreshold prog_14_method_13_code 2 (Option.some FieldType.int) ∈ lw_all := lw_in4 (List.mem_of_getElem? (i := 141) (by decide +kernel)) (by decide +kernel)
theorem q4_142 : Cond.constant RX12 95 (iZ (1000000)) ∈ lw_all := lw_in4 (List.mem_of_getElem? (i := 142) (by decide +kernel)) (by decide +kernel)
theorem q4_143 : Cond.methodLink RL 44 yX12_type ∈ lw_all := lw_in4 (List.mem_of_getElem? (i := 143) (by decide +kernel)) (by decide +kernel)
theorem q4_144 : Cond.instanceMethod yX12_type ∈ lw_all := lw_in4 (List.mem_of_getElem? (i := 144) (by decide +kernel)) (by decide +kernel)
theorem q4_145 : Cond.selects RX12 yX12_type yX12_type ∈ lw_all := lw_in4 (List.mem_of_getElem? (i := 145) (by decide +kernel)) (by decide +kernel)
theorem q4_146 : Cond.code yX12_type prog_14_method_14_code 2 (Option.some FieldType.int) ∈ lw_all := lw_in4 (List.mem_of_getElem? (i := 146) (by decide +kernel)) (by decide +kernel)
theorem q4_147 : Cond.methodLink RL 48 yX12_clear ∈ lw_all := lw_in4 (List.mem_of_getElem? (i := 147) (by decide +kernel)) (by decide +kernel)
theorem q4_148 : Cond.instanceMethod yX12_clear ∈ lw_all := lw_in4 (List.mem_of_getElem? (i := 148) (by decide +kernel)) (by decide +kernel)
theorem q4_149 : Cond.selects RX12 yX12_clear yX12_clear ∈ lw_all := lw_in4 (List.mem_of_getElem? (i := 149) (by decide +kernel)) (by decide +kernel)
theorem q4_150 : Cond.code yX12_clear prog_14_method_15_code 2 (Option.some FieldType.int) ∈ lw_all := lw_in4 (List.mem_of_getElem? (i := 150) (by decide +kernel)) (by decide +kernel)
theorem q4_151 : Cond.methodLink RL 52 yX12_read ∈ lw_all := lw_in4 (List.mem_of_getElem? (i := 151) (by decide +kernel)) (by decide +kernel)
theorem q4_152 : Cond.instanceMethod yX12_read ∈ lw_all := lw_in4 (List.mem_of_getElem? (i := 152) (by decide +kernel)) (by decide +kernel)
theorem q4_153 : Cond.selects RX12 yX12_read yX12_read ∈ lw_all := lw_in4 (List.mem_of_getElem? (i := 153) (by decide +kernel)) (by decide +kernel)
theorem q4_154 : Cond.code yX12_read prog_14_method_23_code 3 (Option.some FieldType.int) ∈ lw_all := lw_in4 (List.mem_of_getElem? (i := 154) (by decide +kernel)) (by decide +kernel)
theorem q4_155 : Cond.methodLink RX12 130 yX12_wrongAt ∈ lw_all := lw_in4 (List.mem_of_getElem? (i := 155) (by decide +kernel)) (by decide +kernel)
theorem q4_157 : Cond.instanceMethod yX12_wrongAt ∈ lw_all := lw_in4 (List.mem_of_getElem? (i := 157) (by decide +kernel)) (by decide +kernel)
theorem q4_158 : Cond.code yX12_wrongAt prog_14_method_22_code 2 (Option.some FieldType.int) ∈ lw_all := lw_in4 (List.mem_of_getElem? (i := 158) (by decide +kernel)) (by decide +kernel)
theorem q4_159 : Cond.methodLink RX12 127 yX12_readsPart ∈ lw_all := lw_in4 (List.mem_of_getElem? (i := 159) (by decide +kernel)) (by decide +kernel)
theorem q4_161 : Cond.instanceMethod yX12_readsPart ∈ lw_all := lw_in4 (List.mem_of_getElem? (i := 161) (by decide +kernel)) (by decide +kernel)
theorem q4_162 : Cond.code yX12_readsPart prog_14_method_21_code 3 (Option.some FieldType.boolean) ∈ lw_all := lw_in4 (List.mem_of_getElem? (i := 162) (by decide +kernel)) (by decide +kernel)
theorem q4_163 : Cond.methodLink RX12 119 yX12_word ∈ lw_all := lw_in4 (List.mem_of_getElem? (i := 163) (by decide +kernel)) (by decide +kernel)
theorem q4_165 : Cond.instanceMethod yX12_word ∈ lw_all := lw_in4 (List.mem_of_getElem? (i := 165) (by decide +kernel)) (by decide +kernel)
theorem q4_166 : Cond.code yX12_word prog_14_method_19_code 3 (Option.some FieldType.boolean) ∈ lw_all := lw_in4 (List.mem_of_getElem? (i := 166) (by decide +kernel)) (by decide +kernel)
theorem q4_167 : Cond.methodLink RX12 106 yX12_takes ∈ lw_all := lw_in4 (List.mem_of_getElem? (i := 167) (by decide +kernel)) (by decide +kernel)
theorem q4_169 : Cond.instanceMethod yX12_takes ∈ lw_all := lw_in4 (List.mem_of_getElem? (i := 169) (by decide +kernel)) (by decide +kernel)
theorem q4_170 : Cond.code yX12_takes prog_14_method_17_code 3 (Option.some FieldType.boolean) ∈ lw_all := lw_in4 (List.mem_of_getElem? (i := 170) (by decide +kernel)) (by decide +kernel)
theorem q4_171 : Cond.methodLink RX12 102 yX12_sign ∈ lw_all := lw_in4 (List.mem_of_getElem? (i := 171) (by decide +kernel)) (by decide +kernel)
theorem q4_173 : Cond.instanceMethod yX12_sign ∈ lw_all := lw_in4 (List.mem_of_getElem? (i := 173) (by decide +kernel)) (by decide +kernel)
theorem q4_174 : Cond.code yX12_sign prog_14_method_16_code 1 (Option.some FieldType.int) ∈ lw_all := lw_in4 (List.mem_of_getElem? (i := 174) (by decide +kernel)) (by decide +kernel)
theorem q4_175 : Cond.methodLink RX12 109 yX12_four ∈ lw_all := lw_in4 (List.mem_of_getElem? (i := 175) (by decide +kernel)) (by decide +kernel)
theorem q4_177 : Cond.instanceMethod yX12_four ∈ lw_all := lw_in4 (List.mem_of_getElem? (i := 177) (by decide +kernel)) (by decide +kernel)
theorem q4_178 : Cond.code yX12_four prog_14_method_18_code 5 (Option.some FieldType.boolean) ∈ lw_all := lw_in4 (List.mem_of_getElem? (i := 178) (by decide +kernel)) (by decide +kernel)
theorem q4_179 : Cond.methodLink RX12 123 yX12_number ∈ lw_all := lw_in4 (List.mem_of_getElem? (i := 179) (by decide +kernel)) (by decide +kernel)
theorem q4_181 : Cond.instanceMethod yX12_number ∈ lw_all := lw_in4 (List.mem_of_getElem? (i := 181) (by decide +kernel)) (by decide +kernel)
theorem q4_182 : Cond.code yX12_number prog_14_method_20_code 8 (Option.some FieldType.boolean) ∈ lw_all := lw_in4 (List.mem_of_getElem? (i := 182) (by decide +kernel)) (by decide +kernel)
theorem q4_183 : Cond.methodLink RL 99 yX12_time ∈ lw_all := lw_in4 (List.mem_of_getElem? (i := 183) (by decide +kernel)) (by decide +kernel)
theorem q4_184 : Cond.instanceMethod yX12_time ∈ lw_all := lw_in4 (List.mem_of_getElem? (i := 184) (by decide +kernel)) (by decide +kernel)
theorem q4_185 : Cond.selects RX12 yX12_time yX12_time ∈ lw_all := lw_in4 (List.mem_of_getElem? (i := 185) (by decide +kernel)) (by decide +kernel)
theorem q4_186 : Cond.code yX12_time prog_14_method_27_code 2 (Option.some FieldType.int) ∈ lw_all := lw_in4 (List.mem_of_getElem? (i := 186) (by decide +kernel)) (by decide +kernel)
theorem q4_187 : Cond.methodLink RX12 147 yX12_isStep ∈ lw_all := lw_in4 (List.mem_of_getElem? (i := 187) (by decide +kernel)) (by decide +kernel)
theorem q4_188 : Cond.static yX12_isStep ∈ lw_all := lw_in4 (List.mem_of_getElem? (i := 188) (by decide +kernel)) (by decide +kernel)
theorem q4_189 : Cond.code yX12_isStep prog_14_method_24_code 1 (Option.some FieldType.boolean) ∈ lw_all := lw_in4 (List.mem_of_getElem? (i := 189) (by decide +kernel)) (by decide +kernel)
theorem q4_190 : Cond.methodLink RX12 150 yX12_chord ∈ lw_all := lw_in4 (List.mem_of_getElem? (i := 190) (by decide +kernel)) (by decide +kernel)
theorem q4_191 : Cond.static yX12_chord ∈ lw_all := lw_in4 (List.mem_of_getElem? (i := 191) (by decide +kernel)) (by decide +kernel)
theorem q4_192 : Cond.code yX12_chord prog_14_method_26_code 1 (Option.some FieldType.int) ∈ lw_all := lw_in4 (List.mem_of_getElem? (i := 192) (by decide +kernel)) (by decide +kernel)
theorem q4_193 : Cond.constantLong RX12 141 (lZ (2000000)) ∈ lw_all := lw_in4 (List.mem_of_getElem? (i := 193) (by decide +kernel)) (by decide +kernel)
theorem q4_194 : Cond.methodLink RX12 143 yX12_wide ∈ lw_all := lw_in4 (List.mem_of_getElem? (i := 194) (by decide +kernel)) (by decide +kernel)
theorem q4_195 : Cond.static yX12_wide ∈ lw_all := lw_in4 (List.mem_of_getElem? (i := 195) (by decide +kernel)) (by decide +kernel)
theorem q4_196 : Cond.code yX12_wide prog_14_method_25_code 6 (Option.some FieldType.int) ∈ lw_all := lw_in4 (List.mem_of_getElem? (i := 196) (by decide +kernel)) (by decide +kernel)
theorem q4_197 : Cond.constantLong RX12 133 (lZ (27720)) ∈ lw_all := lw_in4 (List.mem_of_getElem? (i := 197) (by decide +kernel)) (by decide +kernel)
theorem q4_198 : Cond.constantLong RX12 135 (lZ (16)) ∈ lw_all := lw_in4 (List.mem_of_getElem? (i := 198) (by decide +kernel)) (by decide +kernel)
theorem q4_199 : Cond.constantLong RX12 137 (lZ (3841992000)) ∈ lw_all := lw_in4 (List.mem_of_getElem? (i := 199) (by decide +kernel)) (by decide +kernel)
theorem q4_200 : Cond.constantLong RX12 139 (lZ (4)) ∈ lw_all := lw_in4 (List.mem_of_getElem? (i := 200) (by decide +kernel)) (by decide +kernel)
theorem q4_201 : Cond.methodLink RL 103 yX12_caustic ∈ lw_all := lw_in4 (List.mem_of_getElem? (i := 201) (by decide +kernel)) (by decide +kernel)
theorem q4_202 : Cond.instanceMethod yX12_caustic ∈ lw_all := lw_in4 (List.mem_of_getElem? (i := 202) (by decide +kernel)) (by decide +kernel)
theorem q4_203 : Cond.selects RX12 yX12_caustic yX12_caustic ∈ lw_all := lw_in4 (List.mem_of_getElem? (i := 203) (by decide +kernel)) (by decide +kernel)
theorem q4_204 : Cond.code yX12_caustic prog_14_method_29_code 2 (Option.some FieldType.int) ∈ lw_all := lw_in4 (List.mem_of_getElem? (i := 204) (by decide +kernel)) (by decide +kernel)
theorem q4_205 : Cond.methodLink RX12 156 yX12_circle ∈ lw_all := lw_in4 (List.mem_of_getElem? (i := 205) (by decide +kernel)) (by decide +kernel)
theorem q4_206 : Cond.static yX12_circle ∈ lw_all := lw_in4 (List.mem_of_getElem? (i := 206) (by decide +kernel)) (by decide +kernel)
theorem q4_207 : Cond.code yX12_circle prog_14_method_28_code 1 (Option.some FieldType.int) ∈ lw_all := lw_in4 (List.mem_of_getElem? (i := 207) (by decide +kernel)) (by decide +kernel)
theorem q4_208 : Cond.constantLong RX12 154 (lZ (1000000)) ∈ lw_all := lw_in4 (List.mem_of_getElem? (i := 208) (by decide +kernel)) (by decide +kernel)
theorem q4_209 : Cond.methodLink RL 107 yX12_order ∈ lw_all := lw_in4 (List.mem_of_getElem? (i := 209) (by decide +kernel)) (by decide +kernel)
theorem q4_210 : Cond.instanceMethod yX12_order ∈ lw_all := lw_in4 (List.mem_of_getElem? (i := 210) (by decide +kernel)) (by decide +kernel)
theorem q4_211 : Cond.selects RX12 yX12_order yX12_order ∈ lw_all := lw_in4 (List.mem_of_getElem? (i := 211) (by decide +kernel)) (by decide +kernel)
theorem q4_212 : Cond.code yX12_order prog_14_method_32_code 2 (Option.some FieldType.int) ∈ lw_all := lw_in4 (List.mem_of_getElem? (i := 212) (by decide +kernel)) (by decide +kernel)
theorem q4_213 : Cond.methodLink RX12 159 yX12_size ∈ lw_all := lw_in4 (List.mem_of_getElem? (i := 213) (by decide +kernel)) (by decide +kernel)
theorem q4_214 : Cond.static yX12_size ∈ lw_all := lw_in4 (List.mem_of_getElem? (i := 214) (by decide +kernel)) (by decide +kernel)
theorem q4_215 : Cond.code yX12_size prog_14_method_31_code 1 (Option.some FieldType.int) ∈ lw_all := lw_in4 (List.mem_of_getElem? (i := 215) (by decide +kernel)) (by decide +kernel)
theorem q4_216 : Cond.methodLink RX12 162 yX12_common ∈ lw_all := lw_in4 (List.mem_of_getElem? (i := 216) (by decide +kernel)) (by decide +kernel)
theorem q4_217 : Cond.static yX12_common ∈ lw_all := lw_in4 (List.mem_of_getElem? (i := 217) (by decide +kernel)) (by decide +kernel)
theorem q4_218 : Cond.code yX12_common prog_14_method_30_code 4 (Option.some FieldType.int) ∈ lw_all := lw_in4 (List.mem_of_getElem? (i := 218) (by decide +kernel)) (by decide +kernel)
theorem q4_219 : Cond.methodLink RL 111 yX12_turns ∈ lw_all := lw_in4 (List.mem_of_getElem? (i := 219) (by decide +kernel)) (by decide +kernel)
theorem q4_220 : Cond.instanceMethod yX12_turns ∈ lw_all := lw_in4 (List.mem_of_getElem? (i := 220) (by decide +kernel)) (by decide +kernel)
theorem q4_221 : Cond.selects RX12 yX12_turns yX12_turns ∈ lw_all := lw_in4 (List.mem_of_getElem? (i := 221) (by decide +kernel)) (by decide +kernel)
theorem q4_222 : Cond.code yX12_turns prog_14_method_33_code 2 (Option.some FieldType.int) ∈ lw_all := lw_in4 (List.mem_of_getElem? (i := 222) (by decide +kernel)) (by decide +kernel)
theorem q4_223 : Cond.methodLink RL 115 yX12_aim ∈ lw_all := lw_in4 (List.mem_of_getElem? (i := 223) (by decide +kernel)) (by decide +kernel)
theorem q4_224 : Cond.instanceMethod yX12_aim ∈ lw_all := lw_in4 (List.mem_of_getElem? (i := 224) (by decide +kernel)) (by decide +kernel)
theorem q4_225 : Cond.selects RX12 yX12_aim yX12_aim ∈ lw_all := lw_in4 (List.mem_of_getElem? (i := 225) (by decide +kernel)) (by decide +kernel)
theorem q4_226 : Cond.code yX12_aim prog_14_method_35_code 7 (Option.some FieldType.int) ∈ lw_all := lw_in4 (List.mem_of_getElem? (i := 226) (by decide +kernel)) (by decide +kernel)
theorem q4_227 : Cond.methodLink RX12 165 yX12_isPlace ∈ lw_all := lw_in4 (List.mem_of_getElem? (i := 227) (by decide +kernel)) (by decide +kernel)
theorem q4_228 : Cond.static yX12_isPlace ∈ lw_all := lw_in4 (List.mem_of_getElem? (i := 228) (by decide +kernel)) (by decide +kernel)
theorem q4_229 : Cond.code yX12_isPlace prog_14_method_34_code 1 (Option.some FieldType.boolean) ∈ lw_all := lw_in4 (List.mem_of_getElem? (i := 229) (by decide +kernel)) (by decide +kernel)
theorem q4_230 : Cond.constant RX12 168 (iZ (-100009)) ∈ lw_all := lw_in4 (List.mem_of_getElem? (i := 230) (by decide +kernel)) (by decide +kernel)
theorem q4_231 : Cond.methodLink RL 119 yX12_widest ∈ lw_all := lw_in4 (List.mem_of_getElem? (i := 231) (by decide +kernel)) (by decide +kernel)
theorem q4_232 : Cond.instanceMethod yX12_widest ∈ lw_all := lw_in4 (List.mem_of_getElem? (i := 232) (by decide +kernel)) (by decide +kernel)
theorem q4_233 : Cond.selects RX12 yX12_widest yX12_widest ∈ lw_all := lw_in4 (List.mem_of_getElem? (i := 233) (by decide +kernel)) (by decide +kernel)
theorem q4_234 : Cond.code yX12_widest prog_14_method_36_code 6 (Option.some FieldType.int) ∈ lw_all := lw_in4 (List.mem_of_getElem? (i := 234) (by decide +kernel)) (by decide +kernel)
theorem q4_235 : Cond.methodLink RL 57 yX12_shoot ∈ lw_all := lw_in4 (List.mem_of_getElem? (i := 235) (by decide +kernel)) (by decide +kernel)
theorem q4_236 : Cond.instanceMethod yX12_shoot ∈ lw_all := lw_in4 (List.mem_of_getElem? (i := 236) (by decide +kernel)) (by decide +kernel)
theorem q4_237 : Cond.selects RX12 yX12_shoot yX12_shoot ∈ lw_all := lw_in4 (List.mem_of_getElem? (i := 237) (by decide +kernel)) (by decide +kernel)
theorem q4_238 : Cond.code yX12_shoot prog_14_method_44_code 5 (Option.some FieldType.int) ∈ lw_all := lw_in4 (List.mem_of_getElem? (i := 238) (by decide +kernel)) (by decide +kernel)
theorem q4_239 : Cond.methodLink RX12 180 yX12_begins ∈ lw_all := lw_in4 (List.mem_of_getElem? (i := 239) (by decide +kernel)) (by decide +kernel)
theorem q5_1 : Cond.instanceMethod yX12_begins ∈ lw_all := lw_in5 (List.mem_of_getElem? (i := 1) (by decide +kernel)) (by decide +kernel)
theorem q5_2 : Cond.code yX12_begins prog_14_method_37_code 6 none ∈ lw_all := lw_in5 (List.mem_of_getElem? (i := 2) (by decide +kernel)) (by decide +kernel)
theorem q5_3 : Cond.methodLink RX12 200 yX12_next ∈ lw_all := lw_in5 (List.mem_of_getElem? (i := 3) (by decide +kernel)) (by decide +kernel)
theorem q5_5 : Cond.instanceMethod yX12_next ∈ lw_all := lw_in5 (List.mem_of_getElem? (i := 5) (by decide +kernel)) (by decide +kernel)
theorem q5_6 : Cond.code yX12_next prog_14_method_38_code 7 (Option.some FieldType.int) ∈ lw_all := lw_in5 (List.mem_of_getElem? (i := 6) (by decide +kernel)) (by decide +kernel)
theorem q5_7 : Cond.methodLink RX12 203 yX12_goes ∈ lw_all := lw_in5 (List.mem_of_getElem? (i := 7) (by decide +kernel)) (by decide +kernel)
theorem q5_9 : Cond.instanceMethod yX12_goes ∈ lw_all := lw_in5 (List.mem_of_getElem? (i := 9) (by decide +kernel)) (by decide +kernel)
theorem q5_10 : Cond.code yX12_goes prog_14_method_43_code 4 none ∈ lw_all := lw_in5 (List.mem_of_getElem? (i := 10) (by decide +kernel)) (by decide +kernel)
theorem q5_11 : Cond.constantLong RX12 175 (lZ (1000)) ∈ lw_all := lw_in5 (List.mem_of_getElem? (i := 11) (by decide +kernel)) (by decide +kernel)
theorem q5_12 : Cond.methodLink RX12 188 yX12_covers ∈ lw_all := lw_in5 (List.mem_of_getElem? (i := 12) (by decide +kernel)) (by decide +kernel)
theorem q5_14 : Cond.instanceMethod yX12_covers ∈ lw_all := lw_in5 (List.mem_of_getElem? (i := 14) (by decide +kernel)) (by decide +kernel)
theorem q5_15 : Cond.code yX12_covers prog_14_method_42_code 3 (Option.some FieldType.boolean) ∈ lw_all := lw_in5 (List.mem_of_getElem? (i := 15) (by decide +kernel)) (by decide +kernel)
theorem q5_16 : Cond.methodLink RX12 191 yX12_meets ∈ lw_all := lw_in5 (List.mem_of_getElem? (i := 16) (by decide +kernel)) (by decide +kernel)
theorem q5_18 : Cond.instanceMethod yX12_meets ∈ lw_all := lw_in5 (List.mem_of_getElem? (i := 18) (by decide +kernel)) (by decide +kernel)
theorem q5_19 : Cond.code yX12_meets prog_14_method_41_code 5 none ∈ lw_all := lw_in5 (List.mem_of_getElem? (i := 19) (by decide +kernel)) (by decide +kernel)
theorem q5_20 : Cond.methodLink RX12 177 yX12_tilted ∈ lw_all := lw_in5 (List.mem_of_getElem? (i := 20) (by decide +kernel)) (by decide +kernel)
theorem q5_21 : Cond.static yX12_tilted ∈ lw_all := lw_in5 (List.mem_of_getElem? (i := 21) (by decide +kernel)) (by decide +kernel)
theorem q5_22 : Cond.code yX12_tilted prog_14_method_39_code 3 (Option.some FieldType.int) ∈ lw_all := lw_in5 (List.mem_of_getElem? (i := 22) (by decide +kernel)) (by decide +kernel)
theorem q5_23 : Cond.methodLink RX12 184 yX12_hears ∈ lw_all := lw_in5 (List.mem_of_getElem? (i := 23) (by decide +kernel)) (by decide +kernel)
theorem q5_25 : Cond.instanceMethod yX12_hears ∈ lw_all := lw_in5 (List.mem_of_getElem? (i := 25) (by decide +kernel)) (by decide +kernel)
theorem q5_26 : Cond.code yX12_hears prog_14_method_40_code 3 none ∈ lw_all := lw_in5 (List.mem_of_getElem? (i := 26) (by decide +kernel)) (by decide +kernel)
theorem q5_27 : Cond.methodLink RL 61 yX12_hits ∈ lw_all := lw_in5 (List.mem_of_getElem? (i := 27) (by decide +kernel)) (by decide +kernel)
theorem q5_28 : Cond.instanceMethod yX12_hits ∈ lw_all := lw_in5 (List.mem_of_getElem? (i := 28) (by decide +kernel)) (by decide +kernel)
theorem q5_29 : Cond.selects RX12 yX12_hits yX12_hits ∈ lw_all := lw_in5 (List.mem_of_getElem? (i := 29) (by decide +kernel)) (by decide +kernel)
theorem q5_30 : Cond.code yX12_hits prog_14_method_45_code 1 (Option.some FieldType.int) ∈ lw_all := lw_in5 (List.mem_of_getElem? (i := 30) (by decide +kernel)) (by decide +kernel)
theorem q5_31 : Cond.methodLink RL 66 yX12_hit ∈ lw_all := lw_in5 (List.mem_of_getElem? (i := 31) (by decide +kernel)) (by decide +kernel)
theorem q5_32 : Cond.instanceMethod yX12_hit ∈ lw_all := lw_in5 (List.mem_of_getElem? (i := 32) (by decide +kernel)) (by decide +kernel)
theorem q5_33 : Cond.selects RX12 yX12_hit yX12_hit ∈ lw_all := lw_in5 (List.mem_of_getElem? (i := 33) (by decide +kernel)) (by decide +kernel)
theorem q5_34 : Cond.code yX12_hit prog_14_method_46_code 3 (Option.some FieldType.long) ∈ lw_all := lw_in5 (List.mem_of_getElem? (i := 34) (by decide +kernel)) (by decide +kernel)
theorem q5_35 : Cond.constantLong RX12 207 (lZ (-100001)) ∈ lw_all := lw_in5 (List.mem_of_getElem? (i := 35) (by decide +kernel)) (by decide +kernel)
theorem q5_36 : Cond.methodLink RL 70 yX12_rays ∈ lw_all := lw_in5 (List.mem_of_getElem? (i := 36) (by decide +kernel)) (by decide +kernel)
theorem q5_37 : Cond.instanceMethod yX12_rays ∈ lw_all := lw_in5 (List.mem_of_getElem? (i := 37) (by decide +kernel)) (by decide +kernel)
theorem q5_38 : Cond.selects RX12 yX12_rays yX12_rays ∈ lw_all := lw_in5 (List.mem_of_getElem? (i := 38) (by decide +kernel)) (by decide +kernel)
theorem q5_39 : Cond.code yX12_rays prog_14_method_47_code 1 (Option.some FieldType.int) ∈ lw_all := lw_in5 (List.mem_of_getElem? (i := 39) (by decide +kernel)) (by decide +kernel)
theorem q5_40 : Cond.methodLink RL 74 yX12_coverage ∈ lw_all := lw_in5 (List.mem_of_getElem? (i := 40) (by decide +kernel)) (by decide +kernel)
theorem q5_41 : Cond.instanceMethod yX12_coverage ∈ lw_all := lw_in5 (List.mem_of_getElem? (i := 41) (by decide +kernel)) (by decide +kernel)
theorem q5_42 : Cond.selects RX12 yX12_coverage yX12_coverage ∈ lw_all := lw_in5 (List.mem_of_getElem? (i := 42) (by decide +kernel)) (by decide +kernel)
theorem q5_43 : Cond.code yX12_coverage prog_14_method_49_code 1 (Option.some FieldType.int) ∈ lw_all := lw_in5 (List.mem_of_getElem? (i := 43) (by decide +kernel)) (by decide +kernel)
theorem q5_44 : Cond.methodLink RX12 209 yX12_covered ∈ lw_all := lw_in5 (List.mem_of_getElem? (i := 44) (by decide +kernel)) (by decide +kernel)
theorem q5_46 : Cond.instanceMethod yX12_covered ∈ lw_all := lw_in5 (List.mem_of_getElem? (i := 46) (by decide +kernel)) (by decide +kernel)
theorem q5_47 : Cond.code yX12_covered prog_14_method_48_code 4 (Option.some FieldType.int) ∈ lw_all := lw_in5 (List.mem_of_getElem? (i := 47) (by decide +kernel)) (by decide +kernel)
theorem q5_48 : Cond.methodLink RL 78 yX12_gap ∈ lw_all := lw_in5 (List.mem_of_getElem? (i := 48) (by decide +kernel)) (by decide +kernel)
theorem q5_49 : Cond.instanceMethod yX12_gap ∈ lw_all := lw_in5 (List.mem_of_getElem? (i := 49) (by decide +kernel)) (by decide +kernel)
theorem q5_50 : Cond.selects RX12 yX12_gap yX12_gap ∈ lw_all := lw_in5 (List.mem_of_getElem? (i := 50) (by decide +kernel)) (by decide +kernel)
theorem q5_51 : Cond.code yX12_gap prog_14_method_50_code 4 (Option.some FieldType.int) ∈ lw_all := lw_in5 (List.mem_of_getElem? (i := 51) (by decide +kernel)) (by decide +kernel)
theorem q5_52 : Cond.constant RX12 212 (iZ (55440)) ∈ lw_all := lw_in5 (List.mem_of_getElem? (i := 52) (by decide +kernel)) (by decide +kernel)
theorem q5_53 : Cond.methodLink RL 82 yX12_heard ∈ lw_all := lw_in5 (List.mem_of_getElem? (i := 53) (by decide +kernel)) (by decide +kernel)
theorem q5_54 : Cond.instanceMethod yX12_heard ∈ lw_all := lw_in5 (List.mem_of_getElem? (i := 54) (by decide +kernel)) (by decide +kernel)
theorem q5_55 : Cond.selects RX12 yX12_heard yX12_heard ∈ lw_all := lw_in5 (List.mem_of_getElem? (i := 55) (by decide +kernel)) (by decide +kernel)
theorem q5_56 : Cond.code yX12_heard prog_14_method_52_code 3 (Option.some FieldType.long) ∈ lw_all := lw_in5 (List.mem_of_getElem? (i := 56) (by decide +kernel)) (by decide +kernel)
theorem q5_57 : Cond.methodLink RX12 215 yX12_heardOf ∈ lw_all := lw_in5 (List.mem_of_getElem? (i := 57) (by decide +kernel)) (by decide +kernel)
theorem q5_59 : Cond.instanceMethod yX12_heardOf ∈ lw_all := lw_in5 (List.mem_of_getElem? (i := 59) (by decide +kernel)) (by decide +kernel)
theorem q5_60 : Cond.code yX12_heardOf prog_14_method_51_code 3 (Option.some FieldType.long) ∈ lw_all := lw_in5 (List.mem_of_getElem? (i := 60) (by decide +kernel)) (by decide +kernel)
theorem q5_61 : Cond.constantLong RX12 213 (lZ (-100009)) ∈ lw_all := lw_in5 (List.mem_of_getElem? (i := 61) (by decide +kernel)) (by decide +kernel)
theorem q5_62 : Cond.methodLink RL 86 yX12_echo ∈ lw_all := lw_in5 (List.mem_of_getElem? (i := 62) (by decide +kernel)) (by decide +kernel)
theorem q5_63 : Cond.instanceMethod yX12_echo ∈ lw_all := lw_in5 (List.mem_of_getElem? (i := 63) (by decide +kernel)) (by decide +kernel)
theorem q5_64 : Cond.selects RX12 yX12_echo yX12_echo ∈ lw_all := lw_in5 (List.mem_of_getElem? (i := 64) (by decide +kernel)) (by decide +kernel)
theorem q5_65 : Cond.code yX12_echo prog_14_method_53_code 4 (Option.some FieldType.int) ∈ lw_all := lw_in5 (List.mem_of_getElem? (i := 65) (by decide +kernel)) (by decide +kernel)
theorem q5_66 : Cond.methodLink RL 91 yX12_mean ∈ lw_all := lw_in5 (List.mem_of_getElem? (i := 66) (by decide +kernel)) (by decide +kernel)
theorem q5_67 : Cond.instanceMethod yX12_mean ∈ lw_all := lw_in5 (List.mem_of_getElem? (i := 67) (by decide +kernel)) (by decide +kernel)
theorem q5_68 : Cond.selects RX12 yX12_mean yX12_mean ∈ lw_all := lw_in5 (List.mem_of_getElem? (i := 68) (by decide +kernel)) (by decide +kernel)
theorem q5_69 : Cond.code yX12_mean prog_14_method_54_code 4 (Option.some FieldType.float) ∈ lw_all := lw_in5 (List.mem_of_getElem? (i := 69) (by decide +kernel)) (by decide +kernel)
theorem q5_70 : Cond.methodLink RL 95 yX12_crossings ∈ lw_all := lw_in5 (List.mem_of_getElem? (i := 70) (by decide +kernel)) (by decide +kernel)
theorem q5_71 : Cond.instanceMethod yX12_crossings ∈ lw_all := lw_in5 (List.mem_of_getElem? (i := 71) (by decide +kernel)) (by decide +kernel)
theorem q5_72 : Cond.selects RX12 yX12_crossings yX12_crossings ∈ lw_all := lw_in5 (List.mem_of_getElem? (i := 72) (by decide +kernel)) (by decide +kernel)
theorem q5_73 : Cond.code yX12_crossings prog_14_method_57_code 6 (Option.some FieldType.int) ∈ lw_all := lw_in5 (List.mem_of_getElem? (i := 73) (by decide +kernel)) (by decide +kernel)
theorem q5_74 : Cond.methodLink RX12 222 yX12_crosses ∈ lw_all := lw_in5 (List.mem_of_getElem? (i := 74) (by decide +kernel)) (by decide +kernel)
theorem q5_76 : Cond.instanceMethod yX12_crosses ∈ lw_all := lw_in5 (List.mem_of_getElem? (i := 76) (by decide +kernel)) (by decide +kernel)
theorem q5_77 : Cond.code yX12_crosses prog_14_method_56_code 8 (Option.some FieldType.boolean) ∈ lw_all := lw_in5 (List.mem_of_getElem? (i := 77) (by decide +kernel)) (by decide +kernel)
theorem q5_78 : Cond.methodLink RX12 219 yX12_between ∈ lw_all := lw_in5 (List.mem_of_getElem? (i := 78) (by decide +kernel)) (by decide +kernel)
theorem q5_79 : Cond.static yX12_between ∈ lw_all := lw_in5 (List.mem_of_getElem? (i := 79) (by decide +kernel)) (by decide +kernel)
theorem q5_80 : Cond.code yX12_between prog_14_method_55_code 3 (Option.some FieldType.boolean) ∈ lw_all := lw_in5 (List.mem_of_getElem? (i := 80) (by decide +kernel)) (by decide +kernel)
theorem q5_81 : Cond.methodLink RL 123 yX12_undo ∈ lw_all := lw_in5 (List.mem_of_getElem? (i := 81) (by decide +kernel)) (by decide +kernel)
theorem q5_82 : Cond.instanceMethod yX12_undo ∈ lw_all := lw_in5 (List.mem_of_getElem? (i := 82) (by decide +kernel)) (by decide +kernel)
theorem q5_83 : Cond.selects RX12 yX12_undo yX12_undo ∈ lw_all := lw_in5 (List.mem_of_getElem? (i := 83) (by decide +kernel)) (by decide +kernel)
theorem q5_84 : Cond.code yX12_undo prog_14_method_58_code 2 (Option.some FieldType.int) ∈ lw_all := lw_in5 (List.mem_of_getElem? (i := 84) (by decide +kernel)) (by decide +kernel)
theorem q5_85 : Cond.methodLink RL 128 yX12_fingerprint ∈ lw_all := lw_in5 (List.mem_of_getElem? (i := 85) (by decide +kernel)) (by decide +kernel)
theorem q5_86 : Cond.instanceMethod yX12_fingerprint ∈ lw_all := lw_in5 (List.mem_of_getElem? (i := 86) (by decide +kernel)) (by decide +kernel)
theorem q5_87 : Cond.selects RX12 yX12_fingerprint yX12_fingerprint ∈ lw_all := lw_in5 (List.mem_of_getElem? (i := 87) (by decide +kernel)) (by decide +kernel)
theorem q5_88 : Cond.code yX12_fingerprint prog_14_method_59_code 5 (Option.some FieldType.long) ∈ lw_all := lw_in5 (List.mem_of_getElem? (i := 88) (by decide +kernel)) (by decide +kernel)
theorem q5_89 : Cond.constantLong RX12 225 (lZ (3937)) ∈ lw_all := lw_in5 (List.mem_of_getElem? (i := 89) (by decide +kernel)) (by decide +kernel)
theorem q5_90 : Cond.constantLong RX12 227 (lZ (31)) ∈ lw_all := lw_in5 (List.mem_of_getElem? (i := 90) (by decide +kernel)) (by decide +kernel)
theorem q5_91 : Cond.fieldLink RJ0 9 "java/lang/String" "value" "[B" ∈ lw_all := lw_in5 (List.mem_of_getElem? (i := 91) (by decide +kernel)) (by decide +kernel)
theorem q5_92 : Cond.fieldLink RJ0 15 "java/lang/String" "coder" "B" ∈ lw_all := lw_in5 (List.mem_of_getElem? (i := 92) (by decide +kernel)) (by decide +kernel)
def nestW : List Cond := [Cond.methodLinkNest RX11 9 yX10_init "GalleryRays", Cond.methodLinkNest RX10 9 yX4_init "GalleryRays", Cond.fieldLinkNest RX11 48 "GalleryRays$Parts" "count" "I" "GalleryRays", Cond.fieldLinkNest RX9 26 "GalleryRays$Parts" "count" "I" "GalleryRays", Cond.fieldLinkNest RX8 124 "GalleryRays$Parts" "count" "I" "GalleryRays", Cond.fieldLinkNest RX11 44 "GalleryRays$Wall" "parts" "LGalleryRays$Parts;" "GalleryRays", Cond.fieldLinkNest RX8 120 "GalleryRays$Wall" "parts" "LGalleryRays$Parts;" "GalleryRays", Cond.fieldLinkNest RX8 112 "GalleryRays$Wall" "loss" "I" "GalleryRays", Cond.fieldLinkNest RX11 73 "GalleryRays$Wall" "loss" "I" "GalleryRays", Cond.fieldLinkNest RX8 140 "GalleryRays$Wall" "threshold" "I" "GalleryRays", Cond.fieldLinkNest RX11 77 "GalleryRays$Wall" "threshold" "I" "GalleryRays", Cond.methodLinkNest RX2 17 yX10_init "GalleryRays", Cond.fieldLinkNest RX11 174 "GalleryRays$History" "count" "I" "GalleryRays", Cond.methodLinkNest RX11 25 yX9_init "GalleryRays", Cond.methodLinkNest RX9 17 yX4_init "GalleryRays", Cond.fieldLinkNest RX11 90 "GalleryRays$Text" "found" "LGalleryRays$Parts;" "GalleryRays", Cond.fieldLinkNest RX11 80 "GalleryRays$Text" "length" "I" "GalleryRays", Cond.methodLinkNest RX8 19 yX3_init "GalleryRays", Cond.fieldLinkNest RX11 113 "GalleryRays$HitLog" "count" "I" "GalleryRays", Cond.methodLinkNest RX8 26 yX6_init "GalleryRays", Cond.fieldLinkNest RX11 126 "GalleryRays$PlaceMarks" "count" "I" "GalleryRays", Cond.methodLinkNest RX8 40 yX5_init "GalleryRays", Cond.fieldLinkNest RX3 30 "GalleryRays$Ray" "number" "I" "GalleryRays", Cond.fieldLinkNest RX8 106 "GalleryRays$Ray" "number" "I" "GalleryRays", Cond.fieldLinkNest RX3 35 "GalleryRays$Ray" "place" "I" "GalleryRays", Cond.fieldLinkNest RX8 89 "GalleryRays$Ray" "place" "I" "GalleryRays", Cond.fieldLinkNest RX3 44 "GalleryRays$Ray" "step" "I" "GalleryRays", Cond.fieldLinkNest RX8 92 "GalleryRays$Ray" "step" "I" "GalleryRays", Cond.fieldLinkNest RX1 26 "GalleryRays$Ray" "energy" "I" "GalleryRays", Cond.fieldLinkNest RX3 41 "GalleryRays$Ray" "energy" "I" "GalleryRays", Cond.fieldLinkNest RX8 137 "GalleryRays$Ray" "energy" "I" "GalleryRays", Cond.fieldLinkNest RX1 20 "GalleryRays$Ray" "arrival" "J" "GalleryRays", Cond.fieldLinkNest RX3 38 "GalleryRays$Ray" "arrival" "J" "GalleryRays", Cond.fieldLinkNest RX8 85 "GalleryRays$Ray" "arrival" "J" "GalleryRays", Cond.fieldLinkNest RX8 81 "GalleryRays$Ray" "going" "Z" "GalleryRays", Cond.fieldLinkNest RX11 109 "GalleryRays$Shot" "log" "LGalleryRays$HitLog;" "GalleryRays", Cond.fieldLinkNest RX11 122 "GalleryRays$Shot" "marks" "LGalleryRays$PlaceMarks;" "GalleryRays", Cond.fieldLinkNest RX11 132 "GalleryRays$Shot" "ears" "LGalleryRays$Ears;" "GalleryRays", Cond.fieldLinkNest RX11 147 "GalleryRays$Shot" "path" "LGalleryRays$Path;" "GalleryRays", Cond.fieldLinkNest RX11 119 "GalleryRays$Shot" "rayCount" "I" "GalleryRays"]
def isNest : Cond → Bool
  | .fieldLinkNest .. => true
  | .methodLinkNest .. => true
  | _ => false
theorem nestW_ok : ∀ w ∈ nestW, isNest w = true := by decide +kernel
theorem nestW_in : ∀ w ∈ nestW, w ∈ lw_tbl := by
  have e : nestW = ([31, 37, 42, 43, 44, 53, 54, 56, 57, 59, 60, 76, 79, 87, 92, 95, 97, 125, 132, 149, 155, 178, 195, 196, 198, 199, 201, 202, 204, 205, 206, 208, 209, 210, 212, 228, 230, 232, 234, 236] : List Nat).filterMap (fun i => tables_1[i]?) := by decide +kernel
  intro w hw
  rw [e] at hw
  obtain ⟨i, -, hi⟩ := List.mem_filterMap.mp hw
  exact List.mem_append_right _ (List.mem_of_getElem? hi)
theorem q1_31 : Cond.methodLinkNest RX11 9 yX10_init "GalleryRays" ∈ nestW := List.mem_of_getElem? (i := 0) rfl
theorem q1_37 : Cond.methodLinkNest RX10 9 yX4_init "GalleryRays" ∈ nestW := List.mem_of_getElem? (i := 1) rfl
theorem q1_42 : Cond.fieldLinkNest RX11 48 "GalleryRays$Parts" "count" "I" "GalleryRays" ∈ nestW := List.mem_of_getElem? (i := 2) rfl
theorem q1_43 : Cond.fieldLinkNest RX9 26 "GalleryRays$Parts" "count" "I" "GalleryRays" ∈ nestW := List.mem_of_getElem? (i := 3) rfl
theorem q1_44 : Cond.fieldLinkNest RX8 124 "GalleryRays$Parts" "count" "I" "GalleryRays" ∈ nestW := List.mem_of_getElem? (i := 4) rfl
theorem q1_53 : Cond.fieldLinkNest RX11 44 "GalleryRays$Wall" "parts" "LGalleryRays$Parts;" "GalleryRays" ∈ nestW := List.mem_of_getElem? (i := 5) rfl
theorem q1_54 : Cond.fieldLinkNest RX8 120 "GalleryRays$Wall" "parts" "LGalleryRays$Parts;" "GalleryRays" ∈ nestW := List.mem_of_getElem? (i := 6) rfl
theorem q1_56 : Cond.fieldLinkNest RX8 112 "GalleryRays$Wall" "loss" "I" "GalleryRays" ∈ nestW := List.mem_of_getElem? (i := 7) rfl
theorem q1_57 : Cond.fieldLinkNest RX11 73 "GalleryRays$Wall" "loss" "I" "GalleryRays" ∈ nestW := List.mem_of_getElem? (i := 8) rfl
theorem q1_59 : Cond.fieldLinkNest RX8 140 "GalleryRays$Wall" "threshold" "I" "GalleryRays" ∈ nestW := List.mem_of_getElem? (i := 9) rfl
theorem q1_60 : Cond.fieldLinkNest RX11 77 "GalleryRays$Wall" "threshold" "I" "GalleryRays" ∈ nestW := List.mem_of_getElem? (i := 10) rfl
theorem q1_76 : Cond.methodLinkNest RX2 17 yX10_init "GalleryRays" ∈ nestW := List.mem_of_getElem? (i := 11) rfl
theorem q1_79 : Cond.fieldLinkNest RX11 174 "GalleryRays$History" "count" "I" "GalleryRays" ∈ nestW := List.mem_of_getElem? (i := 12) rfl
theorem q1_87 : Cond.methodLinkNest RX11 25 yX9_init "GalleryRays" ∈ nestW := List.mem_of_getElem? (i := 13) rfl
theorem q1_92 : Cond.methodLinkNest RX9 17 yX4_init "GalleryRays" ∈ nestW := List.mem_of_getElem? (i := 14) rfl
theorem q1_95 : Cond.fieldLinkNest RX11 90 "GalleryRays$Text" "found" "LGalleryRays$Parts;" "GalleryRays" ∈ nestW := List.mem_of_getElem? (i := 15) rfl
theorem q1_97 : Cond.fieldLinkNest RX11 80 "GalleryRays$Text" "length" "I" "GalleryRays" ∈ nestW := List.mem_of_getElem? (i := 16) rfl
theorem q1_125 : Cond.methodLinkNest RX8 19 yX3_init "GalleryRays" ∈ nestW := List.mem_of_getElem? (i := 17) rfl
theorem q1_132 : Cond.fieldLinkNest RX11 113 "GalleryRays$HitLog" "count" "I" "GalleryRays" ∈ nestW := List.mem_of_getElem? (i := 18) rfl
theorem q1_149 : Cond.methodLinkNest RX8 26 yX6_init "GalleryRays" ∈ nestW := List.mem_of_getElem? (i := 19) rfl
theorem q1_155 : Cond.fieldLinkNest RX11 126 "GalleryRays$PlaceMarks" "count" "I" "GalleryRays" ∈ nestW := List.mem_of_getElem? (i := 20) rfl
theorem q1_178 : Cond.methodLinkNest RX8 40 yX5_init "GalleryRays" ∈ nestW := List.mem_of_getElem? (i := 21) rfl
theorem q1_195 : Cond.fieldLinkNest RX3 30 "GalleryRays$Ray" "number" "I" "GalleryRays" ∈ nestW := List.mem_of_getElem? (i := 22) rfl
theorem q1_196 : Cond.fieldLinkNest RX8 106 "GalleryRays$Ray" "number" "I" "GalleryRays" ∈ nestW := List.mem_of_getElem? (i := 23) rfl
theorem q1_198 : Cond.fieldLinkNest RX3 35 "GalleryRays$Ray" "place" "I" "GalleryRays" ∈ nestW := List.mem_of_getElem? (i := 24) rfl
theorem q1_199 : Cond.fieldLinkNest RX8 89 "GalleryRays$Ray" "place" "I" "GalleryRays" ∈ nestW := List.mem_of_getElem? (i := 25) rfl
theorem q1_201 : Cond.fieldLinkNest RX3 44 "GalleryRays$Ray" "step" "I" "GalleryRays" ∈ nestW := List.mem_of_getElem? (i := 26) rfl
theorem q1_202 : Cond.fieldLinkNest RX8 92 "GalleryRays$Ray" "step" "I" "GalleryRays" ∈ nestW := List.mem_of_getElem? (i := 27) rfl
theorem q1_204 : Cond.fieldLinkNest RX1 26 "GalleryRays$Ray" "energy" "I" "GalleryRays" ∈ nestW := List.mem_of_getElem? (i := 28) rfl
theorem q1_205 : Cond.fieldLinkNest RX3 41 "GalleryRays$Ray" "energy" "I" "GalleryRays" ∈ nestW := List.mem_of_getElem? (i := 29) rfl
theorem q1_206 : Cond.fieldLinkNest RX8 137 "GalleryRays$Ray" "energy" "I" "GalleryRays" ∈ nestW := List.mem_of_getElem? (i := 30) rfl
theorem q1_208 : Cond.fieldLinkNest RX1 20 "GalleryRays$Ray" "arrival" "J" "GalleryRays" ∈ nestW := List.mem_of_getElem? (i := 31) rfl
theorem q1_209 : Cond.fieldLinkNest RX3 38 "GalleryRays$Ray" "arrival" "J" "GalleryRays" ∈ nestW := List.mem_of_getElem? (i := 32) rfl
theorem q1_210 : Cond.fieldLinkNest RX8 85 "GalleryRays$Ray" "arrival" "J" "GalleryRays" ∈ nestW := List.mem_of_getElem? (i := 33) rfl
theorem q1_212 : Cond.fieldLinkNest RX8 81 "GalleryRays$Ray" "going" "Z" "GalleryRays" ∈ nestW := List.mem_of_getElem? (i := 34) rfl
theorem q1_228 : Cond.fieldLinkNest RX11 109 "GalleryRays$Shot" "log" "LGalleryRays$HitLog;" "GalleryRays" ∈ nestW := List.mem_of_getElem? (i := 35) rfl
theorem q1_230 : Cond.fieldLinkNest RX11 122 "GalleryRays$Shot" "marks" "LGalleryRays$PlaceMarks;" "GalleryRays" ∈ nestW := List.mem_of_getElem? (i := 36) rfl
theorem q1_232 : Cond.fieldLinkNest RX11 132 "GalleryRays$Shot" "ears" "LGalleryRays$Ears;" "GalleryRays" ∈ nestW := List.mem_of_getElem? (i := 37) rfl
theorem q1_234 : Cond.fieldLinkNest RX11 147 "GalleryRays$Shot" "path" "LGalleryRays$Path;" "GalleryRays" ∈ nestW := List.mem_of_getElem? (i := 38) rfl
theorem q1_236 : Cond.fieldLinkNest RX11 119 "GalleryRays$Shot" "rayCount" "I" "GalleryRays" ∈ nestW := List.mem_of_getElem? (i := 39) rfl
theorem qp_0 : Cond.selects RX2 yX2_dropOldest yX2_dropOldest ∈ lw_all := lw_inP (i := 0) (by decide +kernel)
theorem qp_1 : Cond.selects RX9 yX9_readOne yX9_readOne ∈ lw_all := lw_inP (i := 1) (by decide +kernel)
theorem qp_2 : Cond.selects RX9 yX9_takeWord yX9_takeWord ∈ lw_all := lw_inP (i := 2) (by decide +kernel)
theorem qp_3 : Cond.selects RX9 yX9_sameSigns yX9_sameSigns ∈ lw_all := lw_inP (i := 3) (by decide +kernel)
theorem qp_4 : Cond.selects RX9 yX9_signAt yX9_signAt ∈ lw_all := lw_inP (i := 4) (by decide +kernel)
theorem qp_5 : Cond.selects RX9 yX9_take yX9_take ∈ lw_all := lw_inP (i := 5) (by decide +kernel)
theorem qp_6 : Cond.selects RX9 yX9_takeNumber yX9_takeNumber ∈ lw_all := lw_inP (i := 6) (by decide +kernel)
theorem qp_7 : Cond.selects RX8 yX8_begin yX8_begin ∈ lw_all := lw_inP (i := 7) (by decide +kernel)
theorem qp_8 : Cond.selects RX8 yX8_earliest yX8_earliest ∈ lw_all := lw_inP (i := 8) (by decide +kernel)
theorem qp_9 : Cond.selects RX8 yX8_meet yX8_meet ∈ lw_all := lw_inP (i := 9) (by decide +kernel)
theorem qp_10 : Cond.selects RX8 yX8_act yX8_act ∈ lw_all := lw_inP (i := 10) (by decide +kernel)
theorem qp_11 : Cond.selects RX8 yX8_split yX8_split ∈ lw_all := lw_inP (i := 11) (by decide +kernel)
theorem qp_12 : Cond.selects RX12 yX12_act yX12_act ∈ lw_all := lw_inP (i := 12) (by decide +kernel)
theorem qp_13 : Cond.selects RX12 yX12_adds yX12_adds ∈ lw_all := lw_inP (i := 13) (by decide +kernel)
theorem qp_14 : Cond.selects RX12 yX12_isPart yX12_isPart ∈ lw_all := lw_inP (i := 14) (by decide +kernel)
theorem qp_15 : Cond.selects RX12 yX12_sets yX12_sets ∈ lw_all := lw_inP (i := 15) (by decide +kernel)
theorem qp_16 : Cond.selects RX12 yX12_wrongAt yX12_wrongAt ∈ lw_all := lw_inP (i := 16) (by decide +kernel)
theorem qp_17 : Cond.selects RX12 yX12_readsPart yX12_readsPart ∈ lw_all := lw_inP (i := 17) (by decide +kernel)
theorem qp_18 : Cond.selects RX12 yX12_word yX12_word ∈ lw_all := lw_inP (i := 18) (by decide +kernel)
theorem qp_19 : Cond.selects RX12 yX12_takes yX12_takes ∈ lw_all := lw_inP (i := 19) (by decide +kernel)
theorem qp_20 : Cond.selects RX12 yX12_sign yX12_sign ∈ lw_all := lw_inP (i := 20) (by decide +kernel)
theorem qp_21 : Cond.selects RX12 yX12_four yX12_four ∈ lw_all := lw_inP (i := 21) (by decide +kernel)
theorem qp_22 : Cond.selects RX12 yX12_number yX12_number ∈ lw_all := lw_inP (i := 22) (by decide +kernel)
theorem qp_23 : Cond.selects RX12 yX12_begins yX12_begins ∈ lw_all := lw_inP (i := 23) (by decide +kernel)
theorem qp_24 : Cond.selects RX12 yX12_next yX12_next ∈ lw_all := lw_inP (i := 24) (by decide +kernel)
theorem qp_25 : Cond.selects RX12 yX12_goes yX12_goes ∈ lw_all := lw_inP (i := 25) (by decide +kernel)
theorem qp_26 : Cond.selects RX12 yX12_covers yX12_covers ∈ lw_all := lw_inP (i := 26) (by decide +kernel)
theorem qp_27 : Cond.selects RX12 yX12_meets yX12_meets ∈ lw_all := lw_inP (i := 27) (by decide +kernel)
theorem qp_28 : Cond.selects RX12 yX12_hears yX12_hears ∈ lw_all := lw_inP (i := 28) (by decide +kernel)
theorem qp_29 : Cond.selects RX12 yX12_covered yX12_covered ∈ lw_all := lw_inP (i := 29) (by decide +kernel)
theorem qp_30 : Cond.selects RX12 yX12_heardOf yX12_heardOf ∈ lw_all := lw_inP (i := 30) (by decide +kernel)
theorem qp_31 : Cond.selects RX12 yX12_crosses yX12_crosses ∈ lw_all := lw_inP (i := 31) (by decide +kernel)
theorem inX0 : ∀ w ∈ u_ws RX0 TX0 0, w ∈ lw_all := fun _ h => absurd h List.not_mem_nil
theorem inX1 : ∀ w ∈ u_ws RX1 TX1 1, w ∈ lw_all := by
  have e : u_ws RX1 TX1 1 = [Cond.laysFinal "GalleryRays$Ears" "GalleryRays$Ears" "numbers" "[J"] := by decide +kernel
  rw [e]
  exact List.forall_mem_cons.mpr ⟨q1_173, fun _ h => absurd h List.not_mem_nil⟩
theorem inX2 : ∀ w ∈ u_ws RX2 TX2 2, w ∈ lw_all := by
  have e : u_ws RX2 TX2 2 = [Cond.laysFinal "GalleryRays$History" "GalleryRays$History" "states" "[LGalleryRays$Wall;", Cond.lays "GalleryRays$History" "GalleryRays$History" "count" "I"] := by decide +kernel
  rw [e]
  exact List.forall_mem_cons.mpr ⟨q1_80, List.forall_mem_cons.mpr ⟨q1_82, fun _ h => absurd h List.not_mem_nil⟩⟩
theorem inX3 : ∀ w ∈ u_ws RX3 TX3 5, w ∈ lw_all := by
  have e : u_ws RX3 TX3 5 = [Cond.laysFinal "GalleryRays$HitLog" "GalleryRays$HitLog" "numbers" "[J", Cond.laysFinal "GalleryRays$HitLog" "GalleryRays$HitLog" "echoes" "[I", Cond.lays "GalleryRays$HitLog" "GalleryRays$HitLog" "count" "I", Cond.lays "GalleryRays$HitLog" "GalleryRays$HitLog" "echoCount" "I", Cond.lays "GalleryRays$HitLog" "GalleryRays$HitLog" "energySum" "J"] := by decide +kernel
  rw [e]
  exact List.forall_mem_cons.mpr ⟨q1_135, List.forall_mem_cons.mpr ⟨q1_137, List.forall_mem_cons.mpr ⟨q1_139, List.forall_mem_cons.mpr ⟨q1_141, List.forall_mem_cons.mpr ⟨q1_143, fun _ h => absurd h List.not_mem_nil⟩⟩⟩⟩⟩
theorem inX4 : ∀ w ∈ u_ws RX4 TX4 2, w ∈ lw_all := by
  have e : u_ws RX4 TX4 2 = [Cond.laysFinal "GalleryRays$Parts" "GalleryRays$Parts" "numbers" "[I", Cond.lays "GalleryRays$Parts" "GalleryRays$Parts" "count" "I"] := by decide +kernel
  rw [e]
  exact List.forall_mem_cons.mpr ⟨q1_46, List.forall_mem_cons.mpr ⟨q1_48, fun _ h => absurd h List.not_mem_nil⟩⟩
theorem inX5 : ∀ w ∈ u_ws RX5 TX5 2, w ∈ lw_all := by
  have e : u_ws RX5 TX5 2 = [Cond.laysFinal "GalleryRays$Path" "GalleryRays$Path" "corners" "[I", Cond.lays "GalleryRays$Path" "GalleryRays$Path" "count" "I"] := by decide +kernel
  rw [e]
  exact List.forall_mem_cons.mpr ⟨q1_184, List.forall_mem_cons.mpr ⟨q1_186, fun _ h => absurd h List.not_mem_nil⟩⟩
theorem inX6 : ∀ w ∈ u_ws RX6 TX6 2, w ∈ lw_all := by
  have e : u_ws RX6 TX6 2 = [Cond.laysFinal "GalleryRays$PlaceMarks" "GalleryRays$PlaceMarks" "words" "[J", Cond.lays "GalleryRays$PlaceMarks" "GalleryRays$PlaceMarks" "count" "I"] := by decide +kernel
  rw [e]
  exact List.forall_mem_cons.mpr ⟨q1_156, List.forall_mem_cons.mpr ⟨q1_158, fun _ h => absurd h List.not_mem_nil⟩⟩
theorem inX7 : ∀ w ∈ u_ws RX7 TX7 6, w ∈ lw_all := by
  have e : u_ws RX7 TX7 6 = [Cond.laysFinal "GalleryRays$Ray" "GalleryRays$Ray" "number" "I", Cond.lays "GalleryRays$Ray" "GalleryRays$Ray" "place" "I", Cond.lays "GalleryRays$Ray" "GalleryRays$Ray" "step" "I", Cond.lays "GalleryRays$Ray" "GalleryRays$Ray" "energy" "I", Cond.lays "GalleryRays$Ray" "GalleryRays$Ray" "arrival" "J", Cond.lays "GalleryRays$Ray" "GalleryRays$Ray" "going" "Z"] := by decide +kernel
  rw [e]
  exact List.forall_mem_cons.mpr ⟨q1_213, List.forall_mem_cons.mpr ⟨q1_215, List.forall_mem_cons.mpr ⟨q1_217, List.forall_mem_cons.mpr ⟨q1_219, List.forall_mem_cons.mpr ⟨q1_221, List.forall_mem_cons.mpr ⟨q1_223, fun _ h => absurd h List.not_mem_nil⟩⟩⟩⟩⟩⟩
theorem inX8 : ∀ w ∈ u_ws RX8 TX8 6, w ∈ lw_all := by
  have e : u_ws RX8 TX8 6 = [Cond.laysFinal "GalleryRays$Shot" "GalleryRays$Shot" "rays" "[LGalleryRays$Ray;", Cond.laysFinal "GalleryRays$Shot" "GalleryRays$Shot" "log" "LGalleryRays$HitLog;", Cond.laysFinal "GalleryRays$Shot" "GalleryRays$Shot" "marks" "LGalleryRays$PlaceMarks;", Cond.laysFinal "GalleryRays$Shot" "GalleryRays$Shot" "ears" "LGalleryRays$Ears;", Cond.laysFinal "GalleryRays$Shot" "GalleryRays$Shot" "path" "LGalleryRays$Path;", Cond.lays "GalleryRays$Shot" "GalleryRays$Shot" "rayCount" "I"] := by decide +kernel
  rw [e]
  exact List.forall_mem_cons.mpr ⟨q1_237, List.forall_mem_cons.mpr ⟨q1_239, List.forall_mem_cons.mpr ⟨q2_1, List.forall_mem_cons.mpr ⟨q2_3, List.forall_mem_cons.mpr ⟨q2_5, List.forall_mem_cons.mpr ⟨q2_7, fun _ h => absurd h List.not_mem_nil⟩⟩⟩⟩⟩⟩
theorem inX9 : ∀ w ∈ u_ws RX9 TX9 6, w ∈ lw_all := by
  have e : u_ws RX9 TX9 6 = [Cond.laysFinal "GalleryRays$Text" "GalleryRays$Text" "signs" "[C", Cond.laysFinal "GalleryRays$Text" "GalleryRays$Text" "found" "LGalleryRays$Parts;", Cond.lays "GalleryRays$Text" "GalleryRays$Text" "length" "I", Cond.lays "GalleryRays$Text" "GalleryRays$Text" "at" "I", Cond.lays "GalleryRays$Text" "GalleryRays$Text" "broken" "Z", Cond.lays "GalleryRays$Text" "GalleryRays$Text" "outOfRange" "I"] := by decide +kernel
  rw [e]
  exact List.forall_mem_cons.mpr ⟨q1_101, List.forall_mem_cons.mpr ⟨q1_103, List.forall_mem_cons.mpr ⟨q1_105, List.forall_mem_cons.mpr ⟨q1_107, List.forall_mem_cons.mpr ⟨q1_109, List.forall_mem_cons.mpr ⟨q1_111, fun _ h => absurd h List.not_mem_nil⟩⟩⟩⟩⟩⟩
theorem inX10 : ∀ w ∈ u_ws RX10 TX10 3, w ∈ lw_all := by
  have e : u_ws RX10 TX10 3 = [Cond.laysFinal "GalleryRays$Wall" "GalleryRays$Wall" "parts" "LGalleryRays$Parts;", Cond.lays "GalleryRays$Wall" "GalleryRays$Wall" "loss" "I", Cond.lays "GalleryRays$Wall" "GalleryRays$Wall" "threshold" "I"] := by decide +kernel
  rw [e]
  exact List.forall_mem_cons.mpr ⟨q1_61, List.forall_mem_cons.mpr ⟨q1_63, List.forall_mem_cons.mpr ⟨q1_65, fun _ h => absurd h List.not_mem_nil⟩⟩⟩
theorem inX11 : ∀ w ∈ u_ws RX11 TX11 4, w ∈ lw_all := by
  have e : u_ws RX11 TX11 4 = [Cond.laysFinal "GalleryRays" "GalleryRays" "wall" "LGalleryRays$Wall;", Cond.laysFinal "GalleryRays" "GalleryRays" "history" "LGalleryRays$History;", Cond.laysFinal "GalleryRays" "GalleryRays" "text" "LGalleryRays$Text;", Cond.laysFinal "GalleryRays" "GalleryRays" "shot" "LGalleryRays$Shot;"] := by decide +kernel
  rw [e]
  exact List.forall_mem_cons.mpr ⟨q2_14, List.forall_mem_cons.mpr ⟨q2_16, List.forall_mem_cons.mpr ⟨q2_18, List.forall_mem_cons.mpr ⟨q2_20, fun _ h => absurd h List.not_mem_nil⟩⟩⟩⟩
theorem inX12 : ∀ w ∈ u_ws RX12 TX12 27, w ∈ lw_all := by
  have e : u_ws RX12 TX12 27 = [Cond.laysFinal "GalleryRaysModel" "GalleryRaysModel" "v" "[I", Cond.laysFinal "GalleryRaysModel" "GalleryRaysModel" "past" "[I", Cond.lays "GalleryRaysModel" "GalleryRaysModel" "pastMany" "I", Cond.laysFinal "GalleryRaysModel" "GalleryRaysModel" "text" "[I", Cond.lays "GalleryRaysModel" "GalleryRaysModel" "typed" "I", Cond.lays "GalleryRaysModel" "GalleryRaysModel" "at" "I", Cond.lays "GalleryRaysModel" "GalleryRaysModel" "found" "I", Cond.lays "GalleryRaysModel" "GalleryRaysModel" "wrong" "I", Cond.laysFinal "GalleryRaysModel" "GalleryRaysModel" "kinds" "[I", Cond.laysFinal "GalleryRaysModel" "GalleryRaysModel" "numbers" "[I", Cond.laysFinal "GalleryRaysModel" "GalleryRaysModel" "rayPlace" "[I", Cond.laysFinal "GalleryRaysModel" "GalleryRaysModel" "rayTime" "[J", Cond.laysFinal "GalleryRaysModel" "GalleryRaysModel" "rayEnergy" "[I", Cond.laysFinal "GalleryRaysModel" "GalleryRaysModel" "rayStep" "[I", Cond.laysFinal "GalleryRaysModel" "GalleryRaysModel" "isLive" "[Z", Cond.lays "GalleryRaysModel" "GalleryRaysModel" "rayMany" "I", Cond.laysFinal "GalleryRaysModel" "GalleryRaysModel" "hits" "[J", Cond.laysFinal "GalleryRaysModel" "GalleryRaysModel" "isEcho" "[Z", Cond.lays "GalleryRaysModel" "GalleryRaysModel" "hitMany" "I", Cond.laysFinal "GalleryRaysModel" "GalleryRaysModel" "heardMany" "[I", Cond.laysFinal "GalleryRaysModel" "GalleryRaysModel" "heardSum" "[J", Cond.laysFinal "GalleryRaysModel" "GalleryRaysModel" "heardFirst" "[J", Cond.laysFinal "GalleryRaysModel" "GalleryRaysModel" "heardMost" "[I", Cond.lays "GalleryRaysModel" "GalleryRaysModel" "shots" "I", Cond.lays "GalleryRaysModel" "GalleryRaysModel" "begin" "I", Cond.laysFinal "GalleryRaysModel" "GalleryRaysModel" "isHit" "[Z", Cond.laysFinal "GalleryRaysModel" "GalleryRaysModel" "ends" "[I"] := by decide +kernel
  rw [e]
  exact List.forall_mem_cons.mpr ⟨q4_38, List.forall_mem_cons.mpr ⟨q4_40, List.forall_mem_cons.mpr ⟨q4_42, List.forall_mem_cons.mpr ⟨q4_44, List.forall_mem_cons.mpr ⟨q4_46, List.forall_mem_cons.mpr ⟨q4_48, List.forall_mem_cons.mpr ⟨q4_50, List.forall_mem_cons.mpr ⟨q4_52, List.forall_mem_cons.mpr ⟨q4_54, List.forall_mem_cons.mpr ⟨q4_56, List.forall_mem_cons.mpr ⟨q4_58, List.forall_mem_cons.mpr ⟨q4_60, List.forall_mem_cons.mpr ⟨q4_62, List.forall_mem_cons.mpr ⟨q4_64, List.forall_mem_cons.mpr ⟨q4_66, List.forall_mem_cons.mpr ⟨q4_68, List.forall_mem_cons.mpr ⟨q4_70, List.forall_mem_cons.mpr ⟨q4_72, List.forall_mem_cons.mpr ⟨q4_74, List.forall_mem_cons.mpr ⟨q4_76, List.forall_mem_cons.mpr ⟨q4_78, List.forall_mem_cons.mpr ⟨q4_80, List.forall_mem_cons.mpr ⟨q4_82, List.forall_mem_cons.mpr ⟨q4_84, List.forall_mem_cons.mpr ⟨q4_86, List.forall_mem_cons.mpr ⟨q4_88, List.forall_mem_cons.mpr ⟨q4_90, fun _ h => absurd h List.not_mem_nil⟩⟩⟩⟩⟩⟩⟩⟩⟩⟩⟩⟩⟩⟩⟩⟩⟩⟩⟩⟩⟩⟩⟩⟩⟩⟩⟩
theorem inJ13 : ∀ w ∈ u_ws RJ13 TJ13 0, w ∈ lw_all := fun _ h => absurd h List.not_mem_nil
theorem inJ9 : ∀ w ∈ u_ws RJ9 TJ9 0, w ∈ lw_all := fun _ h => absurd h List.not_mem_nil
theorem inJ0 : ∀ w ∈ u_ws RJ0 TJ0 0, w ∈ lw_all := fun _ h => absurd h List.not_mem_nil
theorem inJ1 : ∀ w ∈ u_ws RJ1 TJ1 0, w ∈ lw_all := fun _ h => absurd h List.not_mem_nil
theorem inJ2 : ∀ w ∈ u_ws RJ2 TJ2 0, w ∈ lw_all := fun _ h => absurd h List.not_mem_nil
theorem inJ10 : ∀ w ∈ u_ws RJ10 TJ10 0, w ∈ lw_all := fun _ h => absurd h List.not_mem_nil
theorem inJ3 : ∀ w ∈ u_ws RJ3 TJ3 0, w ∈ lw_all := fun _ h => absurd h List.not_mem_nil
def mOk (y : MethodName) (n : Nat) : Prop := y.cls ≠ "java/lang/invoke/MethodHandle" ∧ y.cls ≠ "java/lang/invoke/VarHandle" ∧ (parseMethodDescriptor y.desc).map (fun d => d.parameters.length) = some n
def CIs (own : String) (idx : Nat) (y : MethodName) (cy : ByteArray) (nLy : Nat) (rt : Option FieldType) (n : Nat) : Prop := GoodIn lw_all (va_wsS own idx y (.code y cy nLy rt :: lw_all)) ∧ mOk y n
def CIv (own : String) (idx : Nat) (y : MethodName) (cy : ByteArray) (nLy : Nat) (rt : Option FieldType) (n : Nat) : Prop := GoodIn lw_all (wsV own idx y.cls y (.code y cy nLy rt :: lw_all)) ∧ mOk y n
def CIi (own : String) (idx : Nat) (y : MethodName) (cy : ByteArray) (nLy n : Nat) : Prop := GoodIn lw_all (.code y cy nLy none :: lw_all) ∧ (Cond.initialized y.cls ∈ lw_all) ∧ (Cond.methodLink own idx y ∈ lw_all) ∧ (Cond.instanceMethod y ∈ lw_all) ∧ y.name = "<init>" ∧ mOk y n
def CIn (own : String) (idx : Nat) (y : MethodName) (cy : ByteArray) (nLy n : Nat) : Prop := GoodIn lw_all (.code y cy nLy none :: lw_all) ∧ (Cond.initialized y.cls ∈ lw_all) ∧ (∃ host, Cond.methodLinkNest own idx y host ∈ nestW) ∧ (Cond.instanceMethod y ∈ lw_all) ∧ y.name = "<init>" ∧ mOk y n
theorem fm_n : ∀ w ∈ lw_all, w ∈ lw_all := fun _ h => h
theorem CIs_of {own : String} {idx : Nat} {y : MethodName} {cy : ByteArray} {nLy : Nat} {rt : Option FieldType} {n : Nat} (h1 : Cond.methodLink own idx y ∈ lw_all) (h2 : Cond.static y ∈ lw_all) (h3 : Cond.initialized y.cls ∈ lw_all) (h4 : Cond.code y cy nLy rt ∈ lw_all) (h : mOk y n) : CIs own idx y cy nLy rt n :=
  ⟨gi_of (List.forall_mem_cons.mpr ⟨h1, List.forall_mem_cons.mpr ⟨h2, List.forall_mem_cons.mpr ⟨h3, List.forall_mem_cons.mpr ⟨h4, fm_n⟩⟩⟩⟩), h⟩
theorem CIv_of {own : String} {idx : Nat} {y : MethodName} {cy : ByteArray} {nLy : Nat} {rt : Option FieldType} {n : Nat} (h1 : Cond.methodLink own idx y ∈ lw_all) (h2 : Cond.instanceMethod y ∈ lw_all) (h5 : Cond.selects y.cls y y ∈ lw_all) (h3 : Cond.initialized y.cls ∈ lw_all) (h4 : Cond.code y cy nLy rt ∈ lw_all) (h : mOk y n) : CIv own idx y cy nLy rt n :=
  ⟨gi_of (List.forall_mem_cons.mpr ⟨h1, List.forall_mem_cons.mpr ⟨h2, List.forall_mem_cons.mpr ⟨h5, List.forall_mem_cons.mpr ⟨h3, List.forall_mem_cons.mpr ⟨h4, fm_n⟩⟩⟩⟩⟩), h⟩
theorem ci_X0_9 : CIs RX0 9 yJ9_floorMod_7cf53 cJ9_floorMod_7cf53 3 (Option.some FieldType.int) 2 := CIs_of q3_43 q3_44 q1_19 q3_45 ⟨by decide +kernel, by decide +kernel, by decide +kernel⟩
theorem ci_X0_22 : CIs RX0 22 yJ9_abs_0f7a4 cJ9_abs_0f7a4 1 (Option.some FieldType.int) 1 := CIs_of q3_15 q3_16 q1_19 q3_17 ⟨by decide +kernel, by decide +kernel, by decide +kernel⟩
theorem ci_X0_26 : CIs RX0 26 yX0_sine cX0_sine 4 (Option.some FieldType.int) 2 := CIs_of q3_18 q3_19 q1_13 q3_20 ⟨by decide +kernel, by decide +kernel, by decide +kernel⟩
theorem ci_X0_32 : CIs RX0 32 yX0_isStep cX0_isStep 1 (Option.some FieldType.boolean) 1 := CIs_of q3_212 q2_228 q1_13 q2_229 ⟨by decide +kernel, by decide +kernel, by decide +kernel⟩
theorem ci_X0_36 : CIs RX0 36 yX0_isBetter cX0_isBetter 4 (Option.some FieldType.boolean) 2 := CIs_of q3_213 q3_214 q1_13 q3_215 ⟨by decide +kernel, by decide +kernel, by decide +kernel⟩
theorem ci_X1_15 : CIv RX1 15 yX1_forget cX1_forget 3 none 0 := CIv_of q1_167 q1_168 q1_169 q1_9 q1_170 ⟨by decide +kernel, by decide +kernel, by decide +kernel⟩
theorem ci_X1_30 : CIs RX1 30 yJ9_max_f86c9 cJ9_max_f86c9 4 (Option.some FieldType.long) 2 := CIs_of q3_86 q3_87 q1_19 q3_88 ⟨by decide +kernel, by decide +kernel, by decide +kernel⟩
theorem ci_X2_17 : CIn RX2 17 yX10_init cX10_init 1 0 := ⟨gi_of (List.forall_mem_cons.mpr ⟨q1_33, fm_n⟩), q1_2, ⟨_, q1_76⟩, q1_32, rfl, ⟨by decide +kernel, by decide +kernel, by decide +kernel⟩⟩
theorem ci_X2_22 : CIv RX2 22 yX2_dropOldest cX2_dropOldest 3 none 0 := CIv_of q2_48 q2_50 qp_0 q1_4 q2_51 ⟨by decide +kernel, by decide +kernel, by decide +kernel⟩
theorem ci_X2_25 : CIv RX2 25 yX10_copyFrom cX10_copyFrom 2 none 1 := CIv_of q2_52 q2_53 q2_54 q1_2 q2_55 ⟨by decide +kernel, by decide +kernel, by decide +kernel⟩
theorem ci_X4_15 : CIs RX4 15 yX0_isPlace cX0_isPlace 1 (Option.some FieldType.boolean) 1 := CIs_of q2_30 q2_31 q1_13 q2_32 ⟨by decide +kernel, by decide +kernel, by decide +kernel⟩
theorem ci_X4_21 : CIs RX4 21 yX4_leastBy cX4_leastBy 1 (Option.some FieldType.int) 1 := CIs_of q2_33 q2_34 q1_3 q2_35 ⟨by decide +kernel, by decide +kernel, by decide +kernel⟩
theorem ci_X4_25 : CIs RX4 25 yX4_mostBy cX4_mostBy 1 (Option.some FieldType.int) 1 := CIs_of q2_39 q2_40 q1_3 q2_41 ⟨by decide +kernel, by decide +kernel, by decide +kernel⟩
theorem ci_X4_28 : CIs RX4 28 yX4_mayBeNegative cX4_mayBeNegative 1 (Option.some FieldType.boolean) 1 := CIs_of q2_36 q2_37 q1_3 q2_38 ⟨by decide +kernel, by decide +kernel, by decide +kernel⟩
theorem ci_X4_45 : CIv RX4 45 yX4_has cX4_has 2 (Option.some FieldType.boolean) 1 := CIv_of q2_79 q2_72 q2_73 q1_3 q2_74 ⟨by decide +kernel, by decide +kernel, by decide +kernel⟩
theorem ci_X4_49 : CIv RX4 49 yX4_numberOf cX4_numberOf 3 (Option.some FieldType.int) 2 := CIv_of q2_219 q2_85 q2_86 q1_3 q2_87 ⟨by decide +kernel, by decide +kernel, by decide +kernel⟩
theorem ci_X4_53 : CIs RX4 53 yJ9_floorMod_7cf53 cJ9_floorMod_7cf53 3 (Option.some FieldType.int) 2 := CIs_of q3_64 q3_44 q1_19 q3_45 ⟨by decide +kernel, by decide +kernel, by decide +kernel⟩
theorem ci_X4_58 : CIv RX4 58 yX4_append cX4_append 6 none 4 := CIv_of q2_220 q2_64 q2_65 q1_3 q2_66 ⟨by decide +kernel, by decide +kernel, by decide +kernel⟩
theorem ci_X5_19 : CIv RX5 19 yX5_goTo cX5_goTo 2 none 1 := CIv_of q3_7 q3_8 q3_9 q1_10 q3_10 ⟨by decide +kernel, by decide +kernel, by decide +kernel⟩
theorem ci_X5_23 : CIs RX5 23 yJ9_min_7cf53 cJ9_min_7cf53 2 (Option.some FieldType.int) 2 := CIs_of q3_167 q3_168 q1_19 q3_169 ⟨by decide +kernel, by decide +kernel, by decide +kernel⟩
theorem ci_X5_29 : CIs RX5 29 yX5_cross cX5_cross 6 (Option.some FieldType.boolean) 4 := CIs_of q3_170 q3_171 q1_10 q3_172 ⟨by decide +kernel, by decide +kernel, by decide +kernel⟩
theorem ci_X5_33 : CIs RX5 33 yJ9_max_7cf53 cJ9_max_7cf53 2 (Option.some FieldType.int) 2 := CIs_of q3_173 q2_195 q1_19 q2_196 ⟨by decide +kernel, by decide +kernel, by decide +kernel⟩
theorem ci_X5_36 : CIs RX5 36 yX5_isBetween cX5_isBetween 3 (Option.some FieldType.boolean) 3 := CIs_of q3_174 q3_175 q1_10 q3_176 ⟨by decide +kernel, by decide +kernel, by decide +kernel⟩
theorem ci_X5_40 : CIs RX5 40 yX5_isBeyond cX5_isBeyond 3 (Option.some FieldType.boolean) 3 := CIs_of q3_177 q3_178 q1_10 q3_179 ⟨by decide +kernel, by decide +kernel, by decide +kernel⟩
theorem ci_X6_19 : CIs RX6 19 yX0_isPlace cX0_isPlace 1 (Option.some FieldType.boolean) 1 := CIs_of q3_54 q2_31 q1_13 q2_32 ⟨by decide +kernel, by decide +kernel, by decide +kernel⟩
theorem ci_X6_25 : CIs RX6 25 yJ13_bitCount_95d88 cJ13_bitCount_95d88 2 (Option.some FieldType.int) 1 := CIs_of q3_125 q3_126 q1_20 q3_127 ⟨by decide +kernel, by decide +kernel, by decide +kernel⟩
theorem ci_X6_31 : CIs RX6 31 yX6_lowestBit cX6_lowestBit 2 (Option.some FieldType.int) 1 := CIs_of q3_122 q3_123 q1_8 q3_124 ⟨by decide +kernel, by decide +kernel, by decide +kernel⟩
theorem ci_X6_34 : CIs RX6 34 yJ9_max_7cf53 cJ9_max_7cf53 2 (Option.some FieldType.int) 2 := CIs_of q3_131 q2_195 q1_19 q2_196 ⟨by decide +kernel, by decide +kernel, by decide +kernel⟩
theorem ci_X7_30 : CIs RX7 30 yX0_tilted cX0_tilted 3 (Option.some FieldType.int) 2 := CIs_of q3_74 q3_75 q1_13 q3_76 ⟨by decide +kernel, by decide +kernel, by decide +kernel⟩
theorem ci_X8_19 : CIn RX8 19 yX3_init cX3_init 1 0 := ⟨gi_of (List.forall_mem_cons.mpr ⟨q1_127, fm_n⟩), q1_7, ⟨_, q1_125⟩, q1_126, rfl, ⟨by decide +kernel, by decide +kernel, by decide +kernel⟩⟩
theorem ci_X8_26 : CIn RX8 26 yX6_init cX6_init 1 0 := ⟨gi_of (List.forall_mem_cons.mpr ⟨q1_151, fm_n⟩), q1_8, ⟨_, q1_149⟩, q1_150, rfl, ⟨by decide +kernel, by decide +kernel, by decide +kernel⟩⟩
theorem ci_X8_33 : CIi RX8 33 yX1_init cX1_init 1 0 := ⟨gi_of (List.forall_mem_cons.mpr ⟨q1_165, fm_n⟩), q1_9, q1_163, q1_164, rfl, ⟨by decide +kernel, by decide +kernel, by decide +kernel⟩⟩
theorem ci_X8_40 : CIn RX8 40 yX5_init cX5_init 1 0 := ⟨gi_of (List.forall_mem_cons.mpr ⟨q1_180, fm_n⟩), q1_10, ⟨_, q1_178⟩, q1_179, rfl, ⟨by decide +kernel, by decide +kernel, by decide +kernel⟩⟩
theorem ci_X8_45 : CIi RX8 45 yX7_init cX7_init 2 1 := ⟨gi_of (List.forall_mem_cons.mpr ⟨q1_192, fm_n⟩), q1_11, q1_190, q1_191, rfl, ⟨by decide +kernel, by decide +kernel, by decide +kernel⟩⟩
theorem ci_X8_48 : CIv RX8 48 yX3_forget cX3_forget 1 none 0 := CIv_of q2_234 q2_235 q2_236 q1_7 q2_237 ⟨by decide +kernel, by decide +kernel, by decide +kernel⟩
theorem ci_X8_51 : CIv RX8 51 yX6_forget cX6_forget 2 none 0 := CIv_of q2_238 q2_239 q3_0 q1_8 q3_1 ⟨by decide +kernel, by decide +kernel, by decide +kernel⟩
theorem ci_X8_52 : CIv RX8 52 yX1_forget cX1_forget 3 none 0 := CIv_of q3_2 q1_168 q1_169 q1_9 q1_170 ⟨by decide +kernel, by decide +kernel, by decide +kernel⟩
theorem ci_X8_53 : CIv RX8 53 yX5_startAt cX5_startAt 2 none 1 := CIv_of q3_3 q3_4 q3_5 q1_10 q3_6 ⟨by decide +kernel, by decide +kernel, by decide +kernel⟩
theorem ci_X8_60 : CIs RX8 60 yX0_chordTime cX0_chordTime 1 (Option.some FieldType.int) 1 := CIs_of q3_11 q3_12 q1_13 q3_13 ⟨by decide +kernel, by decide +kernel, by decide +kernel⟩
theorem ci_X8_66 : CIv RX8 66 yX8_begin cX8_begin 6 none 4 := CIv_of q3_24 q3_26 qp_7 q1_6 q3_27 ⟨by decide +kernel, by decide +kernel, by decide +kernel⟩
theorem ci_X8_70 : CIv RX8 70 yX8_earliest cX8_earliest 4 (Option.some (FieldType.object "GalleryRays$Ray")) 0 := CIv_of q3_32 q3_34 qp_8 q1_6 q3_35 ⟨by decide +kernel, by decide +kernel, by decide +kernel⟩
theorem ci_X8_74 : CIv RX8 74 yX8_meet cX8_meet 4 none 2 := CIv_of q3_36 q3_38 qp_9 q1_6 q3_39 ⟨by decide +kernel, by decide +kernel, by decide +kernel⟩
theorem ci_X8_78 : CIv RX8 78 yX7_start cX7_start 6 none 4 := CIv_of q3_28 q3_29 q3_30 q1_11 q3_31 ⟨by decide +kernel, by decide +kernel, by decide +kernel⟩
theorem ci_X8_95 : CIs RX8 95 yX0_placeAfter cX0_placeAfter 2 (Option.some FieldType.int) 2 := CIs_of q3_40 q3_41 q1_13 q3_42 ⟨by decide +kernel, by decide +kernel, by decide +kernel⟩
theorem ci_X8_99 : CIv RX8 99 yX3_note cX3_note 3 none 1 := CIv_of q3_46 q3_47 q3_48 q1_7 q3_49 ⟨by decide +kernel, by decide +kernel, by decide +kernel⟩
theorem ci_X8_103 : CIv RX8 103 yX6_mark cX6_mark 4 none 1 := CIv_of q3_50 q3_51 q3_52 q1_8 q3_53 ⟨by decide +kernel, by decide +kernel, by decide +kernel⟩
theorem ci_X8_109 : CIv RX8 109 yX5_goTo cX5_goTo 2 none 1 := CIv_of q3_55 q3_8 q3_9 q1_10 q3_10 ⟨by decide +kernel, by decide +kernel, by decide +kernel⟩
theorem ci_X8_117 : CIv RX8 117 yX7_lose cX7_lose 2 none 1 := CIv_of q3_56 q3_57 q3_58 q1_11 q3_59 ⟨by decide +kernel, by decide +kernel, by decide +kernel⟩
theorem ci_X8_129 : CIv RX8 129 yX4_covers cX4_covers 3 (Option.some FieldType.boolean) 2 := CIv_of q3_60 q3_61 q3_62 q1_3 q3_63 ⟨by decide +kernel, by decide +kernel, by decide +kernel⟩
theorem ci_X8_133 : CIv RX8 133 yX8_act cX8_act 5 none 3 := CIv_of q3_65 q3_67 qp_10 q1_6 q3_68 ⟨by decide +kernel, by decide +kernel, by decide +kernel⟩
theorem ci_X8_143 : CIv RX8 143 yX4_numberOf cX4_numberOf 3 (Option.some FieldType.int) 2 := CIv_of q3_69 q2_85 q2_86 q1_3 q2_87 ⟨by decide +kernel, by decide +kernel, by decide +kernel⟩
theorem ci_X8_146 : CIv RX8 146 yX7_tilt cX7_tilt 3 none 1 := CIv_of q3_70 q3_71 q3_72 q1_11 q3_73 ⟨by decide +kernel, by decide +kernel, by decide +kernel⟩
theorem ci_X8_149 : CIv RX8 149 yX8_split cX8_split 6 none 3 := CIv_of q3_77 q3_79 qp_11 q1_6 q3_80 ⟨by decide +kernel, by decide +kernel, by decide +kernel⟩
theorem ci_X8_153 : CIv RX8 153 yX1_hear cX1_hear 4 none 2 := CIv_of q3_82 q3_83 q3_84 q1_9 q3_85 ⟨by decide +kernel, by decide +kernel, by decide +kernel⟩
theorem ci_X8_157 : CIv RX8 157 yX3_noteEcho cX3_noteEcho 2 none 0 := CIv_of q3_89 q3_90 q3_91 q1_7 q3_92 ⟨by decide +kernel, by decide +kernel, by decide +kernel⟩
theorem ci_X8_160 : CIs RX8 160 yX0_tilted cX0_tilted 3 (Option.some FieldType.int) 2 := CIs_of q3_81 q3_75 q1_13 q3_76 ⟨by decide +kernel, by decide +kernel, by decide +kernel⟩
theorem ci_X9_17 : CIn RX9 17 yX4_init cX4_init 1 0 := ⟨gi_of (List.forall_mem_cons.mpr ⟨q1_39, fm_n⟩), q1_3, ⟨_, q1_92⟩, q1_38, rfl, ⟨by decide +kernel, by decide +kernel, by decide +kernel⟩⟩
theorem ci_X9_39 : CIv RX9 39 yX9_readOne cX9_readOne 5 none 0 := CIv_of q2_122 q2_124 qp_1 q1_5 q2_125 ⟨by decide +kernel, by decide +kernel, by decide +kernel⟩
theorem ci_X9_42 : CIv RX9 42 yX9_take cX9_take 2 none 1 := CIv_of q2_197 q2_199 qp_5 q1_5 q2_200 ⟨by decide +kernel, by decide +kernel, by decide +kernel⟩
theorem ci_X9_46 : CIv RX9 46 yX9_takeWord cX9_takeWord 5 (Option.some FieldType.int) 0 := CIv_of q2_126 q2_128 qp_2 q1_5 q2_129 ⟨by decide +kernel, by decide +kernel, by decide +kernel⟩
theorem ci_X9_50 : CIv RX9 50 yX9_takeNumber cX9_takeNumber 7 (Option.some FieldType.int) 3 := CIv_of q2_201 q2_203 qp_6 q1_5 q2_204 ⟨by decide +kernel, by decide +kernel, by decide +kernel⟩
theorem ci_X9_54 : CIs RX9 54 yX4_hasBy cX4_hasBy 1 (Option.some FieldType.boolean) 1 := CIs_of q2_208 q2_209 q1_3 q2_210 ⟨by decide +kernel, by decide +kernel, by decide +kernel⟩
theorem ci_X9_58 : CIs RX9 58 yX4_leastBy cX4_leastBy 1 (Option.some FieldType.int) 1 := CIs_of q2_211 q2_34 q1_3 q2_35 ⟨by decide +kernel, by decide +kernel, by decide +kernel⟩
theorem ci_X9_62 : CIs RX9 62 yX4_mostBy cX4_mostBy 1 (Option.some FieldType.int) 1 := CIs_of q2_212 q2_40 q1_3 q2_41 ⟨by decide +kernel, by decide +kernel, by decide +kernel⟩
theorem ci_X9_65 : CIs RX9 65 yX4_mayBeNegative cX4_mayBeNegative 1 (Option.some FieldType.boolean) 1 := CIs_of q2_213 q2_37 q1_3 q2_38 ⟨by decide +kernel, by decide +kernel, by decide +kernel⟩
theorem ci_X9_68 : CIv RX9 68 yX4_append cX4_append 6 none 4 := CIv_of q2_214 q2_64 q2_65 q1_3 q2_66 ⟨by decide +kernel, by decide +kernel, by decide +kernel⟩
theorem ci_X9_72 : CIv RX9 72 yX9_signAt cX9_signAt 2 (Option.some FieldType.char) 1 := CIv_of q2_152 q2_154 qp_4 q1_5 q2_155 ⟨by decide +kernel, by decide +kernel, by decide +kernel⟩
theorem ci_X9_76 : CIs RX9 76 yX4_word cX4_word 1 (Option.some (FieldType.object "java/lang/String")) 1 := CIs_of q2_130 q2_131 q1_3 q2_132 ⟨by decide +kernel, by decide +kernel, by decide +kernel⟩
theorem ci_X9_80 : CIv RX9 80 yX9_sameSigns cX9_sameSigns 3 (Option.some FieldType.int) 1 := CIv_of q2_138 q2_140 qp_3 q1_5 q2_141 ⟨by decide +kernel, by decide +kernel, by decide +kernel⟩
theorem ci_X9_84 : CIv RX9 84 yJ0_length_8abf5 cJ0_length_8abf5 1 (Option.some FieldType.int) 0 := CIv_of q2_142 q2_143 q2_144 q1_15 q2_145 ⟨by decide +kernel, by decide +kernel, by decide +kernel⟩
theorem ci_X9_88 : CIs RX9 88 yJ9_max_7cf53 cJ9_max_7cf53 2 (Option.some FieldType.int) 2 := CIs_of q2_194 q2_195 q1_19 q2_196 ⟨by decide +kernel, by decide +kernel, by decide +kernel⟩
theorem ci_X9_94 : CIv RX9 94 yJ0_charAt_5068e cJ0_charAt_5068e 2 (Option.some FieldType.char) 1 := CIv_of q2_156 q2_157 q2_158 q1_15 q2_159 ⟨by decide +kernel, by decide +kernel, by decide +kernel⟩
theorem ci_X9_97 : CIs RX9 97 yX9_isDigit cX9_isDigit 1 (Option.some FieldType.boolean) 1 := CIs_of q2_205 q2_206 q1_5 q2_207 ⟨by decide +kernel, by decide +kernel, by decide +kernel⟩
theorem ci_X10_9 : CIn RX10 9 yX4_init cX4_init 1 0 := ⟨gi_of (List.forall_mem_cons.mpr ⟨q1_39, fm_n⟩), q1_3, ⟨_, q1_37⟩, q1_38, rfl, ⟨by decide +kernel, by decide +kernel, by decide +kernel⟩⟩
theorem ci_X10_23 : CIv RX10 23 yX4_copyFrom cX4_copyFrom 2 none 1 := CIv_of q2_56 q2_57 q2_58 q1_3 q2_59 ⟨by decide +kernel, by decide +kernel, by decide +kernel⟩
theorem ci_X11_9 : CIn RX11 9 yX10_init cX10_init 1 0 := ⟨gi_of (List.forall_mem_cons.mpr ⟨q1_33, fm_n⟩), q1_2, ⟨_, q1_31⟩, q1_32, rfl, ⟨by decide +kernel, by decide +kernel, by decide +kernel⟩⟩
theorem ci_X11_18 : CIi RX11 18 yX2_init cX2_init 2 0 := ⟨gi_of (List.forall_mem_cons.mpr ⟨q1_72, fm_n⟩), q1_4, q1_70, q1_71, rfl, ⟨by decide +kernel, by decide +kernel, by decide +kernel⟩⟩
theorem ci_X11_25 : CIn RX11 25 yX9_init cX9_init 1 0 := ⟨gi_of (List.forall_mem_cons.mpr ⟨q1_89, fm_n⟩), q1_5, ⟨_, q1_87⟩, q1_88, rfl, ⟨by decide +kernel, by decide +kernel, by decide +kernel⟩⟩
theorem ci_X11_32 : CIi RX11 32 yX8_init cX8_init 2 0 := ⟨gi_of (List.forall_mem_cons.mpr ⟨q1_119, fm_n⟩), q1_6, q1_117, q1_118, rfl, ⟨by decide +kernel, by decide +kernel, by decide +kernel⟩⟩
theorem ci_X11_37 : CIs RX11 37 yX4_isAllowed cX4_isAllowed 4 (Option.some FieldType.boolean) 4 := CIs_of q2_27 q2_28 q1_3 q2_29 ⟨by decide +kernel, by decide +kernel, by decide +kernel⟩
theorem ci_X11_53 : CIv RX11 53 yX2_keep cX2_keep 2 none 1 := CIv_of q2_44 q2_45 q2_46 q1_4 q2_47 ⟨by decide +kernel, by decide +kernel, by decide +kernel⟩
theorem ci_X11_57 : CIv RX11 57 yX4_append cX4_append 6 none 4 := CIv_of q2_63 q2_64 q2_65 q1_3 q2_66 ⟨by decide +kernel, by decide +kernel, by decide +kernel⟩
theorem ci_X11_61 : CIv RX11 61 yX4_has cX4_has 2 (Option.some FieldType.boolean) 1 := CIv_of q2_71 q2_72 q2_73 q1_3 q2_74 ⟨by decide +kernel, by decide +kernel, by decide +kernel⟩
theorem ci_X11_65 : CIv RX11 65 yX4_takeOut cX4_takeOut 4 none 1 := CIv_of q2_75 q2_76 q2_77 q1_3 q2_78 ⟨by decide +kernel, by decide +kernel, by decide +kernel⟩
theorem ci_X11_69 : CIv RX11 69 yX4_numberOf cX4_numberOf 3 (Option.some FieldType.int) 2 := CIv_of q2_84 q2_85 q2_86 q1_3 q2_87 ⟨by decide +kernel, by decide +kernel, by decide +kernel⟩
theorem ci_X11_83 : CIv RX11 83 yX9_append cX9_append 2 none 1 := CIv_of q2_106 q2_107 q2_108 q1_5 q2_109 ⟨by decide +kernel, by decide +kernel, by decide +kernel⟩
theorem ci_X11_86 : CIv RX11 86 yX9_errorPlace cX9_errorPlace 2 (Option.some FieldType.int) 0 := CIv_of q2_118 q2_119 q2_120 q1_5 q2_121 ⟨by decide +kernel, by decide +kernel, by decide +kernel⟩
theorem ci_X11_93 : CIv RX11 93 yX4_appendAll cX4_appendAll 3 none 1 := CIv_of q2_215 q2_216 q2_217 q1_3 q2_218 ⟨by decide +kernel, by decide +kernel, by decide +kernel⟩
theorem ci_X11_97 : CIs RX11 97 yX0_isPlace cX0_isPlace 1 (Option.some FieldType.boolean) 1 := CIs_of q2_226 q2_31 q1_13 q2_32 ⟨by decide +kernel, by decide +kernel, by decide +kernel⟩
theorem ci_X11_102 : CIs RX11 102 yX0_isStep cX0_isStep 1 (Option.some FieldType.boolean) 1 := CIs_of q2_227 q2_228 q1_13 q2_229 ⟨by decide +kernel, by decide +kernel, by decide +kernel⟩
theorem ci_X11_105 : CIv RX11 105 yX8_run cX8_run 7 none 4 := CIv_of q2_230 q2_231 q2_232 q1_6 q2_233 ⟨by decide +kernel, by decide +kernel, by decide +kernel⟩
theorem ci_X11_116 : CIv RX11 116 yX3_numberOf cX3_numberOf 3 (Option.some FieldType.long) 2 := CIv_of q3_101 q3_102 q3_103 q1_7 q3_104 ⟨by decide +kernel, by decide +kernel, by decide +kernel⟩
theorem ci_X11_129 : CIv RX11 129 yX6_longestGap cX6_longestGap 9 (Option.some FieldType.int) 0 := CIv_of q3_118 q3_119 q3_120 q1_8 q3_121 ⟨by decide +kernel, by decide +kernel, by decide +kernel⟩
theorem ci_X11_136 : CIv RX11 136 yX1_numberOf cX1_numberOf 3 (Option.some FieldType.long) 2 := CIv_of q3_136 q3_137 q3_138 q1_9 q3_139 ⟨by decide +kernel, by decide +kernel, by decide +kernel⟩
theorem ci_X11_139 : CIv RX11 139 yX3_echoAt cX3_echoAt 2 (Option.some FieldType.int) 1 := CIv_of q3_145 q3_146 q3_147 q1_7 q3_148 ⟨by decide +kernel, by decide +kernel, by decide +kernel⟩
theorem ci_X11_143 : CIv RX11 143 yX3_meanEnergy cX3_meanEnergy 1 (Option.some FieldType.float) 0 := CIv_of q3_155 q3_156 q3_157 q1_7 q3_158 ⟨by decide +kernel, by decide +kernel, by decide +kernel⟩
theorem ci_X11_151 : CIv RX11 151 yX5_crossingPairs cX5_crossingPairs 6 (Option.some FieldType.int) 1 := CIv_of q3_163 q3_164 q3_165 q1_10 q3_166 ⟨by decide +kernel, by decide +kernel, by decide +kernel⟩
theorem ci_X11_156 : CIs RX11 156 yX0_chordTime cX0_chordTime 1 (Option.some FieldType.int) 1 := CIs_of q3_184 q3_12 q1_13 q3_13 ⟨by decide +kernel, by decide +kernel, by decide +kernel⟩
theorem ci_X11_159 : CIs RX11 159 yX0_causticRadius cX0_causticRadius 1 (Option.some FieldType.int) 1 := CIs_of q3_189 q3_190 q1_13 q3_191 ⟨by decide +kernel, by decide +kernel, by decide +kernel⟩
theorem ci_X11_162 : CIs RX11 162 yX0_sharedDivisor cX0_sharedDivisor 5 (Option.some FieldType.int) 1 := CIs_of q3_197 q3_198 q1_13 q3_199 ⟨by decide +kernel, by decide +kernel, by decide +kernel⟩
theorem ci_X11_165 : CIs RX11 165 yJ9_abs_0f7a4 cJ9_abs_0f7a4 1 (Option.some FieldType.int) 1 := CIs_of q3_204 q3_16 q1_19 q3_17 ⟨by decide +kernel, by decide +kernel, by decide +kernel⟩
theorem ci_X11_170 : CIs RX11 170 yX0_smallestStep cX0_smallestStep 5 (Option.some FieldType.int) 2 := CIs_of q3_209 q3_210 q1_13 q3_211 ⟨by decide +kernel, by decide +kernel, by decide +kernel⟩
theorem ci_X11_175 : CIv RX11 175 yX2_restore cX2_restore 2 none 1 := CIv_of q3_225 q3_226 q3_227 q1_4 q3_228 ⟨by decide +kernel, by decide +kernel, by decide +kernel⟩
theorem ci_X11_180 : CIv RX11 180 yX11_parts cX11_parts 1 (Option.some FieldType.int) 0 := CIv_of q3_234 q2_90 q2_91 q1_1 q2_92 ⟨by decide +kernel, by decide +kernel, by decide +kernel⟩
theorem ci_X11_182 : CIs RX11 182 yX11_mixed cX11_mixed 4 (Option.some FieldType.long) 2 := CIs_of q3_235 q3_236 q1_1 q3_237 ⟨by decide +kernel, by decide +kernel, by decide +kernel⟩
theorem ci_X11_186 : CIv RX11 186 yX11_part cX11_part 3 (Option.some FieldType.int) 2 := CIv_of q3_239 q2_81 q2_82 q1_1 q2_83 ⟨by decide +kernel, by decide +kernel, by decide +kernel⟩
theorem ci_X11_189 : CIv RX11 189 yX11_hits cX11_hits 1 (Option.some FieldType.int) 0 := CIv_of q4_0 q3_94 q3_95 q1_1 q3_96 ⟨by decide +kernel, by decide +kernel, by decide +kernel⟩
theorem ci_X11_192 : CIv RX11 192 yX11_rays cX11_rays 1 (Option.some FieldType.int) 0 := CIv_of q4_1 q3_107 q3_108 q1_1 q3_109 ⟨by decide +kernel, by decide +kernel, by decide +kernel⟩
theorem ci_X11_195 : CIv RX11 195 yX11_coverage cX11_coverage 1 (Option.some FieldType.int) 0 := CIv_of q4_2 q3_111 q3_112 q1_1 q3_113 ⟨by decide +kernel, by decide +kernel, by decide +kernel⟩
theorem ci_X11_198 : CIv RX11 198 yX11_hit cX11_hit 3 (Option.some FieldType.long) 2 := CIv_of q4_3 q3_98 q3_99 q1_1 q3_100 ⟨by decide +kernel, by decide +kernel, by decide +kernel⟩
theorem ci_X11_201 : CIv RX11 201 yX11_heard cX11_heard 3 (Option.some FieldType.long) 2 := CIv_of q4_4 q3_133 q3_134 q1_1 q3_135 ⟨by decide +kernel, by decide +kernel, by decide +kernel⟩
theorem ci_X12_70 : CIs RX12 70 yX12_in cX12_in 3 (Option.some FieldType.boolean) 3 := CIs_of q4_98 q4_99 q1_12 q4_100 ⟨by decide +kernel, by decide +kernel, by decide +kernel⟩
theorem ci_X12_74 : CIs RX12 74 yX12_isNumber cX12_isNumber 2 (Option.some FieldType.boolean) 2 := CIs_of q4_101 q4_102 q1_12 q4_103 ⟨by decide +kernel, by decide +kernel, by decide +kernel⟩
theorem ci_X12_80 : CIv RX12 80 yX12_act cX12_act 2 none 0 := CIv_of q4_106 q4_108 qp_12 q1_12 q4_109 ⟨by decide +kernel, by decide +kernel, by decide +kernel⟩
theorem ci_X12_83 : CIv RX12 83 yX12_adds cX12_adds 6 none 4 := CIv_of q4_110 q4_112 qp_13 q1_12 q4_113 ⟨by decide +kernel, by decide +kernel, by decide +kernel⟩
theorem ci_X12_87 : CIv RX12 87 yX12_isPart cX12_isPart 2 (Option.some FieldType.boolean) 1 := CIv_of q4_118 q4_120 qp_14 q1_12 q4_121 ⟨by decide +kernel, by decide +kernel, by decide +kernel⟩
theorem ci_X12_91 : CIv RX12 91 yX12_sets cX12_sets 4 (Option.some FieldType.int) 2 := CIv_of q4_134 q4_136 qp_15 q1_12 q4_137 ⟨by decide +kernel, by decide +kernel, by decide +kernel⟩
theorem ci_X12_102 : CIv RX12 102 yX12_sign cX12_sign 1 (Option.some FieldType.int) 0 := CIv_of q4_171 q4_173 qp_20 q1_12 q4_174 ⟨by decide +kernel, by decide +kernel, by decide +kernel⟩
theorem ci_X12_106 : CIv RX12 106 yX12_takes cX12_takes 3 (Option.some FieldType.boolean) 1 := CIv_of q4_167 q4_169 qp_19 q1_12 q4_170 ⟨by decide +kernel, by decide +kernel, by decide +kernel⟩
theorem ci_X12_109 : CIv RX12 109 yX12_four cX12_four 5 (Option.some FieldType.boolean) 4 := CIv_of q4_175 q4_177 qp_21 q1_12 q4_178 ⟨by decide +kernel, by decide +kernel, by decide +kernel⟩
theorem ci_X12_119 : CIv RX12 119 yX12_word cX12_word 3 (Option.some FieldType.boolean) 0 := CIv_of q4_163 q4_165 qp_18 q1_12 q4_166 ⟨by decide +kernel, by decide +kernel, by decide +kernel⟩
theorem ci_X12_123 : CIv RX12 123 yX12_number cX12_number 8 (Option.some FieldType.boolean) 4 := CIv_of q4_179 q4_181 qp_22 q1_12 q4_182 ⟨by decide +kernel, by decide +kernel, by decide +kernel⟩
theorem ci_X12_127 : CIv RX12 127 yX12_readsPart cX12_readsPart 3 (Option.some FieldType.boolean) 0 := CIv_of q4_159 q4_161 qp_17 q1_12 q4_162 ⟨by decide +kernel, by decide +kernel, by decide +kernel⟩
theorem ci_X12_130 : CIv RX12 130 yX12_wrongAt cX12_wrongAt 2 (Option.some FieldType.int) 0 := CIv_of q4_155 q4_157 qp_16 q1_12 q4_158 ⟨by decide +kernel, by decide +kernel, by decide +kernel⟩
theorem ci_X12_143 : CIs RX12 143 yX12_wide cX12_wide 6 (Option.some FieldType.int) 2 := CIs_of q4_194 q4_195 q1_12 q4_196 ⟨by decide +kernel, by decide +kernel, by decide +kernel⟩
theorem ci_X12_147 : CIs RX12 147 yX12_isStep cX12_isStep 1 (Option.some FieldType.boolean) 1 := CIs_of q4_187 q4_188 q1_12 q4_189 ⟨by decide +kernel, by decide +kernel, by decide +kernel⟩
theorem ci_X12_150 : CIs RX12 150 yX12_chord cX12_chord 1 (Option.some FieldType.int) 1 := CIs_of q4_190 q4_191 q1_12 q4_192 ⟨by decide +kernel, by decide +kernel, by decide +kernel⟩
theorem ci_X12_156 : CIs RX12 156 yX12_circle cX12_circle 1 (Option.some FieldType.int) 1 := CIs_of q4_205 q4_206 q1_12 q4_207 ⟨by decide +kernel, by decide +kernel, by decide +kernel⟩
theorem ci_X12_159 : CIs RX12 159 yX12_size cX12_size 1 (Option.some FieldType.int) 1 := CIs_of q4_213 q4_214 q1_12 q4_215 ⟨by decide +kernel, by decide +kernel, by decide +kernel⟩
theorem ci_X12_162 : CIs RX12 162 yX12_common cX12_common 4 (Option.some FieldType.int) 1 := CIs_of q4_216 q4_217 q1_12 q4_218 ⟨by decide +kernel, by decide +kernel, by decide +kernel⟩
theorem ci_X12_165 : CIs RX12 165 yX12_isPlace cX12_isPlace 1 (Option.some FieldType.boolean) 1 := CIs_of q4_227 q4_228 q1_12 q4_229 ⟨by decide +kernel, by decide +kernel, by decide +kernel⟩
theorem ci_X12_177 : CIs RX12 177 yX12_tilted cX12_tilted 3 (Option.some FieldType.int) 2 := CIs_of q5_20 q5_21 q1_12 q5_22 ⟨by decide +kernel, by decide +kernel, by decide +kernel⟩
theorem ci_X12_180 : CIv RX12 180 yX12_begins cX12_begins 6 none 4 := CIv_of q4_239 q5_1 qp_23 q1_12 q5_2 ⟨by decide +kernel, by decide +kernel, by decide +kernel⟩
theorem ci_X12_184 : CIv RX12 184 yX12_hears cX12_hears 3 none 2 := CIv_of q5_23 q5_25 qp_28 q1_12 q5_26 ⟨by decide +kernel, by decide +kernel, by decide +kernel⟩
theorem ci_X12_188 : CIv RX12 188 yX12_covers cX12_covers 3 (Option.some FieldType.boolean) 2 := CIv_of q5_12 q5_14 qp_26 q1_12 q5_15 ⟨by decide +kernel, by decide +kernel, by decide +kernel⟩
theorem ci_X12_191 : CIv RX12 191 yX12_meets cX12_meets 5 none 2 := CIv_of q5_16 q5_18 qp_27 q1_12 q5_19 ⟨by decide +kernel, by decide +kernel, by decide +kernel⟩
theorem ci_X12_200 : CIv RX12 200 yX12_next cX12_next 7 (Option.some FieldType.int) 0 := CIv_of q5_3 q5_5 qp_24 q1_12 q5_6 ⟨by decide +kernel, by decide +kernel, by decide +kernel⟩
theorem ci_X12_203 : CIv RX12 203 yX12_goes cX12_goes 4 none 1 := CIv_of q5_7 q5_9 qp_25 q1_12 q5_10 ⟨by decide +kernel, by decide +kernel, by decide +kernel⟩
theorem ci_X12_209 : CIv RX12 209 yX12_covered cX12_covered 4 (Option.some FieldType.int) 0 := CIv_of q5_44 q5_46 qp_29 q1_12 q5_47 ⟨by decide +kernel, by decide +kernel, by decide +kernel⟩
theorem ci_X12_215 : CIv RX12 215 yX12_heardOf cX12_heardOf 3 (Option.some FieldType.long) 2 := CIv_of q5_57 q5_59 qp_30 q1_12 q5_60 ⟨by decide +kernel, by decide +kernel, by decide +kernel⟩
theorem ci_X12_219 : CIs RX12 219 yX12_between cX12_between 3 (Option.some FieldType.boolean) 3 := CIs_of q5_78 q5_79 q1_12 q5_80 ⟨by decide +kernel, by decide +kernel, by decide +kernel⟩
theorem ci_X12_222 : CIv RX12 222 yX12_crosses cX12_crosses 8 (Option.some FieldType.boolean) 2 := CIv_of q5_74 q5_76 qp_31 q1_12 q5_77 ⟨by decide +kernel, by decide +kernel, by decide +kernel⟩
theorem ci_J0_335 : CIv RJ0 335 yJ0_coder_7d493 cJ0_coder_7d493 1 (Option.some FieldType.byte) 0 := CIv_of q2_146 q2_147 q2_148 q1_15 q2_149 ⟨by decide +kernel, by decide +kernel, by decide +kernel⟩
theorem ci_J0_492 : CIv RJ0 492 yJ0_isLatin1_aae02 cJ0_isLatin1_aae02 1 (Option.some FieldType.boolean) 0 := CIv_of q2_160 q2_161 q2_162 q1_15 q2_163 ⟨by decide +kernel, by decide +kernel, by decide +kernel⟩
theorem ci_J0_495 : CIs RJ0 495 yJ1_charAt_3b067 cJ1_charAt_3b067 2 (Option.some FieldType.char) 2 := CIs_of q2_164 q2_165 q1_16 q2_166 ⟨by decide +kernel, by decide +kernel, by decide +kernel⟩
theorem ci_J0_498 : CIs RJ0 498 yJ2_charAt_3b067 cJ2_charAt_3b067 2 (Option.some FieldType.char) 2 := CIs_of q2_175 q2_176 q1_18 q2_177 ⟨by decide +kernel, by decide +kernel, by decide +kernel⟩
theorem ci_J0_1059 : CIs RJ0 1059 yJ3_checkIndex_8e157 cJ3_checkIndex_8e157 3 (Option.some FieldType.int) 3 := CIs_of q2_172 q2_173 q1_17 q2_174 ⟨by decide +kernel, by decide +kernel, by decide +kernel⟩
theorem ci_J1_9 : CIs RJ1 9 yJ0_checkIndex_df160 cJ0_checkIndex_df160 2 none 2 := CIs_of q2_167 q2_168 q1_15 q2_169 ⟨by decide +kernel, by decide +kernel, by decide +kernel⟩
theorem ci_J2_48 : CIs RJ2 48 yJ2_length_9d52b cJ2_length_9d52b 1 (Option.some FieldType.int) 1 := CIs_of q2_181 q2_182 q1_18 q2_183 ⟨by decide +kernel, by decide +kernel, by decide +kernel⟩
theorem ci_J2_67 : CIs RJ2 67 yJ2_checkIndex_2214a cJ2_checkIndex_2214a 2 none 2 := CIs_of q2_178 q2_179 q1_18 q2_180 ⟨by decide +kernel, by decide +kernel, by decide +kernel⟩
theorem ci_J2_71 : CIs RJ2 71 yJ2_getChar_3b067 cJ2_getChar_3b067 2 (Option.some FieldType.char) 2 := CIs_of q2_185 q2_186 q1_18 q2_187 ⟨by decide +kernel, by decide +kernel, by decide +kernel⟩
theorem ci_J2_414 : CIs RJ2 414 yJ0_checkIndex_df160 cJ0_checkIndex_df160 2 none 2 := CIs_of q2_184 q2_168 q1_15 q2_169 ⟨by decide +kernel, by decide +kernel, by decide +kernel⟩
theorem ci_L_9 : CIi RL 9 yX11_init cX11_init 1 0 := ⟨gi_of (List.forall_mem_cons.mpr ⟨q1_25, fm_n⟩), q1_1, q1_23, q1_24, rfl, ⟨by decide +kernel, by decide +kernel, by decide +kernel⟩⟩
theorem ci_L_12 : CIi RL 12 yX12_init cX12_init 1 0 := ⟨gi_of (List.forall_mem_cons.mpr ⟨q4_9, fm_n⟩), q1_12, q4_7, q4_8, rfl, ⟨by decide +kernel, by decide +kernel, by decide +kernel⟩⟩
theorem ci_L_13 : CIv RL 13 yX11_add cX11_add 5 (Option.some FieldType.int) 4 := CIv_of q2_23 q2_24 q2_25 q1_1 q2_26 ⟨by decide +kernel, by decide +kernel, by decide +kernel⟩
theorem ci_L_17 : CIv RL 17 yX12_add cX12_add 5 (Option.some FieldType.int) 4 := CIv_of q4_94 q4_95 q4_96 q1_12 q4_97 ⟨by decide +kernel, by decide +kernel, by decide +kernel⟩
theorem ci_L_18 : CIv RL 18 yX11_remove cX11_remove 2 (Option.some FieldType.int) 1 := CIv_of q2_67 q2_68 q2_69 q1_1 q2_70 ⟨by decide +kernel, by decide +kernel, by decide +kernel⟩
theorem ci_L_22 : CIv RL 22 yX12_remove cX12_remove 3 (Option.some FieldType.int) 1 := CIv_of q4_114 q4_115 q4_116 q1_12 q4_117 ⟨by decide +kernel, by decide +kernel, by decide +kernel⟩
theorem ci_L_23 : CIv RL 23 yX11_part cX11_part 3 (Option.some FieldType.int) 2 := CIv_of q2_80 q2_81 q2_82 q1_1 q2_83 ⟨by decide +kernel, by decide +kernel, by decide +kernel⟩
theorem ci_L_27 : CIv RL 27 yX12_part cX12_part 3 (Option.some FieldType.int) 2 := CIv_of q4_122 q4_123 q4_124 q1_12 q4_125 ⟨by decide +kernel, by decide +kernel, by decide +kernel⟩
theorem ci_L_28 : CIv RL 28 yX11_parts cX11_parts 1 (Option.some FieldType.int) 0 := CIv_of q2_89 q2_90 q2_91 q1_1 q2_92 ⟨by decide +kernel, by decide +kernel, by decide +kernel⟩
theorem ci_L_32 : CIv RL 32 yX12_parts cX12_parts 1 (Option.some FieldType.int) 0 := CIv_of q4_126 q4_127 q4_128 q1_12 q4_129 ⟨by decide +kernel, by decide +kernel, by decide +kernel⟩
theorem ci_L_33 : CIv RL 33 yX11_setLoss cX11_setLoss 3 (Option.some FieldType.int) 1 := CIv_of q2_93 q2_94 q2_95 q1_1 q2_96 ⟨by decide +kernel, by decide +kernel, by decide +kernel⟩
theorem ci_L_36 : CIv RL 36 yX12_setLoss cX12_setLoss 2 (Option.some FieldType.int) 1 := CIv_of q4_130 q4_131 q4_132 q1_12 q4_133 ⟨by decide +kernel, by decide +kernel, by decide +kernel⟩
theorem ci_L_37 : CIv RL 37 yX11_setThreshold cX11_setThreshold 3 (Option.some FieldType.int) 1 := CIv_of q2_97 q2_98 q2_99 q1_1 q2_100 ⟨by decide +kernel, by decide +kernel, by decide +kernel⟩
theorem ci_L_40 : CIv RL 40 yX12_setThreshold cX12_setThreshold 2 (Option.some FieldType.int) 1 := CIv_of q4_138 q4_139 q4_140 q1_12 q4_141 ⟨by decide +kernel, by decide +kernel, by decide +kernel⟩
theorem ci_L_41 : CIv RL 41 yX11_type cX11_type 2 (Option.some FieldType.int) 1 := CIv_of q2_102 q2_103 q2_104 q1_1 q2_105 ⟨by decide +kernel, by decide +kernel, by decide +kernel⟩
theorem ci_L_44 : CIv RL 44 yX12_type cX12_type 2 (Option.some FieldType.int) 1 := CIv_of q4_143 q4_144 q4_145 q1_12 q4_146 ⟨by decide +kernel, by decide +kernel, by decide +kernel⟩
theorem ci_L_45 : CIv RL 45 yX11_clear cX11_clear 2 (Option.some FieldType.int) 0 := CIv_of q2_110 q2_111 q2_112 q1_1 q2_113 ⟨by decide +kernel, by decide +kernel, by decide +kernel⟩
theorem ci_L_48 : CIv RL 48 yX12_clear cX12_clear 2 (Option.some FieldType.int) 0 := CIv_of q4_147 q4_148 q4_149 q1_12 q4_150 ⟨by decide +kernel, by decide +kernel, by decide +kernel⟩
theorem ci_L_49 : CIv RL 49 yX11_read cX11_read 2 (Option.some FieldType.int) 0 := CIv_of q2_114 q2_115 q2_116 q1_1 q2_117 ⟨by decide +kernel, by decide +kernel, by decide +kernel⟩
theorem ci_L_52 : CIv RL 52 yX12_read cX12_read 3 (Option.some FieldType.int) 0 := CIv_of q4_151 q4_152 q4_153 q1_12 q4_154 ⟨by decide +kernel, by decide +kernel, by decide +kernel⟩
theorem ci_L_53 : CIv RL 53 yX11_shoot cX11_shoot 4 (Option.some FieldType.int) 3 := CIv_of q2_222 q2_223 q2_224 q1_1 q2_225 ⟨by decide +kernel, by decide +kernel, by decide +kernel⟩
theorem ci_L_57 : CIv RL 57 yX12_shoot cX12_shoot 5 (Option.some FieldType.int) 3 := CIv_of q4_235 q4_236 q4_237 q1_12 q4_238 ⟨by decide +kernel, by decide +kernel, by decide +kernel⟩
theorem ci_L_58 : CIv RL 58 yX11_hits cX11_hits 1 (Option.some FieldType.int) 0 := CIv_of q3_93 q3_94 q3_95 q1_1 q3_96 ⟨by decide +kernel, by decide +kernel, by decide +kernel⟩
theorem ci_L_61 : CIv RL 61 yX12_hits cX12_hits 1 (Option.some FieldType.int) 0 := CIv_of q5_27 q5_28 q5_29 q1_12 q5_30 ⟨by decide +kernel, by decide +kernel, by decide +kernel⟩
theorem ci_L_62 : CIv RL 62 yX11_hit cX11_hit 3 (Option.some FieldType.long) 2 := CIv_of q3_97 q3_98 q3_99 q1_1 q3_100 ⟨by decide +kernel, by decide +kernel, by decide +kernel⟩
theorem ci_L_66 : CIv RL 66 yX12_hit cX12_hit 3 (Option.some FieldType.long) 2 := CIv_of q5_31 q5_32 q5_33 q1_12 q5_34 ⟨by decide +kernel, by decide +kernel, by decide +kernel⟩
theorem ci_L_67 : CIv RL 67 yX11_rays cX11_rays 1 (Option.some FieldType.int) 0 := CIv_of q3_106 q3_107 q3_108 q1_1 q3_109 ⟨by decide +kernel, by decide +kernel, by decide +kernel⟩
theorem ci_L_70 : CIv RL 70 yX12_rays cX12_rays 1 (Option.some FieldType.int) 0 := CIv_of q5_36 q5_37 q5_38 q1_12 q5_39 ⟨by decide +kernel, by decide +kernel, by decide +kernel⟩
theorem ci_L_71 : CIv RL 71 yX11_coverage cX11_coverage 1 (Option.some FieldType.int) 0 := CIv_of q3_110 q3_111 q3_112 q1_1 q3_113 ⟨by decide +kernel, by decide +kernel, by decide +kernel⟩
theorem ci_L_74 : CIv RL 74 yX12_coverage cX12_coverage 1 (Option.some FieldType.int) 0 := CIv_of q5_40 q5_41 q5_42 q1_12 q5_43 ⟨by decide +kernel, by decide +kernel, by decide +kernel⟩
theorem ci_L_75 : CIv RL 75 yX11_gap cX11_gap 1 (Option.some FieldType.int) 0 := CIv_of q3_114 q3_115 q3_116 q1_1 q3_117 ⟨by decide +kernel, by decide +kernel, by decide +kernel⟩
theorem ci_L_78 : CIv RL 78 yX12_gap cX12_gap 4 (Option.some FieldType.int) 0 := CIv_of q5_48 q5_49 q5_50 q1_12 q5_51 ⟨by decide +kernel, by decide +kernel, by decide +kernel⟩
theorem ci_L_79 : CIv RL 79 yX11_heard cX11_heard 3 (Option.some FieldType.long) 2 := CIv_of q3_132 q3_133 q3_134 q1_1 q3_135 ⟨by decide +kernel, by decide +kernel, by decide +kernel⟩
theorem ci_L_82 : CIv RL 82 yX12_heard cX12_heard 3 (Option.some FieldType.long) 2 := CIv_of q5_53 q5_54 q5_55 q1_12 q5_56 ⟨by decide +kernel, by decide +kernel, by decide +kernel⟩
theorem ci_L_83 : CIv RL 83 yX11_echo cX11_echo 2 (Option.some FieldType.int) 1 := CIv_of q3_141 q3_142 q3_143 q1_1 q3_144 ⟨by decide +kernel, by decide +kernel, by decide +kernel⟩
theorem ci_L_86 : CIv RL 86 yX12_echo cX12_echo 4 (Option.some FieldType.int) 1 := CIv_of q5_62 q5_63 q5_64 q1_12 q5_65 ⟨by decide +kernel, by decide +kernel, by decide +kernel⟩
theorem ci_L_87 : CIv RL 87 yX11_mean cX11_mean 1 (Option.some FieldType.float) 0 := CIv_of q3_151 q3_152 q3_153 q1_1 q3_154 ⟨by decide +kernel, by decide +kernel, by decide +kernel⟩
theorem ci_L_91 : CIv RL 91 yX12_mean cX12_mean 4 (Option.some FieldType.float) 0 := CIv_of q5_66 q5_67 q5_68 q1_12 q5_69 ⟨by decide +kernel, by decide +kernel, by decide +kernel⟩
theorem ci_L_92 : CIv RL 92 yX11_crossings cX11_crossings 2 (Option.some FieldType.int) 1 := CIv_of q3_159 q3_160 q3_161 q1_1 q3_162 ⟨by decide +kernel, by decide +kernel, by decide +kernel⟩
theorem ci_L_95 : CIv RL 95 yX12_crossings cX12_crossings 6 (Option.some FieldType.int) 1 := CIv_of q5_70 q5_71 q5_72 q1_12 q5_73 ⟨by decide +kernel, by decide +kernel, by decide +kernel⟩
theorem ci_L_96 : CIv RL 96 yX11_time cX11_time 2 (Option.some FieldType.int) 1 := CIv_of q3_180 q3_181 q3_182 q1_1 q3_183 ⟨by decide +kernel, by decide +kernel, by decide +kernel⟩
theorem ci_L_99 : CIv RL 99 yX12_time cX12_time 2 (Option.some FieldType.int) 1 := CIv_of q4_183 q4_184 q4_185 q1_12 q4_186 ⟨by decide +kernel, by decide +kernel, by decide +kernel⟩
theorem ci_L_100 : CIv RL 100 yX11_caustic cX11_caustic 2 (Option.some FieldType.int) 1 := CIv_of q3_185 q3_186 q3_187 q1_1 q3_188 ⟨by decide +kernel, by decide +kernel, by decide +kernel⟩
theorem ci_L_103 : CIv RL 103 yX12_caustic cX12_caustic 2 (Option.some FieldType.int) 1 := CIv_of q4_201 q4_202 q4_203 q1_12 q4_204 ⟨by decide +kernel, by decide +kernel, by decide +kernel⟩
theorem ci_L_104 : CIv RL 104 yX11_order cX11_order 2 (Option.some FieldType.int) 1 := CIv_of q3_193 q3_194 q3_195 q1_1 q3_196 ⟨by decide +kernel, by decide +kernel, by decide +kernel⟩
theorem ci_L_107 : CIv RL 107 yX12_order cX12_order 2 (Option.some FieldType.int) 1 := CIv_of q4_209 q4_210 q4_211 q1_12 q4_212 ⟨by decide +kernel, by decide +kernel, by decide +kernel⟩
theorem ci_L_108 : CIv RL 108 yX11_turns cX11_turns 2 (Option.some FieldType.int) 1 := CIv_of q3_200 q3_201 q3_202 q1_1 q3_203 ⟨by decide +kernel, by decide +kernel, by decide +kernel⟩
theorem ci_L_111 : CIv RL 111 yX12_turns cX12_turns 2 (Option.some FieldType.int) 1 := CIv_of q4_219 q4_220 q4_221 q1_12 q4_222 ⟨by decide +kernel, by decide +kernel, by decide +kernel⟩
theorem ci_L_112 : CIv RL 112 yX11_aim cX11_aim 5 (Option.some FieldType.int) 3 := CIv_of q3_205 q3_206 q3_207 q1_1 q3_208 ⟨by decide +kernel, by decide +kernel, by decide +kernel⟩
theorem ci_L_115 : CIv RL 115 yX12_aim cX12_aim 7 (Option.some FieldType.int) 3 := CIv_of q4_223 q4_224 q4_225 q1_12 q4_226 ⟨by decide +kernel, by decide +kernel, by decide +kernel⟩
theorem ci_L_116 : CIv RL 116 yX11_widest cX11_widest 2 (Option.some FieldType.int) 1 := CIv_of q3_217 q3_218 q3_219 q1_1 q3_220 ⟨by decide +kernel, by decide +kernel, by decide +kernel⟩
theorem ci_L_119 : CIv RL 119 yX12_widest cX12_widest 6 (Option.some FieldType.int) 1 := CIv_of q4_231 q4_232 q4_233 q1_12 q4_234 ⟨by decide +kernel, by decide +kernel, by decide +kernel⟩
theorem ci_L_120 : CIv RL 120 yX11_undo cX11_undo 1 (Option.some FieldType.int) 0 := CIv_of q3_221 q3_222 q3_223 q1_1 q3_224 ⟨by decide +kernel, by decide +kernel, by decide +kernel⟩
theorem ci_L_123 : CIv RL 123 yX12_undo cX12_undo 2 (Option.some FieldType.int) 0 := CIv_of q5_81 q5_82 q5_83 q1_12 q5_84 ⟨by decide +kernel, by decide +kernel, by decide +kernel⟩
theorem ci_L_124 : CIv RL 124 yX11_fingerprint cX11_fingerprint 5 (Option.some FieldType.long) 0 := CIv_of q3_229 q3_230 q3_231 q1_1 q3_232 ⟨by decide +kernel, by decide +kernel, by decide +kernel⟩
theorem ci_L_128 : CIv RL 128 yX12_fingerprint cX12_fingerprint 5 (Option.some FieldType.long) 0 := CIv_of q5_85 q5_86 q5_87 q1_12 q5_88 ⟨by decide +kernel, by decide +kernel, by decide +kernel⟩
def FLk (own : String) (idx ci k : Nat) (C : String) (T : u_T) (N : Nat) : Prop := (∀ w ∈ u_ws C T N, w ∈ lw_all) ∧ vwCl[ci]? = some (C, T, N) ∧ k < N ∧ (Cond.fieldLink own idx (T k).1 (T k).2.1 (T k).2.2.1 ∈ lw_all ∨ ∃ host, Cond.fieldLinkNest own idx (T k).1 (T k).2.1 (T k).2.2.1 host ∈ nestW)
def PFk (own : String) (idx ci k : Nat) (C : String) (T : u_T) (N : Nat) (ty : FieldType) (fin : Bool) : Prop := FLk own idx ci k C T N ∧ (∃ ty0 : Nat → FieldType, ∀ k, k < N → parseFieldDescriptor (T k).2.2.1 = some (ty0 k)) ∧ (∀ a, a < N → ∀ b, b < N → a ≠ b → (T a).2.1 ≠ (T b).2.1) ∧ (T k).2.2.2 = fin ∧ parseFieldDescriptor (T k).2.2.1 = some ty ∧ (fin = true → (T k).1 = own)
theorem fl_X4_9 : FLk RX4 9 3 0 RX4 TX4 2 := ⟨inX4, rfl, by decide, Or.inl q1_41⟩
theorem pf_X4_9 : PFk RX4 9 3 0 RX4 TX4 2 (.array .int) true := ⟨fl_X4_9, ⟨tyX4, tyX4_ok⟩, nmX4, rfl, by decide +kernel, fun _ => by decide +kernel⟩
theorem fl_X11_48 : FLk RX11 48 3 1 RX4 TX4 2 := ⟨inX4, rfl, by decide, Or.inr ⟨_, q1_42⟩⟩
theorem pf_X11_48 : PFk RX11 48 3 1 RX4 TX4 2 .int false := ⟨fl_X11_48, ⟨tyX4, tyX4_ok⟩, nmX4, rfl, by decide +kernel, fun h => absurd h (by decide)⟩
theorem fl_X9_26 : FLk RX9 26 3 1 RX4 TX4 2 := ⟨inX4, rfl, by decide, Or.inr ⟨_, q1_43⟩⟩
theorem pf_X9_26 : PFk RX9 26 3 1 RX4 TX4 2 .int false := ⟨fl_X9_26, ⟨tyX4, tyX4_ok⟩, nmX4, rfl, by decide +kernel, fun h => absurd h (by decide)⟩
theorem fl_X8_124 : FLk RX8 124 3 1 RX4 TX4 2 := ⟨inX4, rfl, by decide, Or.inr ⟨_, q1_44⟩⟩
theorem pf_X8_124 : PFk RX8 124 3 1 RX4 TX4 2 .int false := ⟨fl_X8_124, ⟨tyX4, tyX4_ok⟩, nmX4, rfl, by decide +kernel, fun h => absurd h (by decide)⟩
theorem fl_X4_41 : FLk RX4 41 3 1 RX4 TX4 2 := ⟨inX4, rfl, by decide, Or.inl q1_45⟩
theorem pf_X4_41 : PFk RX4 41 3 1 RX4 TX4 2 .int false := ⟨fl_X4_41, ⟨tyX4, tyX4_ok⟩, nmX4, rfl, by decide +kernel, fun h => absurd h (by decide)⟩
theorem fl_X10_10 : FLk RX10 10 9 0 RX10 TX10 3 := ⟨inX10, rfl, by decide, Or.inl q1_52⟩
theorem pf_X10_10 : PFk RX10 10 9 0 RX10 TX10 3 (.object "GalleryRays$Parts") true := ⟨fl_X10_10, ⟨tyX10, tyX10_ok⟩, nmX10, rfl, by decide +kernel, fun _ => by decide +kernel⟩
theorem fl_X11_44 : FLk RX11 44 9 0 RX10 TX10 3 := ⟨inX10, rfl, by decide, Or.inr ⟨_, q1_53⟩⟩
theorem fl_X8_120 : FLk RX8 120 9 0 RX10 TX10 3 := ⟨inX10, rfl, by decide, Or.inr ⟨_, q1_54⟩⟩
theorem fl_X10_16 : FLk RX10 16 9 1 RX10 TX10 3 := ⟨inX10, rfl, by decide, Or.inl q1_55⟩
theorem pf_X10_16 : PFk RX10 16 9 1 RX10 TX10 3 .int false := ⟨fl_X10_16, ⟨tyX10, tyX10_ok⟩, nmX10, rfl, by decide +kernel, fun h => absurd h (by decide)⟩
theorem fl_X8_112 : FLk RX8 112 9 1 RX10 TX10 3 := ⟨inX10, rfl, by decide, Or.inr ⟨_, q1_56⟩⟩
theorem pf_X8_112 : PFk RX8 112 9 1 RX10 TX10 3 .int false := ⟨fl_X8_112, ⟨tyX10, tyX10_ok⟩, nmX10, rfl, by decide +kernel, fun h => absurd h (by decide)⟩
theorem fl_X11_73 : FLk RX11 73 9 1 RX10 TX10 3 := ⟨inX10, rfl, by decide, Or.inr ⟨_, q1_57⟩⟩
theorem pf_X11_73 : PFk RX11 73 9 1 RX10 TX10 3 .int false := ⟨fl_X11_73, ⟨tyX10, tyX10_ok⟩, nmX10, rfl, by decide +kernel, fun h => absurd h (by decide)⟩
theorem fl_X10_20 : FLk RX10 20 9 2 RX10 TX10 3 := ⟨inX10, rfl, by decide, Or.inl q1_58⟩
theorem pf_X10_20 : PFk RX10 20 9 2 RX10 TX10 3 .int false := ⟨fl_X10_20, ⟨tyX10, tyX10_ok⟩, nmX10, rfl, by decide +kernel, fun h => absurd h (by decide)⟩
theorem fl_X8_140 : FLk RX8 140 9 2 RX10 TX10 3 := ⟨inX10, rfl, by decide, Or.inr ⟨_, q1_59⟩⟩
theorem pf_X8_140 : PFk RX8 140 9 2 RX10 TX10 3 .int false := ⟨fl_X8_140, ⟨tyX10, tyX10_ok⟩, nmX10, rfl, by decide +kernel, fun h => absurd h (by decide)⟩
theorem fl_X11_77 : FLk RX11 77 9 2 RX10 TX10 3 := ⟨inX10, rfl, by decide, Or.inr ⟨_, q1_60⟩⟩
theorem pf_X11_77 : PFk RX11 77 9 2 RX10 TX10 3 .int false := ⟨fl_X11_77, ⟨tyX10, tyX10_ok⟩, nmX10, rfl, by decide +kernel, fun h => absurd h (by decide)⟩
theorem fl_X2_11 : FLk RX2 11 1 0 RX2 TX2 2 := ⟨inX2, rfl, by decide, Or.inl q1_77⟩
theorem pf_X2_11 : PFk RX2 11 1 0 RX2 TX2 2 (.array (.object "GalleryRays$Wall")) true := ⟨fl_X2_11, ⟨tyX2, tyX2_ok⟩, nmX2, rfl, by decide +kernel, fun _ => by decide +kernel⟩
theorem fl_X2_18 : FLk RX2 18 1 1 RX2 TX2 2 := ⟨inX2, rfl, by decide, Or.inl q1_78⟩
theorem pf_X2_18 : PFk RX2 18 1 1 RX2 TX2 2 .int false := ⟨fl_X2_18, ⟨tyX2, tyX2_ok⟩, nmX2, rfl, by decide +kernel, fun h => absurd h (by decide)⟩
theorem fl_X11_174 : FLk RX11 174 1 1 RX2 TX2 2 := ⟨inX2, rfl, by decide, Or.inr ⟨_, q1_79⟩⟩
theorem pf_X11_174 : PFk RX11 174 1 1 RX2 TX2 2 .int false := ⟨fl_X11_174, ⟨tyX2, tyX2_ok⟩, nmX2, rfl, by decide +kernel, fun h => absurd h (by decide)⟩
theorem fl_X9_9 : FLk RX9 9 8 0 RX9 TX9 6 := ⟨inX9, rfl, by decide, Or.inl q1_93⟩
theorem pf_X9_9 : PFk RX9 9 8 0 RX9 TX9 6 (.array .char) true := ⟨fl_X9_9, ⟨tyX9, tyX9_ok⟩, nmX9, rfl, by decide +kernel, fun _ => by decide +kernel⟩
theorem fl_X9_18 : FLk RX9 18 8 1 RX9 TX9 6 := ⟨inX9, rfl, by decide, Or.inl q1_94⟩
theorem pf_X9_18 : PFk RX9 18 8 1 RX9 TX9 6 (.object "GalleryRays$Parts") true := ⟨fl_X9_18, ⟨tyX9, tyX9_ok⟩, nmX9, rfl, by decide +kernel, fun _ => by decide +kernel⟩
theorem fl_X11_90 : FLk RX11 90 8 1 RX9 TX9 6 := ⟨inX9, rfl, by decide, Or.inr ⟨_, q1_95⟩⟩
theorem fl_X9_22 : FLk RX9 22 8 2 RX9 TX9 6 := ⟨inX9, rfl, by decide, Or.inl q1_96⟩
theorem pf_X9_22 : PFk RX9 22 8 2 RX9 TX9 6 .int false := ⟨fl_X9_22, ⟨tyX9, tyX9_ok⟩, nmX9, rfl, by decide +kernel, fun h => absurd h (by decide)⟩
theorem fl_X11_80 : FLk RX11 80 8 2 RX9 TX9 6 := ⟨inX9, rfl, by decide, Or.inr ⟨_, q1_97⟩⟩
theorem pf_X11_80 : PFk RX11 80 8 2 RX9 TX9 6 .int false := ⟨fl_X11_80, ⟨tyX9, tyX9_ok⟩, nmX9, rfl, by decide +kernel, fun h => absurd h (by decide)⟩
theorem fl_X9_29 : FLk RX9 29 8 3 RX9 TX9 6 := ⟨inX9, rfl, by decide, Or.inl q1_98⟩
theorem pf_X9_29 : PFk RX9 29 8 3 RX9 TX9 6 .int false := ⟨fl_X9_29, ⟨tyX9, tyX9_ok⟩, nmX9, rfl, by decide +kernel, fun h => absurd h (by decide)⟩
theorem fl_X9_32 : FLk RX9 32 8 4 RX9 TX9 6 := ⟨inX9, rfl, by decide, Or.inl q1_99⟩
theorem pf_X9_32 : PFk RX9 32 8 4 RX9 TX9 6 .boolean false := ⟨fl_X9_32, ⟨tyX9, tyX9_ok⟩, nmX9, rfl, by decide +kernel, fun h => absurd h (by decide)⟩
theorem fl_X9_36 : FLk RX9 36 8 5 RX9 TX9 6 := ⟨inX9, rfl, by decide, Or.inl q1_100⟩
theorem pf_X9_36 : PFk RX9 36 8 5 RX9 TX9 6 .int false := ⟨fl_X9_36, ⟨tyX9, tyX9_ok⟩, nmX9, rfl, by decide +kernel, fun h => absurd h (by decide)⟩
theorem fl_X3_9 : FLk RX3 9 2 0 RX3 TX3 5 := ⟨inX3, rfl, by decide, Or.inl q1_129⟩
theorem pf_X3_9 : PFk RX3 9 2 0 RX3 TX3 5 (.array .long) true := ⟨fl_X3_9, ⟨tyX3, tyX3_ok⟩, nmX3, rfl, by decide +kernel, fun _ => by decide +kernel⟩
theorem fl_X3_15 : FLk RX3 15 2 1 RX3 TX3 5 := ⟨inX3, rfl, by decide, Or.inl q1_130⟩
theorem pf_X3_15 : PFk RX3 15 2 1 RX3 TX3 5 (.array .int) true := ⟨fl_X3_15, ⟨tyX3, tyX3_ok⟩, nmX3, rfl, by decide +kernel, fun _ => by decide +kernel⟩
theorem fl_X3_19 : FLk RX3 19 2 2 RX3 TX3 5 := ⟨inX3, rfl, by decide, Or.inl q1_131⟩
theorem pf_X3_19 : PFk RX3 19 2 2 RX3 TX3 5 .int false := ⟨fl_X3_19, ⟨tyX3, tyX3_ok⟩, nmX3, rfl, by decide +kernel, fun h => absurd h (by decide)⟩
theorem fl_X11_113 : FLk RX11 113 2 2 RX3 TX3 5 := ⟨inX3, rfl, by decide, Or.inr ⟨_, q1_132⟩⟩
theorem pf_X11_113 : PFk RX11 113 2 2 RX3 TX3 5 .int false := ⟨fl_X11_113, ⟨tyX3, tyX3_ok⟩, nmX3, rfl, by decide +kernel, fun h => absurd h (by decide)⟩
theorem fl_X3_23 : FLk RX3 23 2 3 RX3 TX3 5 := ⟨inX3, rfl, by decide, Or.inl q1_133⟩
theorem pf_X3_23 : PFk RX3 23 2 3 RX3 TX3 5 .int false := ⟨fl_X3_23, ⟨tyX3, tyX3_ok⟩, nmX3, rfl, by decide +kernel, fun h => absurd h (by decide)⟩
theorem fl_X3_26 : FLk RX3 26 2 4 RX3 TX3 5 := ⟨inX3, rfl, by decide, Or.inl q1_134⟩
theorem pf_X3_26 : PFk RX3 26 2 4 RX3 TX3 5 .long false := ⟨fl_X3_26, ⟨tyX3, tyX3_ok⟩, nmX3, rfl, by decide +kernel, fun h => absurd h (by decide)⟩
theorem fl_X6_9 : FLk RX6 9 5 0 RX6 TX6 2 := ⟨inX6, rfl, by decide, Or.inl q1_153⟩
theorem pf_X6_9 : PFk RX6 9 5 0 RX6 TX6 2 (.array .long) true := ⟨fl_X6_9, ⟨tyX6, tyX6_ok⟩, nmX6, rfl, by decide +kernel, fun _ => by decide +kernel⟩
theorem fl_X6_15 : FLk RX6 15 5 1 RX6 TX6 2 := ⟨inX6, rfl, by decide, Or.inl q1_154⟩
theorem pf_X6_15 : PFk RX6 15 5 1 RX6 TX6 2 .int false := ⟨fl_X6_15, ⟨tyX6, tyX6_ok⟩, nmX6, rfl, by decide +kernel, fun h => absurd h (by decide)⟩
theorem fl_X11_126 : FLk RX11 126 5 1 RX6 TX6 2 := ⟨inX6, rfl, by decide, Or.inr ⟨_, q1_155⟩⟩
theorem pf_X11_126 : PFk RX11 126 5 1 RX6 TX6 2 .int false := ⟨fl_X11_126, ⟨tyX6, tyX6_ok⟩, nmX6, rfl, by decide +kernel, fun h => absurd h (by decide)⟩
theorem fl_X1_9 : FLk RX1 9 0 0 RX1 TX1 1 := ⟨inX1, rfl, by decide, Or.inl q1_172⟩
theorem pf_X1_9 : PFk RX1 9 0 0 RX1 TX1 1 (.array .long) true := ⟨fl_X1_9, ⟨tyX1, tyX1_ok⟩, nmX1, rfl, by decide +kernel, fun _ => by decide +kernel⟩
theorem fl_X5_9 : FLk RX5 9 4 0 RX5 TX5 2 := ⟨inX5, rfl, by decide, Or.inl q1_182⟩
theorem pf_X5_9 : PFk RX5 9 4 0 RX5 TX5 2 (.array .int) true := ⟨fl_X5_9, ⟨tyX5, tyX5_ok⟩, nmX5, rfl, by decide +kernel, fun _ => by decide +kernel⟩
theorem fl_X5_15 : FLk RX5 15 4 1 RX5 TX5 2 := ⟨inX5, rfl, by decide, Or.inl q1_183⟩
theorem pf_X5_15 : PFk RX5 15 4 1 RX5 TX5 2 .int false := ⟨fl_X5_15, ⟨tyX5, tyX5_ok⟩, nmX5, rfl, by decide +kernel, fun h => absurd h (by decide)⟩
theorem fl_X7_7 : FLk RX7 7 6 0 RX7 TX7 6 := ⟨inX7, rfl, by decide, Or.inl q1_194⟩
theorem pf_X7_7 : PFk RX7 7 6 0 RX7 TX7 6 .int true := ⟨fl_X7_7, ⟨tyX7, tyX7_ok⟩, nmX7, rfl, by decide +kernel, fun _ => by decide +kernel⟩
theorem fl_X3_30 : FLk RX3 30 6 0 RX7 TX7 6 := ⟨inX7, rfl, by decide, Or.inr ⟨_, q1_195⟩⟩
theorem fl_X8_106 : FLk RX8 106 6 0 RX7 TX7 6 := ⟨inX7, rfl, by decide, Or.inr ⟨_, q1_196⟩⟩
theorem fl_X7_13 : FLk RX7 13 6 1 RX7 TX7 6 := ⟨inX7, rfl, by decide, Or.inl q1_197⟩
theorem pf_X7_13 : PFk RX7 13 6 1 RX7 TX7 6 .int false := ⟨fl_X7_13, ⟨tyX7, tyX7_ok⟩, nmX7, rfl, by decide +kernel, fun h => absurd h (by decide)⟩
theorem fl_X3_35 : FLk RX3 35 6 1 RX7 TX7 6 := ⟨inX7, rfl, by decide, Or.inr ⟨_, q1_198⟩⟩
theorem pf_X3_35 : PFk RX3 35 6 1 RX7 TX7 6 .int false := ⟨fl_X3_35, ⟨tyX7, tyX7_ok⟩, nmX7, rfl, by decide +kernel, fun h => absurd h (by decide)⟩
theorem fl_X8_89 : FLk RX8 89 6 1 RX7 TX7 6 := ⟨inX7, rfl, by decide, Or.inr ⟨_, q1_199⟩⟩
theorem pf_X8_89 : PFk RX8 89 6 1 RX7 TX7 6 .int false := ⟨fl_X8_89, ⟨tyX7, tyX7_ok⟩, nmX7, rfl, by decide +kernel, fun h => absurd h (by decide)⟩
theorem fl_X7_16 : FLk RX7 16 6 2 RX7 TX7 6 := ⟨inX7, rfl, by decide, Or.inl q1_200⟩
theorem pf_X7_16 : PFk RX7 16 6 2 RX7 TX7 6 .int false := ⟨fl_X7_16, ⟨tyX7, tyX7_ok⟩, nmX7, rfl, by decide +kernel, fun h => absurd h (by decide)⟩
theorem fl_X3_44 : FLk RX3 44 6 2 RX7 TX7 6 := ⟨inX7, rfl, by decide, Or.inr ⟨_, q1_201⟩⟩
theorem pf_X3_44 : PFk RX3 44 6 2 RX7 TX7 6 .int false := ⟨fl_X3_44, ⟨tyX7, tyX7_ok⟩, nmX7, rfl, by decide +kernel, fun h => absurd h (by decide)⟩
theorem fl_X8_92 : FLk RX8 92 6 2 RX7 TX7 6 := ⟨inX7, rfl, by decide, Or.inr ⟨_, q1_202⟩⟩
theorem pf_X8_92 : PFk RX8 92 6 2 RX7 TX7 6 .int false := ⟨fl_X8_92, ⟨tyX7, tyX7_ok⟩, nmX7, rfl, by decide +kernel, fun h => absurd h (by decide)⟩
theorem fl_X7_19 : FLk RX7 19 6 3 RX7 TX7 6 := ⟨inX7, rfl, by decide, Or.inl q1_203⟩
theorem pf_X7_19 : PFk RX7 19 6 3 RX7 TX7 6 .int false := ⟨fl_X7_19, ⟨tyX7, tyX7_ok⟩, nmX7, rfl, by decide +kernel, fun h => absurd h (by decide)⟩
theorem fl_X1_26 : FLk RX1 26 6 3 RX7 TX7 6 := ⟨inX7, rfl, by decide, Or.inr ⟨_, q1_204⟩⟩
theorem pf_X1_26 : PFk RX1 26 6 3 RX7 TX7 6 .int false := ⟨fl_X1_26, ⟨tyX7, tyX7_ok⟩, nmX7, rfl, by decide +kernel, fun h => absurd h (by decide)⟩
theorem fl_X3_41 : FLk RX3 41 6 3 RX7 TX7 6 := ⟨inX7, rfl, by decide, Or.inr ⟨_, q1_205⟩⟩
theorem pf_X3_41 : PFk RX3 41 6 3 RX7 TX7 6 .int false := ⟨fl_X3_41, ⟨tyX7, tyX7_ok⟩, nmX7, rfl, by decide +kernel, fun h => absurd h (by decide)⟩
theorem fl_X8_137 : FLk RX8 137 6 3 RX7 TX7 6 := ⟨inX7, rfl, by decide, Or.inr ⟨_, q1_206⟩⟩
theorem pf_X8_137 : PFk RX8 137 6 3 RX7 TX7 6 .int false := ⟨fl_X8_137, ⟨tyX7, tyX7_ok⟩, nmX7, rfl, by decide +kernel, fun h => absurd h (by decide)⟩
theorem fl_X7_22 : FLk RX7 22 6 4 RX7 TX7 6 := ⟨inX7, rfl, by decide, Or.inl q1_207⟩
theorem pf_X7_22 : PFk RX7 22 6 4 RX7 TX7 6 .long false := ⟨fl_X7_22, ⟨tyX7, tyX7_ok⟩, nmX7, rfl, by decide +kernel, fun h => absurd h (by decide)⟩
theorem fl_X1_20 : FLk RX1 20 6 4 RX7 TX7 6 := ⟨inX7, rfl, by decide, Or.inr ⟨_, q1_208⟩⟩
theorem pf_X1_20 : PFk RX1 20 6 4 RX7 TX7 6 .long false := ⟨fl_X1_20, ⟨tyX7, tyX7_ok⟩, nmX7, rfl, by decide +kernel, fun h => absurd h (by decide)⟩
theorem fl_X3_38 : FLk RX3 38 6 4 RX7 TX7 6 := ⟨inX7, rfl, by decide, Or.inr ⟨_, q1_209⟩⟩
theorem pf_X3_38 : PFk RX3 38 6 4 RX7 TX7 6 .long false := ⟨fl_X3_38, ⟨tyX7, tyX7_ok⟩, nmX7, rfl, by decide +kernel, fun h => absurd h (by decide)⟩
theorem fl_X8_85 : FLk RX8 85 6 4 RX7 TX7 6 := ⟨inX7, rfl, by decide, Or.inr ⟨_, q1_210⟩⟩
theorem pf_X8_85 : PFk RX8 85 6 4 RX7 TX7 6 .long false := ⟨fl_X8_85, ⟨tyX7, tyX7_ok⟩, nmX7, rfl, by decide +kernel, fun h => absurd h (by decide)⟩
theorem fl_X7_26 : FLk RX7 26 6 5 RX7 TX7 6 := ⟨inX7, rfl, by decide, Or.inl q1_211⟩
theorem pf_X7_26 : PFk RX7 26 6 5 RX7 TX7 6 .boolean false := ⟨fl_X7_26, ⟨tyX7, tyX7_ok⟩, nmX7, rfl, by decide +kernel, fun h => absurd h (by decide)⟩
theorem fl_X8_81 : FLk RX8 81 6 5 RX7 TX7 6 := ⟨inX7, rfl, by decide, Or.inr ⟨_, q1_212⟩⟩
theorem pf_X8_81 : PFk RX8 81 6 5 RX7 TX7 6 .boolean false := ⟨fl_X8_81, ⟨tyX7, tyX7_ok⟩, nmX7, rfl, by decide +kernel, fun h => absurd h (by decide)⟩
theorem fl_X8_11 : FLk RX8 11 7 0 RX8 TX8 6 := ⟨inX8, rfl, by decide, Or.inl q1_226⟩
theorem pf_X8_11 : PFk RX8 11 7 0 RX8 TX8 6 (.array (.object "GalleryRays$Ray")) true := ⟨fl_X8_11, ⟨tyX8, tyX8_ok⟩, nmX8, rfl, by decide +kernel, fun _ => by decide +kernel⟩
theorem fl_X8_20 : FLk RX8 20 7 1 RX8 TX8 6 := ⟨inX8, rfl, by decide, Or.inl q1_227⟩
theorem pf_X8_20 : PFk RX8 20 7 1 RX8 TX8 6 (.object "GalleryRays$HitLog") true := ⟨fl_X8_20, ⟨tyX8, tyX8_ok⟩, nmX8, rfl, by decide +kernel, fun _ => by decide +kernel⟩
theorem fl_X11_109 : FLk RX11 109 7 1 RX8 TX8 6 := ⟨inX8, rfl, by decide, Or.inr ⟨_, q1_228⟩⟩
theorem fl_X8_27 : FLk RX8 27 7 2 RX8 TX8 6 := ⟨inX8, rfl, by decide, Or.inl q1_229⟩
theorem pf_X8_27 : PFk RX8 27 7 2 RX8 TX8 6 (.object "GalleryRays$PlaceMarks") true := ⟨fl_X8_27, ⟨tyX8, tyX8_ok⟩, nmX8, rfl, by decide +kernel, fun _ => by decide +kernel⟩
theorem fl_X11_122 : FLk RX11 122 7 2 RX8 TX8 6 := ⟨inX8, rfl, by decide, Or.inr ⟨_, q1_230⟩⟩
theorem fl_X8_34 : FLk RX8 34 7 3 RX8 TX8 6 := ⟨inX8, rfl, by decide, Or.inl q1_231⟩
theorem pf_X8_34 : PFk RX8 34 7 3 RX8 TX8 6 (.object "GalleryRays$Ears") true := ⟨fl_X8_34, ⟨tyX8, tyX8_ok⟩, nmX8, rfl, by decide +kernel, fun _ => by decide +kernel⟩
theorem fl_X11_132 : FLk RX11 132 7 3 RX8 TX8 6 := ⟨inX8, rfl, by decide, Or.inr ⟨_, q1_232⟩⟩
theorem fl_X8_41 : FLk RX8 41 7 4 RX8 TX8 6 := ⟨inX8, rfl, by decide, Or.inl q1_233⟩
theorem pf_X8_41 : PFk RX8 41 7 4 RX8 TX8 6 (.object "GalleryRays$Path") true := ⟨fl_X8_41, ⟨tyX8, tyX8_ok⟩, nmX8, rfl, by decide +kernel, fun _ => by decide +kernel⟩
theorem fl_X11_147 : FLk RX11 147 7 4 RX8 TX8 6 := ⟨inX8, rfl, by decide, Or.inr ⟨_, q1_234⟩⟩
theorem fl_X8_56 : FLk RX8 56 7 5 RX8 TX8 6 := ⟨inX8, rfl, by decide, Or.inl q1_235⟩
theorem pf_X8_56 : PFk RX8 56 7 5 RX8 TX8 6 .int false := ⟨fl_X8_56, ⟨tyX8, tyX8_ok⟩, nmX8, rfl, by decide +kernel, fun h => absurd h (by decide)⟩
theorem fl_X11_119 : FLk RX11 119 7 5 RX8 TX8 6 := ⟨inX8, rfl, by decide, Or.inr ⟨_, q1_236⟩⟩
theorem pf_X11_119 : PFk RX11 119 7 5 RX8 TX8 6 .int false := ⟨fl_X11_119, ⟨tyX8, tyX8_ok⟩, nmX8, rfl, by decide +kernel, fun h => absurd h (by decide)⟩
theorem fl_X11_10 : FLk RX11 10 10 0 RX11 TX11 4 := ⟨inX11, rfl, by decide, Or.inl q2_10⟩
theorem pf_X11_10 : PFk RX11 10 10 0 RX11 TX11 4 (.object "GalleryRays$Wall") true := ⟨fl_X11_10, ⟨tyX11, tyX11_ok⟩, nmX11, rfl, by decide +kernel, fun _ => by decide +kernel⟩
theorem fl_X11_19 : FLk RX11 19 10 1 RX11 TX11 4 := ⟨inX11, rfl, by decide, Or.inl q2_11⟩
theorem pf_X11_19 : PFk RX11 19 10 1 RX11 TX11 4 (.object "GalleryRays$History") true := ⟨fl_X11_19, ⟨tyX11, tyX11_ok⟩, nmX11, rfl, by decide +kernel, fun _ => by decide +kernel⟩
theorem fl_X11_26 : FLk RX11 26 10 2 RX11 TX11 4 := ⟨inX11, rfl, by decide, Or.inl q2_12⟩
theorem pf_X11_26 : PFk RX11 26 10 2 RX11 TX11 4 (.object "GalleryRays$Text") true := ⟨fl_X11_26, ⟨tyX11, tyX11_ok⟩, nmX11, rfl, by decide +kernel, fun _ => by decide +kernel⟩
theorem fl_X11_33 : FLk RX11 33 10 3 RX11 TX11 4 := ⟨inX11, rfl, by decide, Or.inl q2_13⟩
theorem pf_X11_33 : PFk RX11 33 10 3 RX11 TX11 4 (.object "GalleryRays$Shot") true := ⟨fl_X11_33, ⟨tyX11, tyX11_ok⟩, nmX11, rfl, by decide +kernel, fun _ => by decide +kernel⟩
theorem fl_X12_7 : FLk RX12 7 11 0 RX12 TX12 27 := ⟨inX12, rfl, by decide, Or.inl q4_11⟩
theorem pf_X12_7 : PFk RX12 7 11 0 RX12 TX12 27 (.array .int) true := ⟨fl_X12_7, ⟨tyX12, tyX12_ok⟩, nmX12, rfl, by decide +kernel, fun _ => by decide +kernel⟩
theorem fl_X12_13 : FLk RX12 13 11 1 RX12 TX12 27 := ⟨inX12, rfl, by decide, Or.inl q4_12⟩
theorem pf_X12_13 : PFk RX12 13 11 1 RX12 TX12 27 (.array .int) true := ⟨fl_X12_13, ⟨tyX12, tyX12_ok⟩, nmX12, rfl, by decide +kernel, fun _ => by decide +kernel⟩
theorem fl_X12_66 : FLk RX12 66 11 2 RX12 TX12 27 := ⟨inX12, rfl, by decide, Or.inl q4_13⟩
theorem pf_X12_66 : PFk RX12 66 11 2 RX12 TX12 27 .int false := ⟨fl_X12_66, ⟨tyX12, tyX12_ok⟩, nmX12, rfl, by decide +kernel, fun h => absurd h (by decide)⟩
theorem fl_X12_16 : FLk RX12 16 11 3 RX12 TX12 27 := ⟨inX12, rfl, by decide, Or.inl q4_14⟩
theorem pf_X12_16 : PFk RX12 16 11 3 RX12 TX12 27 (.array .int) true := ⟨fl_X12_16, ⟨tyX12, tyX12_ok⟩, nmX12, rfl, by decide +kernel, fun _ => by decide +kernel⟩
theorem fl_X12_96 : FLk RX12 96 11 4 RX12 TX12 27 := ⟨inX12, rfl, by decide, Or.inl q4_15⟩
theorem pf_X12_96 : PFk RX12 96 11 4 RX12 TX12 27 .int false := ⟨fl_X12_96, ⟨tyX12, tyX12_ok⟩, nmX12, rfl, by decide +kernel, fun h => absurd h (by decide)⟩
theorem fl_X12_99 : FLk RX12 99 11 5 RX12 TX12 27 := ⟨inX12, rfl, by decide, Or.inl q4_16⟩
theorem pf_X12_99 : PFk RX12 99 11 5 RX12 TX12 27 .int false := ⟨fl_X12_99, ⟨tyX12, tyX12_ok⟩, nmX12, rfl, by decide +kernel, fun h => absurd h (by decide)⟩
theorem fl_X12_113 : FLk RX12 113 11 6 RX12 TX12 27 := ⟨inX12, rfl, by decide, Or.inl q4_17⟩
theorem pf_X12_113 : PFk RX12 113 11 6 RX12 TX12 27 .int false := ⟨fl_X12_113, ⟨tyX12, tyX12_ok⟩, nmX12, rfl, by decide +kernel, fun h => absurd h (by decide)⟩
theorem fl_X12_116 : FLk RX12 116 11 7 RX12 TX12 27 := ⟨inX12, rfl, by decide, Or.inl q4_18⟩
theorem pf_X12_116 : PFk RX12 116 11 7 RX12 TX12 27 .int false := ⟨fl_X12_116, ⟨tyX12, tyX12_ok⟩, nmX12, rfl, by decide +kernel, fun h => absurd h (by decide)⟩
theorem fl_X12_19 : FLk RX12 19 11 8 RX12 TX12 27 := ⟨inX12, rfl, by decide, Or.inl q4_19⟩
theorem pf_X12_19 : PFk RX12 19 11 8 RX12 TX12 27 (.array .int) true := ⟨fl_X12_19, ⟨tyX12, tyX12_ok⟩, nmX12, rfl, by decide +kernel, fun _ => by decide +kernel⟩
theorem fl_X12_22 : FLk RX12 22 11 9 RX12 TX12 27 := ⟨inX12, rfl, by decide, Or.inl q4_20⟩
theorem pf_X12_22 : PFk RX12 22 11 9 RX12 TX12 27 (.array .int) true := ⟨fl_X12_22, ⟨tyX12, tyX12_ok⟩, nmX12, rfl, by decide +kernel, fun _ => by decide +kernel⟩
theorem fl_X12_25 : FLk RX12 25 11 10 RX12 TX12 27 := ⟨inX12, rfl, by decide, Or.inl q4_21⟩
theorem pf_X12_25 : PFk RX12 25 11 10 RX12 TX12 27 (.array .int) true := ⟨fl_X12_25, ⟨tyX12, tyX12_ok⟩, nmX12, rfl, by decide +kernel, fun _ => by decide +kernel⟩
theorem fl_X12_28 : FLk RX12 28 11 11 RX12 TX12 27 := ⟨inX12, rfl, by decide, Or.inl q4_22⟩
theorem pf_X12_28 : PFk RX12 28 11 11 RX12 TX12 27 (.array .long) true := ⟨fl_X12_28, ⟨tyX12, tyX12_ok⟩, nmX12, rfl, by decide +kernel, fun _ => by decide +kernel⟩
theorem fl_X12_32 : FLk RX12 32 11 12 RX12 TX12 27 := ⟨inX12, rfl, by decide, Or.inl q4_23⟩
theorem pf_X12_32 : PFk RX12 32 11 12 RX12 TX12 27 (.array .int) true := ⟨fl_X12_32, ⟨tyX12, tyX12_ok⟩, nmX12, rfl, by decide +kernel, fun _ => by decide +kernel⟩
theorem fl_X12_35 : FLk RX12 35 11 13 RX12 TX12 27 := ⟨inX12, rfl, by decide, Or.inl q4_24⟩
theorem pf_X12_35 : PFk RX12 35 11 13 RX12 TX12 27 (.array .int) true := ⟨fl_X12_35, ⟨tyX12, tyX12_ok⟩, nmX12, rfl, by decide +kernel, fun _ => by decide +kernel⟩
theorem fl_X12_38 : FLk RX12 38 11 14 RX12 TX12 27 := ⟨inX12, rfl, by decide, Or.inl q4_25⟩
theorem pf_X12_38 : PFk RX12 38 11 14 RX12 TX12 27 (.array .boolean) true := ⟨fl_X12_38, ⟨tyX12, tyX12_ok⟩, nmX12, rfl, by decide +kernel, fun _ => by decide +kernel⟩
theorem fl_X12_169 : FLk RX12 169 11 15 RX12 TX12 27 := ⟨inX12, rfl, by decide, Or.inl q4_26⟩
theorem pf_X12_169 : PFk RX12 169 11 15 RX12 TX12 27 .int false := ⟨fl_X12_169, ⟨tyX12, tyX12_ok⟩, nmX12, rfl, by decide +kernel, fun h => absurd h (by decide)⟩
theorem fl_X12_42 : FLk RX12 42 11 16 RX12 TX12 27 := ⟨inX12, rfl, by decide, Or.inl q4_27⟩
theorem pf_X12_42 : PFk RX12 42 11 16 RX12 TX12 27 (.array .long) true := ⟨fl_X12_42, ⟨tyX12, tyX12_ok⟩, nmX12, rfl, by decide +kernel, fun _ => by decide +kernel⟩
theorem fl_X12_45 : FLk RX12 45 11 17 RX12 TX12 27 := ⟨inX12, rfl, by decide, Or.inl q4_28⟩
theorem pf_X12_45 : PFk RX12 45 11 17 RX12 TX12 27 (.array .boolean) true := ⟨fl_X12_45, ⟨tyX12, tyX12_ok⟩, nmX12, rfl, by decide +kernel, fun _ => by decide +kernel⟩
theorem fl_X12_172 : FLk RX12 172 11 18 RX12 TX12 27 := ⟨inX12, rfl, by decide, Or.inl q4_29⟩
theorem pf_X12_172 : PFk RX12 172 11 18 RX12 TX12 27 .int false := ⟨fl_X12_172, ⟨tyX12, tyX12_ok⟩, nmX12, rfl, by decide +kernel, fun h => absurd h (by decide)⟩
theorem fl_X12_48 : FLk RX12 48 11 19 RX12 TX12 27 := ⟨inX12, rfl, by decide, Or.inl q4_30⟩
theorem pf_X12_48 : PFk RX12 48 11 19 RX12 TX12 27 (.array .int) true := ⟨fl_X12_48, ⟨tyX12, tyX12_ok⟩, nmX12, rfl, by decide +kernel, fun _ => by decide +kernel⟩
theorem fl_X12_51 : FLk RX12 51 11 20 RX12 TX12 27 := ⟨inX12, rfl, by decide, Or.inl q4_31⟩
theorem pf_X12_51 : PFk RX12 51 11 20 RX12 TX12 27 (.array .long) true := ⟨fl_X12_51, ⟨tyX12, tyX12_ok⟩, nmX12, rfl, by decide +kernel, fun _ => by decide +kernel⟩
theorem fl_X12_54 : FLk RX12 54 11 21 RX12 TX12 27 := ⟨inX12, rfl, by decide, Or.inl q4_32⟩
theorem pf_X12_54 : PFk RX12 54 11 21 RX12 TX12 27 (.array .long) true := ⟨fl_X12_54, ⟨tyX12, tyX12_ok⟩, nmX12, rfl, by decide +kernel, fun _ => by decide +kernel⟩
theorem fl_X12_57 : FLk RX12 57 11 22 RX12 TX12 27 := ⟨inX12, rfl, by decide, Or.inl q4_33⟩
theorem pf_X12_57 : PFk RX12 57 11 22 RX12 TX12 27 (.array .int) true := ⟨fl_X12_57, ⟨tyX12, tyX12_ok⟩, nmX12, rfl, by decide +kernel, fun _ => by decide +kernel⟩
theorem fl_X12_194 : FLk RX12 194 11 23 RX12 TX12 27 := ⟨inX12, rfl, by decide, Or.inl q4_34⟩
theorem pf_X12_194 : PFk RX12 194 11 23 RX12 TX12 27 .int false := ⟨fl_X12_194, ⟨tyX12, tyX12_ok⟩, nmX12, rfl, by decide +kernel, fun h => absurd h (by decide)⟩
theorem fl_X12_197 : FLk RX12 197 11 24 RX12 TX12 27 := ⟨inX12, rfl, by decide, Or.inl q4_35⟩
theorem pf_X12_197 : PFk RX12 197 11 24 RX12 TX12 27 .int false := ⟨fl_X12_197, ⟨tyX12, tyX12_ok⟩, nmX12, rfl, by decide +kernel, fun h => absurd h (by decide)⟩
theorem fl_X12_60 : FLk RX12 60 11 25 RX12 TX12 27 := ⟨inX12, rfl, by decide, Or.inl q4_36⟩
theorem pf_X12_60 : PFk RX12 60 11 25 RX12 TX12 27 (.array .boolean) true := ⟨fl_X12_60, ⟨tyX12, tyX12_ok⟩, nmX12, rfl, by decide +kernel, fun _ => by decide +kernel⟩
theorem fl_X12_63 : FLk RX12 63 11 26 RX12 TX12 27 := ⟨inX12, rfl, by decide, Or.inl q4_37⟩
theorem pf_X12_63 : PFk RX12 63 11 26 RX12 TX12 27 (.array .int) true := ⟨fl_X12_63, ⟨tyX12, tyX12_ok⟩, nmX12, rfl, by decide +kernel, fun _ => by decide +kernel⟩
