/-! names, words and calls, by program -/
def iZ (z : Int) : Int32 := Int32.ofInt z
def lZ (z : Int) : Int64 := Int64.ofInt z
def RX0 : String := "GalleryRays$Circle"
def TX0 : u_T := fun k => match k with
  | _ => ("", "", "", false)
def tyX0 : Nat → FieldType := fun k => match k with
  | _ => .int
abbrev wsX00 : List Cond := u_ws RX0 TX0 0
theorem nmX0 : ∀ a, a < 0 → ∀ b, b < 0 → a ≠ b → (TX0 a).2.1 ≠ (TX0 b).2.1 := by decide +kernel
theorem tyX0_ok : ∀ k, k < 0 → parseFieldDescriptor (TX0 k).2.2.1 = some (tyX0 k) := by decide +kernel
abbrev cX0_isPlace : ByteArray := prog_2_method_2_code
def yX0_isPlace : MethodName := ⟨RX0, "isPlace", "(I)Z"⟩
abbrev cX0_isStep : ByteArray := prog_2_method_3_code
def yX0_isStep : MethodName := ⟨RX0, "isStep", "(I)Z"⟩
abbrev cX0_placeAfter : ByteArray := prog_2_method_4_code
def yX0_placeAfter : MethodName := ⟨RX0, "placeAfter", "(II)I"⟩
abbrev cX0_sine : ByteArray := prog_2_method_5_code
def yX0_sine : MethodName := ⟨RX0, "sine", "(II)I"⟩
abbrev cX0_chordTime : ByteArray := prog_2_method_6_code
def yX0_chordTime : MethodName := ⟨RX0, "chordTime", "(I)I"⟩
abbrev cX0_causticRadius : ByteArray := prog_2_method_7_code
def yX0_causticRadius : MethodName := ⟨RX0, "causticRadius", "(I)I"⟩
abbrev cX0_sharedDivisor : ByteArray := prog_2_method_8_code
def yX0_sharedDivisor : MethodName := ⟨RX0, "sharedDivisor", "(I)I"⟩
abbrev cX0_tilted : ByteArray := prog_2_method_9_code
def yX0_tilted : MethodName := ⟨RX0, "tilted", "(II)I"⟩
abbrev cX0_smallestStep : ByteArray := prog_2_method_10_code
def yX0_smallestStep : MethodName := ⟨RX0, "smallestStep", "(II)I"⟩
abbrev cX0_isBetter : ByteArray := prog_2_method_11_code
def yX0_isBetter : MethodName := ⟨RX0, "isBetter", "(II)Z"⟩
def RX1 : String := "GalleryRays$Ears"
def TX1 : u_T := fun k => match k with
  | _ => ("GalleryRays$Ears", "numbers", "[J", true)
def tyX1 : Nat → FieldType := fun k => match k with
  | _ => .array .long
abbrev wsX10 : List Cond := u_ws RX1 TX1 1
theorem nmX1 : ∀ a, a < 1 → ∀ b, b < 1 → a ≠ b → (TX1 a).2.1 ≠ (TX1 b).2.1 := by decide +kernel
theorem tyX1_ok : ∀ k, k < 1 → parseFieldDescriptor (TX1 k).2.2.1 = some (tyX1 k) := by decide +kernel
abbrev cX1_init : ByteArray := prog_3_method_1_code
def yX1_init : MethodName := ⟨RX1, "<init>", "()V"⟩
abbrev cX1_forget : ByteArray := prog_3_method_2_code
def yX1_forget : MethodName := ⟨RX1, "forget", "()V"⟩
abbrev cX1_hear : ByteArray := prog_3_method_3_code
def yX1_hear : MethodName := ⟨RX1, "hear", "(ILGalleryRays$Ray;)V"⟩
abbrev cX1_numberOf : ByteArray := prog_3_method_4_code
def yX1_numberOf : MethodName := ⟨RX1, "numberOf", "(II)J"⟩
def RX2 : String := "GalleryRays$History"
def TX2 : u_T := fun k => match k with
  | 0 => ("GalleryRays$History", "states", "[LGalleryRays$Wall;", true)
  | _ => ("GalleryRays$History", "count", "I", false)
def tyX2 : Nat → FieldType := fun k => match k with
  | 0 => .array (.object "GalleryRays$Wall")
  | _ => .int
abbrev wsX20 : List Cond := u_ws RX2 TX2 2
theorem nmX2 : ∀ a, a < 2 → ∀ b, b < 2 → a ≠ b → (TX2 a).2.1 ≠ (TX2 b).2.1 := by decide +kernel
theorem tyX2_ok : ∀ k, k < 2 → parseFieldDescriptor (TX2 k).2.2.1 = some (tyX2 k) := by decide +kernel
abbrev cX2_init : ByteArray := prog_4_method_1_code
def yX2_init : MethodName := ⟨RX2, "<init>", "()V"⟩
abbrev cX2_keep : ByteArray := prog_4_method_2_code
def yX2_keep : MethodName := ⟨RX2, "keep", "(LGalleryRays$Wall;)V"⟩
abbrev cX2_dropOldest : ByteArray := prog_4_method_3_code
def yX2_dropOldest : MethodName := ⟨RX2, "dropOldest", "()V"⟩
abbrev cX2_restore : ByteArray := prog_4_method_4_code
def yX2_restore : MethodName := ⟨RX2, "restore", "(LGalleryRays$Wall;)V"⟩
def RX3 : String := "GalleryRays$HitLog"
def TX3 : u_T := fun k => match k with
  | 0 => ("GalleryRays$HitLog", "numbers", "[J", true)
  | 1 => ("GalleryRays$HitLog", "echoes", "[I", true)
  | 2 => ("GalleryRays$HitLog", "count", "I", false)
  | 3 => ("GalleryRays$HitLog", "echoCount", "I", false)
  | _ => ("GalleryRays$HitLog", "energySum", "J", false)
def tyX3 : Nat → FieldType := fun k => match k with
  | 0 => .array .long
  | 1 => .array .int
  | 2 => .int
  | 3 => .int
  | _ => .long
abbrev wsX30 : List Cond := u_ws RX3 TX3 5
theorem nmX3 : ∀ a, a < 5 → ∀ b, b < 5 → a ≠ b → (TX3 a).2.1 ≠ (TX3 b).2.1 := by decide +kernel
theorem tyX3_ok : ∀ k, k < 5 → parseFieldDescriptor (TX3 k).2.2.1 = some (tyX3 k) := by decide +kernel
abbrev cX3_init : ByteArray := prog_5_method_1_code
def yX3_init : MethodName := ⟨RX3, "<init>", "()V"⟩
abbrev cX3_forget : ByteArray := prog_5_method_2_code
def yX3_forget : MethodName := ⟨RX3, "forget", "()V"⟩
abbrev cX3_note : ByteArray := prog_5_method_3_code
def yX3_note : MethodName := ⟨RX3, "note", "(LGalleryRays$Ray;)V"⟩
abbrev cX3_noteEcho : ByteArray := prog_5_method_4_code
def yX3_noteEcho : MethodName := ⟨RX3, "noteEcho", "()V"⟩
abbrev cX3_numberOf : ByteArray := prog_5_method_5_code
def yX3_numberOf : MethodName := ⟨RX3, "numberOf", "(II)J"⟩
abbrev cX3_echoAt : ByteArray := prog_5_method_6_code
def yX3_echoAt : MethodName := ⟨RX3, "echoAt", "(I)I"⟩
abbrev cX3_meanEnergy : ByteArray := prog_5_method_7_code
def yX3_meanEnergy : MethodName := ⟨RX3, "meanEnergy", "()F"⟩
def RX4 : String := "GalleryRays$Parts"
def TX4 : u_T := fun k => match k with
  | 0 => ("GalleryRays$Parts", "numbers", "[I", true)
  | _ => ("GalleryRays$Parts", "count", "I", false)
def tyX4 : Nat → FieldType := fun k => match k with
  | 0 => .array .int
  | _ => .int
abbrev wsX40 : List Cond := u_ws RX4 TX4 2
theorem nmX4 : ∀ a, a < 2 → ∀ b, b < 2 → a ≠ b → (TX4 a).2.1 ≠ (TX4 b).2.1 := by decide +kernel
theorem tyX4_ok : ∀ k, k < 2 → parseFieldDescriptor (TX4 k).2.2.1 = some (tyX4 k) := by decide +kernel
abbrev cX4_init : ByteArray := prog_6_method_1_code
def yX4_init : MethodName := ⟨RX4, "<init>", "()V"⟩
abbrev cX4_isAllowed : ByteArray := prog_6_method_2_code
def yX4_isAllowed : MethodName := ⟨RX4, "isAllowed", "(IIII)Z"⟩
abbrev cX4_leastBy : ByteArray := prog_6_method_3_code
def yX4_leastBy : MethodName := ⟨RX4, "leastBy", "(I)I"⟩
abbrev cX4_mostBy : ByteArray := prog_6_method_4_code
def yX4_mostBy : MethodName := ⟨RX4, "mostBy", "(I)I"⟩
abbrev cX4_mayBeNegative : ByteArray := prog_6_method_5_code
def yX4_mayBeNegative : MethodName := ⟨RX4, "mayBeNegative", "(I)Z"⟩
abbrev cX4_has : ByteArray := prog_6_method_8_code
def yX4_has : MethodName := ⟨RX4, "has", "(I)Z"⟩
abbrev cX4_numberOf : ByteArray := prog_6_method_9_code
def yX4_numberOf : MethodName := ⟨RX4, "numberOf", "(II)I"⟩
abbrev cX4_covers : ByteArray := prog_6_method_10_code
def yX4_covers : MethodName := ⟨RX4, "covers", "(II)Z"⟩
abbrev cX4_append : ByteArray := prog_6_method_11_code
def yX4_append : MethodName := ⟨RX4, "append", "(IIII)V"⟩
abbrev cX4_takeOut : ByteArray := prog_6_method_13_code
def yX4_takeOut : MethodName := ⟨RX4, "takeOut", "(I)V"⟩
abbrev cX4_copyFrom : ByteArray := prog_6_method_14_code
def yX4_copyFrom : MethodName := ⟨RX4, "copyFrom", "(LGalleryRays$Parts;)V"⟩
def RX5 : String := "GalleryRays$Path"
def TX5 : u_T := fun k => match k with
  | 0 => ("GalleryRays$Path", "corners", "[I", true)
  | _ => ("GalleryRays$Path", "count", "I", false)
def tyX5 : Nat → FieldType := fun k => match k with
  | 0 => .array .int
  | _ => .int
abbrev wsX50 : List Cond := u_ws RX5 TX5 2
theorem nmX5 : ∀ a, a < 2 → ∀ b, b < 2 → a ≠ b → (TX5 a).2.1 ≠ (TX5 b).2.1 := by decide +kernel
theorem tyX5_ok : ∀ k, k < 2 → parseFieldDescriptor (TX5 k).2.2.1 = some (tyX5 k) := by decide +kernel
abbrev cX5_init : ByteArray := prog_7_method_1_code
def yX5_init : MethodName := ⟨RX5, "<init>", "()V"⟩
abbrev cX5_startAt : ByteArray := prog_7_method_2_code
def yX5_startAt : MethodName := ⟨RX5, "startAt", "(I)V"⟩
abbrev cX5_goTo : ByteArray := prog_7_method_3_code
def yX5_goTo : MethodName := ⟨RX5, "goTo", "(I)V"⟩
abbrev cX5_crossingPairs : ByteArray := prog_7_method_4_code
def yX5_crossingPairs : MethodName := ⟨RX5, "crossingPairs", "(I)I"⟩
abbrev cX5_cross : ByteArray := prog_7_method_5_code
def yX5_cross : MethodName := ⟨RX5, "cross", "(IIII)Z"⟩
abbrev cX5_isBetween : ByteArray := prog_7_method_6_code
def yX5_isBetween : MethodName := ⟨RX5, "isBetween", "(III)Z"⟩
abbrev cX5_isBeyond : ByteArray := prog_7_method_7_code
def yX5_isBeyond : MethodName := ⟨RX5, "isBeyond", "(III)Z"⟩
def RX6 : String := "GalleryRays$PlaceMarks"
def TX6 : u_T := fun k => match k with
  | 0 => ("GalleryRays$PlaceMarks", "words", "[J", true)
  | _ => ("GalleryRays$PlaceMarks", "count", "I", false)
def tyX6 : Nat → FieldType := fun k => match k with
  | 0 => .array .long
  | _ => .int
abbrev wsX60 : List Cond := u_ws RX6 TX6 2
theorem nmX6 : ∀ a, a < 2 → ∀ b, b < 2 → a ≠ b → (TX6 a).2.1 ≠ (TX6 b).2.1 := by decide +kernel
theorem tyX6_ok : ∀ k, k < 2 → parseFieldDescriptor (TX6 k).2.2.1 = some (tyX6 k) := by decide +kernel
abbrev cX6_init : ByteArray := prog_8_method_1_code
def yX6_init : MethodName := ⟨RX6, "<init>", "()V"⟩
abbrev cX6_forget : ByteArray := prog_8_method_2_code
def yX6_forget : MethodName := ⟨RX6, "forget", "()V"⟩
abbrev cX6_mark : ByteArray := prog_8_method_3_code
def yX6_mark : MethodName := ⟨RX6, "mark", "(I)V"⟩
abbrev cX6_lowestBit : ByteArray := prog_8_method_4_code
def yX6_lowestBit : MethodName := ⟨RX6, "lowestBit", "(J)I"⟩
abbrev cX6_longestGap : ByteArray := prog_8_method_5_code
def yX6_longestGap : MethodName := ⟨RX6, "longestGap", "()I"⟩
def RX7 : String := "GalleryRays$Ray"
def TX7 : u_T := fun k => match k with
  | 0 => ("GalleryRays$Ray", "number", "I", true)
  | 1 => ("GalleryRays$Ray", "place", "I", false)
  | 2 => ("GalleryRays$Ray", "step", "I", false)
  | 3 => ("GalleryRays$Ray", "energy", "I", false)
  | 4 => ("GalleryRays$Ray", "arrival", "J", false)
  | _ => ("GalleryRays$Ray", "going", "Z", false)
def tyX7 : Nat → FieldType := fun k => match k with
  | 0 => .int
  | 1 => .int
  | 2 => .int
  | 3 => .int
  | 4 => .long
  | _ => .boolean
abbrev wsX70 : List Cond := u_ws RX7 TX7 6
theorem nmX7 : ∀ a, a < 6 → ∀ b, b < 6 → a ≠ b → (TX7 a).2.1 ≠ (TX7 b).2.1 := by decide +kernel
theorem tyX7_ok : ∀ k, k < 6 → parseFieldDescriptor (TX7 k).2.2.1 = some (tyX7 k) := by decide +kernel
abbrev cX7_init : ByteArray := prog_9_method_1_code
def yX7_init : MethodName := ⟨RX7, "<init>", "(I)V"⟩
abbrev cX7_start : ByteArray := prog_9_method_2_code
def yX7_start : MethodName := ⟨RX7, "start", "(IIIJ)V"⟩
abbrev cX7_lose : ByteArray := prog_9_method_3_code
def yX7_lose : MethodName := ⟨RX7, "lose", "(I)V"⟩
abbrev cX7_tilt : ByteArray := prog_9_method_4_code
def yX7_tilt : MethodName := ⟨RX7, "tilt", "(I)V"⟩
def RX8 : String := "GalleryRays$Shot"
def TX8 : u_T := fun k => match k with
  | 0 => ("GalleryRays$Shot", "rays", "[LGalleryRays$Ray;", true)
  | 1 => ("GalleryRays$Shot", "log", "LGalleryRays$HitLog;", true)
  | 2 => ("GalleryRays$Shot", "marks", "LGalleryRays$PlaceMarks;", true)
  | 3 => ("GalleryRays$Shot", "ears", "LGalleryRays$Ears;", true)
  | 4 => ("GalleryRays$Shot", "path", "LGalleryRays$Path;", true)
  | _ => ("GalleryRays$Shot", "rayCount", "I", false)
def tyX8 : Nat → FieldType := fun k => match k with
  | 0 => .array (.object "GalleryRays$Ray")
  | 1 => .object "GalleryRays$HitLog"
  | 2 => .object "GalleryRays$PlaceMarks"
  | 3 => .object "GalleryRays$Ears"
  | 4 => .object "GalleryRays$Path"
  | _ => .int
abbrev wsX80 : List Cond := u_ws RX8 TX8 6
theorem nmX8 : ∀ a, a < 6 → ∀ b, b < 6 → a ≠ b → (TX8 a).2.1 ≠ (TX8 b).2.1 := by decide +kernel
theorem tyX8_ok : ∀ k, k < 6 → parseFieldDescriptor (TX8 k).2.2.1 = some (tyX8 k) := by decide +kernel
abbrev cX8_init : ByteArray := prog_10_method_1_code
def yX8_init : MethodName := ⟨RX8, "<init>", "()V"⟩
abbrev cX8_run : ByteArray := prog_10_method_2_code
def yX8_run : MethodName := ⟨RX8, "run", "(LGalleryRays$Wall;III)V"⟩
abbrev cX8_begin : ByteArray := prog_10_method_3_code
def yX8_begin : MethodName := ⟨RX8, "begin", "(IIIJ)V"⟩
abbrev cX8_earliest : ByteArray := prog_10_method_4_code
def yX8_earliest : MethodName := ⟨RX8, "earliest", "()LGalleryRays$Ray;"⟩
abbrev cX8_meet : ByteArray := prog_10_method_5_code
def yX8_meet : MethodName := ⟨RX8, "meet", "(LGalleryRays$Wall;LGalleryRays$Ray;)V"⟩
abbrev cX8_act : ByteArray := prog_10_method_6_code
def yX8_act : MethodName := ⟨RX8, "act", "(LGalleryRays$Wall;ILGalleryRays$Ray;)V"⟩
abbrev cX8_split : ByteArray := prog_10_method_7_code
def yX8_split : MethodName := ⟨RX8, "split", "(LGalleryRays$Ray;II)V"⟩
def RX9 : String := "GalleryRays$Text"
def TX9 : u_T := fun k => match k with
  | 0 => ("GalleryRays$Text", "signs", "[C", true)
  | 1 => ("GalleryRays$Text", "found", "LGalleryRays$Parts;", true)
  | 2 => ("GalleryRays$Text", "length", "I", false)
  | 3 => ("GalleryRays$Text", "at", "I", false)
  | 4 => ("GalleryRays$Text", "broken", "Z", false)
  | _ => ("GalleryRays$Text", "outOfRange", "I", false)
def tyX9 : Nat → FieldType := fun k => match k with
  | 0 => .array .char
  | 1 => .object "GalleryRays$Parts"
  | 2 => .int
  | 3 => .int
  | 4 => .boolean
  | _ => .int
abbrev wsX90 : List Cond := u_ws RX9 TX9 6
theorem nmX9 : ∀ a, a < 6 → ∀ b, b < 6 → a ≠ b → (TX9 a).2.1 ≠ (TX9 b).2.1 := by decide +kernel
theorem tyX9_ok : ∀ k, k < 6 → parseFieldDescriptor (TX9 k).2.2.1 = some (tyX9 k) := by decide +kernel
abbrev cX9_init : ByteArray := prog_11_method_1_code
def yX9_init : MethodName := ⟨RX9, "<init>", "()V"⟩
abbrev cX9_append : ByteArray := prog_11_method_2_code
def yX9_append : MethodName := ⟨RX9, "append", "(C)V"⟩
def RX10 : String := "GalleryRays$Wall"
def TX10 : u_T := fun k => match k with
  | 0 => ("GalleryRays$Wall", "parts", "LGalleryRays$Parts;", true)
  | 1 => ("GalleryRays$Wall", "loss", "I", false)
  | _ => ("GalleryRays$Wall", "threshold", "I", false)
def tyX10 : Nat → FieldType := fun k => match k with
  | 0 => .object "GalleryRays$Parts"
  | 1 => .int
  | _ => .int
abbrev wsX100 : List Cond := u_ws RX10 TX10 3
theorem nmX10 : ∀ a, a < 3 → ∀ b, b < 3 → a ≠ b → (TX10 a).2.1 ≠ (TX10 b).2.1 := by decide +kernel
theorem tyX10_ok : ∀ k, k < 3 → parseFieldDescriptor (TX10 k).2.2.1 = some (tyX10 k) := by decide +kernel
abbrev cX10_init : ByteArray := prog_12_method_1_code
def yX10_init : MethodName := ⟨RX10, "<init>", "()V"⟩
abbrev cX10_copyFrom : ByteArray := prog_12_method_2_code
def yX10_copyFrom : MethodName := ⟨RX10, "copyFrom", "(LGalleryRays$Wall;)V"⟩
def RX11 : String := "GalleryRays"
def TX11 : u_T := fun k => match k with
  | 0 => ("GalleryRays", "wall", "LGalleryRays$Wall;", true)
  | 1 => ("GalleryRays", "history", "LGalleryRays$History;", true)
  | 2 => ("GalleryRays", "text", "LGalleryRays$Text;", true)
  | _ => ("GalleryRays", "shot", "LGalleryRays$Shot;", true)
def tyX11 : Nat → FieldType := fun k => match k with
  | 0 => .object "GalleryRays$Wall"
  | 1 => .object "GalleryRays$History"
  | 2 => .object "GalleryRays$Text"
  | _ => .object "GalleryRays$Shot"
abbrev wsX110 : List Cond := u_ws RX11 TX11 4
theorem nmX11 : ∀ a, a < 4 → ∀ b, b < 4 → a ≠ b → (TX11 a).2.1 ≠ (TX11 b).2.1 := by decide +kernel
theorem tyX11_ok : ∀ k, k < 4 → parseFieldDescriptor (TX11 k).2.2.1 = some (tyX11 k) := by decide +kernel
abbrev cX11_init : ByteArray := prog_1_method_1_code
def yX11_init : MethodName := ⟨RX11, "<init>", "()V"⟩
abbrev cX11_add : ByteArray := prog_1_method_2_code
def yX11_add : MethodName := ⟨RX11, "add", "(IIII)I"⟩
abbrev cX11_remove : ByteArray := prog_1_method_3_code
def yX11_remove : MethodName := ⟨RX11, "remove", "(I)I"⟩
abbrev cX11_part : ByteArray := prog_1_method_4_code
def yX11_part : MethodName := ⟨RX11, "part", "(II)I"⟩
abbrev cX11_parts : ByteArray := prog_1_method_5_code
def yX11_parts : MethodName := ⟨RX11, "parts", "()I"⟩
abbrev cX11_setLoss : ByteArray := prog_1_method_6_code
def yX11_setLoss : MethodName := ⟨RX11, "setLoss", "(I)I"⟩
abbrev cX11_setThreshold : ByteArray := prog_1_method_7_code
def yX11_setThreshold : MethodName := ⟨RX11, "setThreshold", "(I)I"⟩
abbrev cX11_type : ByteArray := prog_1_method_8_code
def yX11_type : MethodName := ⟨RX11, "type", "(I)I"⟩
abbrev cX11_shoot : ByteArray := prog_1_method_11_code
def yX11_shoot : MethodName := ⟨RX11, "shoot", "(III)I"⟩
abbrev cX11_hits : ByteArray := prog_1_method_12_code
def yX11_hits : MethodName := ⟨RX11, "hits", "()I"⟩
abbrev cX11_hit : ByteArray := prog_1_method_13_code
def yX11_hit : MethodName := ⟨RX11, "hit", "(II)J"⟩
abbrev cX11_rays : ByteArray := prog_1_method_14_code
def yX11_rays : MethodName := ⟨RX11, "rays", "()I"⟩
abbrev cX11_coverage : ByteArray := prog_1_method_15_code
def yX11_coverage : MethodName := ⟨RX11, "coverage", "()I"⟩
abbrev cX11_gap : ByteArray := prog_1_method_16_code
def yX11_gap : MethodName := ⟨RX11, "gap", "()I"⟩
abbrev cX11_heard : ByteArray := prog_1_method_17_code
def yX11_heard : MethodName := ⟨RX11, "heard", "(II)J"⟩
abbrev cX11_echo : ByteArray := prog_1_method_18_code
def yX11_echo : MethodName := ⟨RX11, "echo", "(I)I"⟩
abbrev cX11_mean : ByteArray := prog_1_method_19_code
def yX11_mean : MethodName := ⟨RX11, "mean", "()F"⟩
abbrev cX11_crossings : ByteArray := prog_1_method_20_code
def yX11_crossings : MethodName := ⟨RX11, "crossings", "(I)I"⟩
abbrev cX11_time : ByteArray := prog_1_method_21_code
def yX11_time : MethodName := ⟨RX11, "time", "(I)I"⟩
abbrev cX11_caustic : ByteArray := prog_1_method_22_code
def yX11_caustic : MethodName := ⟨RX11, "caustic", "(I)I"⟩
abbrev cX11_order : ByteArray := prog_1_method_23_code
def yX11_order : MethodName := ⟨RX11, "order", "(I)I"⟩
abbrev cX11_turns : ByteArray := prog_1_method_24_code
def yX11_turns : MethodName := ⟨RX11, "turns", "(I)I"⟩
abbrev cX11_aim : ByteArray := prog_1_method_25_code
def yX11_aim : MethodName := ⟨RX11, "aim", "(III)I"⟩
abbrev cX11_widest : ByteArray := prog_1_method_26_code
def yX11_widest : MethodName := ⟨RX11, "widest", "(I)I"⟩
abbrev cX11_undo : ByteArray := prog_1_method_27_code
def yX11_undo : MethodName := ⟨RX11, "undo", "()I"⟩
abbrev cX11_fingerprint : ByteArray := prog_1_method_28_code
def yX11_fingerprint : MethodName := ⟨RX11, "fingerprint", "()J"⟩
abbrev cX11_mixed : ByteArray := prog_1_method_29_code
def yX11_mixed : MethodName := ⟨RX11, "mixed", "(JJ)J"⟩
def RX12 : String := "GalleryRaysModel"
def TX12 : u_T := fun k => match k with
  | _ => ("", "", "", false)
def tyX12 : Nat → FieldType := fun k => match k with
  | _ => .int
abbrev wsX120 : List Cond := u_ws RX12 TX12 0
theorem nmX12 : ∀ a, a < 0 → ∀ b, b < 0 → a ≠ b → (TX12 a).2.1 ≠ (TX12 b).2.1 := by decide +kernel
theorem tyX12_ok : ∀ k, k < 0 → parseFieldDescriptor (TX12 k).2.2.1 = some (tyX12 k) := by decide +kernel
def RJ13 : String := "java/lang/Long"
def TJ13 : u_T := fun k => match k with
  | _ => ("", "", "", false)
def tyJ13 : Nat → FieldType := fun k => match k with
  | _ => .int
abbrev wsJ130 : List Cond := u_ws RJ13 TJ13 0
theorem nmJ13 : ∀ a, a < 0 → ∀ b, b < 0 → a ≠ b → (TJ13 a).2.1 ≠ (TJ13 b).2.1 := by decide +kernel
theorem tyJ13_ok : ∀ k, k < 0 → parseFieldDescriptor (TJ13 k).2.2.1 = some (tyJ13 k) := by decide +kernel
abbrev cJ13_bitCount_95d88 : ByteArray := prog_15_method_50_code
def yJ13_bitCount_95d88 : MethodName := ⟨RJ13, "bitCount", "(J)I"⟩
def RJ9 : String := "java/lang/Math"
def TJ9 : u_T := fun k => match k with
  | _ => ("", "", "", false)
def tyJ9 : Nat → FieldType := fun k => match k with
  | _ => .int
abbrev wsJ90 : List Cond := u_ws RJ9 TJ9 0
theorem nmJ9 : ∀ a, a < 0 → ∀ b, b < 0 → a ≠ b → (TJ9 a).2.1 ≠ (TJ9 b).2.1 := by decide +kernel
theorem tyJ9_ok : ∀ k, k < 0 → parseFieldDescriptor (TJ9 k).2.2.1 = some (tyJ9 k) := by decide +kernel
abbrev cJ9_floorMod_7cf53 : ByteArray := prog_16_method_50_code
def yJ9_floorMod_7cf53 : MethodName := ⟨RJ9, "floorMod", "(II)I"⟩
abbrev cJ9_abs_0f7a4 : ByteArray := prog_16_method_59_code
def yJ9_abs_0f7a4 : MethodName := ⟨RJ9, "abs", "(I)I"⟩
abbrev cJ9_max_7cf53 : ByteArray := prog_16_method_65_code
def yJ9_max_7cf53 : MethodName := ⟨RJ9, "max", "(II)I"⟩
abbrev cJ9_max_f86c9 : ByteArray := prog_16_method_66_code
def yJ9_max_f86c9 : MethodName := ⟨RJ9, "max", "(JJ)J"⟩
abbrev cJ9_min_7cf53 : ByteArray := prog_16_method_69_code
def yJ9_min_7cf53 : MethodName := ⟨RJ9, "min", "(II)I"⟩
def RJ10 : String := "java/lang/System"
def TJ10 : u_T := fun k => match k with
  | _ => ("", "", "", false)
def tyJ10 : Nat → FieldType := fun k => match k with
  | _ => .int
abbrev wsJ100 : List Cond := u_ws RJ10 TJ10 0
theorem nmJ10 : ∀ a, a < 0 → ∀ b, b < 0 → a ≠ b → (TJ10 a).2.1 ≠ (TJ10 b).2.1 := by decide +kernel
theorem tyJ10_ok : ∀ k, k < 0 → parseFieldDescriptor (TJ10 k).2.2.1 = some (tyJ10 k) := by decide +kernel
def RL : String := "GalleryRaysLaw"
abbrev cL_cell : ByteArray := method_2_code
def yL_cell : MethodName := ⟨RL, "cell", "([II)I"⟩
abbrev cL_up : ByteArray := method_3_code
def yL_up : MethodName := ⟨RL, "up", "(II)I"⟩
abbrev cL_fails : ByteArray := method_4_code
def yL_fails : MethodName := ⟨RL, "fails", "(LGalleryRays;)Z"⟩
abbrev cL_hits : ByteArray := method_5_code
def yL_hits : MethodName := ⟨RL, "hits", "(LGalleryRays;III)Z"⟩
abbrev cL_heard : ByteArray := method_6_code
def yL_heard : MethodName := ⟨RL, "heard", "(LGalleryRays;I)Z"⟩
abbrev cL_chords : ByteArray := method_7_code
def yL_chords : MethodName := ⟨RL, "chords", "(LGalleryRays;I)Z"⟩
abbrev cL_aims : ByteArray := method_8_code
def yL_aims : MethodName := ⟨RL, "aims", "(III)Z"⟩
abbrev cL_step : ByteArray := method_9_code
def yL_step : MethodName := ⟨RL, "step", "(I)I"⟩
abbrev cL_law : ByteArray := code
def yL_law : MethodName := ⟨RL, "law", "([I)Z"⟩
abbrev vwCl : List vw_C := [(RX1, TX1, 1), (RX2, TX2, 2), (RX3, TX3, 5), (RX4, TX4, 2), (RX5, TX5, 2), (RX6, TX6, 2), (RX7, TX7, 6), (RX8, TX8, 6), (RX9, TX9, 6), (RX10, TX10, 3), (RX11, TX11, 4)]
def lw_all : List Cond := lw_tbl.filter goodWord
theorem lw_all_tbl : ∀ w ∈ lw_all, w ∈ lw_tbl := fun _ h => (List.mem_filter.mp h).1
theorem lw_all_good : GoodIn lw_tbl lw_all := fun w h => ⟨lw_all_tbl w h, good_of_word (List.mem_filter.mp h).2⟩
theorem gi_of {ws : List Cond} (h : ∀ w ∈ ws, w ∈ lw_all) : GoodIn lw_all ws := fun w hw => ⟨h w hw, good_of_word (List.mem_filter.mp (h w hw)).2⟩
theorem lw_inT {w : Cond} (h : w ∈ tables_1) (hg : goodWord w = true) : w ∈ lw_all := List.mem_filter.mpr ⟨List.mem_append_right _ h, hg⟩
theorem lw_in1 {w : Cond} (h : w ∈ tables_1_1) (hg : goodWord w = true) : w ∈ lw_all := lw_inT (List.mem_append_left _ h) hg
theorem lw_in2 {w : Cond} (h : w ∈ tables_1_2) (hg : goodWord w = true) : w ∈ lw_all := lw_inT (List.mem_append_right _ (List.mem_append_left _ h)) hg
theorem lw_in3 {w : Cond} (h : w ∈ tables_1_3) (hg : goodWord w = true) : w ∈ lw_all := lw_inT (List.mem_append_right _ (List.mem_append_right _ h)) hg
theorem lw_inP {i : Nat} {c : String} {y : MethodName} (h : (k2_sels lw_privs)[i]? = some (.selects c y y)) : Cond.selects c y y ∈ lw_all := List.mem_filter.mpr ⟨List.mem_append_left _ (List.mem_of_getElem? h), rfl⟩
theorem q1_0 : Cond.initialized RL ∈ lw_all := lw_in1 (List.mem_of_getElem? (i := 0) (by decide +kernel)) (by decide +kernel)
theorem q1_1 : Cond.initialized RX11 ∈ lw_all := lw_in1 (List.mem_of_getElem? (i := 1) (by decide +kernel)) (by decide +kernel)
theorem q1_2 : Cond.initialized RX10 ∈ lw_all := lw_in1 (List.mem_of_getElem? (i := 2) (by decide +kernel)) (by decide +kernel)
theorem q1_3 : Cond.initialized RX4 ∈ lw_all := lw_in1 (List.mem_of_getElem? (i := 3) (by decide +kernel)) (by decide +kernel)
theorem q1_4 : Cond.initialized RX2 ∈ lw_all := lw_in1 (List.mem_of_getElem? (i := 4) (by decide +kernel)) (by decide +kernel)
theorem q1_5 : Cond.initialized RX9 ∈ lw_all := lw_in1 (List.mem_of_getElem? (i := 5) (by decide +kernel)) (by decide +kernel)
theorem q1_6 : Cond.initialized RX8 ∈ lw_all := lw_in1 (List.mem_of_getElem? (i := 6) (by decide +kernel)) (by decide +kernel)
theorem q1_7 : Cond.initialized RX3 ∈ lw_all := lw_in1 (List.mem_of_getElem? (i := 7) (by decide +kernel)) (by decide +kernel)
theorem q1_8 : Cond.initialized RX6 ∈ lw_all := lw_in1 (List.mem_of_getElem? (i := 8) (by decide +kernel)) (by decide +kernel)
theorem q1_9 : Cond.initialized RX1 ∈ lw_all := lw_in1 (List.mem_of_getElem? (i := 9) (by decide +kernel)) (by decide +kernel)
theorem q1_10 : Cond.initialized RX5 ∈ lw_all := lw_in1 (List.mem_of_getElem? (i := 10) (by decide +kernel)) (by decide +kernel)
theorem q1_11 : Cond.initialized RX7 ∈ lw_all := lw_in1 (List.mem_of_getElem? (i := 11) (by decide +kernel)) (by decide +kernel)
theorem q1_12 : Cond.initialized RJ10 ∈ lw_all := lw_in1 (List.mem_of_getElem? (i := 12) (by decide +kernel)) (by decide +kernel)
theorem q1_13 : Cond.initialized RJ13 ∈ lw_all := lw_in1 (List.mem_of_getElem? (i := 13) (by decide +kernel)) (by decide +kernel)
theorem q1_14 : Cond.initialized RJ9 ∈ lw_all := lw_in1 (List.mem_of_getElem? (i := 14) (by decide +kernel)) (by decide +kernel)
theorem q1_15 : Cond.initialized RX0 ∈ lw_all := lw_in1 (List.mem_of_getElem? (i := 15) (by decide +kernel)) (by decide +kernel)
theorem q1_16 : Cond.classLink RL 10 RX11 ∈ lw_all := lw_in1 (List.mem_of_getElem? (i := 16) (by decide +kernel)) (by decide +kernel)
theorem q1_17 : Cond.instantiable RX11 4 ∈ lw_all := lw_in1 (List.mem_of_getElem? (i := 17) (by decide +kernel)) (by decide +kernel)
theorem q1_18 : Cond.methodLink RL 96 yX11_init ∈ lw_all := lw_in1 (List.mem_of_getElem? (i := 18) (by decide +kernel)) (by decide +kernel)
theorem q1_19 : Cond.instanceMethod yX11_init ∈ lw_all := lw_in1 (List.mem_of_getElem? (i := 19) (by decide +kernel)) (by decide +kernel)
theorem q1_20 : Cond.code yX11_init prog_1_method_1_code 1 none ∈ lw_all := lw_in1 (List.mem_of_getElem? (i := 20) (by decide +kernel)) (by decide +kernel)
theorem q1_21 : Cond.methodLink RX11 1 objectInit ∈ lw_all := lw_in1 (List.mem_of_getElem? (i := 21) (by decide +kernel)) (by decide +kernel)
theorem q1_22 : Cond.instanceMethod objectInit ∈ lw_all := lw_in1 (List.mem_of_getElem? (i := 22) (by decide +kernel)) (by decide +kernel)
theorem q1_23 : Cond.code objectInit object_method_1_code 1 none ∈ lw_all := lw_in1 (List.mem_of_getElem? (i := 23) (by decide +kernel)) (by decide +kernel)
theorem q1_24 : Cond.classLink RX11 7 RX10 ∈ lw_all := lw_in1 (List.mem_of_getElem? (i := 24) (by decide +kernel)) (by decide +kernel)
theorem q1_25 : Cond.instantiable RX10 3 ∈ lw_all := lw_in1 (List.mem_of_getElem? (i := 25) (by decide +kernel)) (by decide +kernel)
theorem q1_27 : Cond.instanceMethod yX10_init ∈ lw_all := lw_in1 (List.mem_of_getElem? (i := 27) (by decide +kernel)) (by decide +kernel)
theorem q1_28 : Cond.code yX10_init prog_12_method_1_code 1 none ∈ lw_all := lw_in1 (List.mem_of_getElem? (i := 28) (by decide +kernel)) (by decide +kernel)
theorem q1_29 : Cond.methodLink RX10 1 objectInit ∈ lw_all := lw_in1 (List.mem_of_getElem? (i := 29) (by decide +kernel)) (by decide +kernel)
theorem q1_30 : Cond.classLink RX10 7 RX4 ∈ lw_all := lw_in1 (List.mem_of_getElem? (i := 30) (by decide +kernel)) (by decide +kernel)
theorem q1_31 : Cond.instantiable RX4 2 ∈ lw_all := lw_in1 (List.mem_of_getElem? (i := 31) (by decide +kernel)) (by decide +kernel)
theorem q1_33 : Cond.instanceMethod yX4_init ∈ lw_all := lw_in1 (List.mem_of_getElem? (i := 33) (by decide +kernel)) (by decide +kernel)
theorem q1_34 : Cond.code yX4_init prog_6_method_1_code 1 none ∈ lw_all := lw_in1 (List.mem_of_getElem? (i := 34) (by decide +kernel)) (by decide +kernel)
theorem q1_35 : Cond.methodLink RX4 3 objectInit ∈ lw_all := lw_in1 (List.mem_of_getElem? (i := 35) (by decide +kernel)) (by decide +kernel)
theorem q1_36 : Cond.fieldLink RX4 9 "GalleryRays$Parts" "numbers" "[I" ∈ lw_all := lw_in1 (List.mem_of_getElem? (i := 36) (by decide +kernel)) (by decide +kernel)
theorem q1_39 : Cond.fieldLink RX4 41 "GalleryRays$Parts" "count" "I" ∈ lw_all := lw_in1 (List.mem_of_getElem? (i := 39) (by decide +kernel)) (by decide +kernel)
theorem q1_40 : Cond.laysFinal "GalleryRays$Parts" "GalleryRays$Parts" "numbers" "[I" ∈ lw_all := lw_in1 (List.mem_of_getElem? (i := 40) (by decide +kernel)) (by decide +kernel)
theorem q1_42 : Cond.lays "GalleryRays$Parts" "GalleryRays$Parts" "count" "I" ∈ lw_all := lw_in1 (List.mem_of_getElem? (i := 42) (by decide +kernel)) (by decide +kernel)
theorem q1_45 : Cond.arrayClass FieldType.int ∈ lw_all := lw_in1 (List.mem_of_getElem? (i := 45) (by decide +kernel)) (by decide +kernel)
theorem q1_46 : Cond.fieldLink RX10 10 "GalleryRays$Wall" "parts" "LGalleryRays$Parts;" ∈ lw_all := lw_in1 (List.mem_of_getElem? (i := 46) (by decide +kernel)) (by decide +kernel)
theorem q1_49 : Cond.fieldLink RX10 16 "GalleryRays$Wall" "loss" "I" ∈ lw_all := lw_in1 (List.mem_of_getElem? (i := 49) (by decide +kernel)) (by decide +kernel)
theorem q1_52 : Cond.fieldLink RX10 20 "GalleryRays$Wall" "threshold" "I" ∈ lw_all := lw_in1 (List.mem_of_getElem? (i := 52) (by decide +kernel)) (by decide +kernel)
theorem q1_55 : Cond.laysFinal "GalleryRays$Wall" "GalleryRays$Wall" "parts" "LGalleryRays$Parts;" ∈ lw_all := lw_in1 (List.mem_of_getElem? (i := 55) (by decide +kernel)) (by decide +kernel)
theorem q1_57 : Cond.lays "GalleryRays$Wall" "GalleryRays$Wall" "loss" "I" ∈ lw_all := lw_in1 (List.mem_of_getElem? (i := 57) (by decide +kernel)) (by decide +kernel)
theorem q1_59 : Cond.lays "GalleryRays$Wall" "GalleryRays$Wall" "threshold" "I" ∈ lw_all := lw_in1 (List.mem_of_getElem? (i := 59) (by decide +kernel)) (by decide +kernel)
theorem q1_62 : Cond.classLink RX11 16 RX2 ∈ lw_all := lw_in1 (List.mem_of_getElem? (i := 62) (by decide +kernel)) (by decide +kernel)
theorem q1_63 : Cond.instantiable RX2 2 ∈ lw_all := lw_in1 (List.mem_of_getElem? (i := 63) (by decide +kernel)) (by decide +kernel)
theorem q1_64 : Cond.methodLink RX11 18 yX2_init ∈ lw_all := lw_in1 (List.mem_of_getElem? (i := 64) (by decide +kernel)) (by decide +kernel)
theorem q1_65 : Cond.instanceMethod yX2_init ∈ lw_all := lw_in1 (List.mem_of_getElem? (i := 65) (by decide +kernel)) (by decide +kernel)
theorem q1_66 : Cond.code yX2_init prog_4_method_1_code 2 none ∈ lw_all := lw_in1 (List.mem_of_getElem? (i := 66) (by decide +kernel)) (by decide +kernel)
theorem q1_67 : Cond.methodLink RX2 3 objectInit ∈ lw_all := lw_in1 (List.mem_of_getElem? (i := 67) (by decide +kernel)) (by decide +kernel)
theorem q1_68 : Cond.classLink RX2 9 RX10 ∈ lw_all := lw_in1 (List.mem_of_getElem? (i := 68) (by decide +kernel)) (by decide +kernel)
theorem q1_69 : Cond.arrayOver (FieldType.object "GalleryRays$Wall") ∈ lw_tbl := List.mem_append_right _ (List.mem_of_getElem? (i := 69) (by decide +kernel))
theorem q1_71 : Cond.fieldLink RX2 11 "GalleryRays$History" "states" "[LGalleryRays$Wall;" ∈ lw_all := lw_in1 (List.mem_of_getElem? (i := 71) (by decide +kernel)) (by decide +kernel)
theorem q1_72 : Cond.fieldLink RX2 18 "GalleryRays$History" "count" "I" ∈ lw_all := lw_in1 (List.mem_of_getElem? (i := 72) (by decide +kernel)) (by decide +kernel)
theorem q1_74 : Cond.laysFinal "GalleryRays$History" "GalleryRays$History" "states" "[LGalleryRays$Wall;" ∈ lw_all := lw_in1 (List.mem_of_getElem? (i := 74) (by decide +kernel)) (by decide +kernel)
theorem q1_76 : Cond.lays "GalleryRays$History" "GalleryRays$History" "count" "I" ∈ lw_all := lw_in1 (List.mem_of_getElem? (i := 76) (by decide +kernel)) (by decide +kernel)
theorem q1_79 : Cond.classLink RX11 23 RX9 ∈ lw_all := lw_in1 (List.mem_of_getElem? (i := 79) (by decide +kernel)) (by decide +kernel)
theorem q1_80 : Cond.instantiable RX9 6 ∈ lw_all := lw_in1 (List.mem_of_getElem? (i := 80) (by decide +kernel)) (by decide +kernel)
theorem q1_82 : Cond.instanceMethod yX9_init ∈ lw_all := lw_in1 (List.mem_of_getElem? (i := 82) (by decide +kernel)) (by decide +kernel)
theorem q1_83 : Cond.code yX9_init prog_11_method_1_code 1 none ∈ lw_all := lw_in1 (List.mem_of_getElem? (i := 83) (by decide +kernel)) (by decide +kernel)
theorem q1_84 : Cond.methodLink RX9 3 objectInit ∈ lw_all := lw_in1 (List.mem_of_getElem? (i := 84) (by decide +kernel)) (by decide +kernel)
theorem q1_85 : Cond.classLink RX9 15 RX4 ∈ lw_all := lw_in1 (List.mem_of_getElem? (i := 85) (by decide +kernel)) (by decide +kernel)
theorem q1_87 : Cond.fieldLink RX9 9 "GalleryRays$Text" "signs" "[C" ∈ lw_all := lw_in1 (List.mem_of_getElem? (i := 87) (by decide +kernel)) (by decide +kernel)
theorem q1_88 : Cond.fieldLink RX9 18 "GalleryRays$Text" "found" "LGalleryRays$Parts;" ∈ lw_all := lw_in1 (List.mem_of_getElem? (i := 88) (by decide +kernel)) (by decide +kernel)
theorem q1_89 : Cond.fieldLink RX9 22 "GalleryRays$Text" "length" "I" ∈ lw_all := lw_in1 (List.mem_of_getElem? (i := 89) (by decide +kernel)) (by decide +kernel)
theorem q1_91 : Cond.laysFinal "GalleryRays$Text" "GalleryRays$Text" "signs" "[C" ∈ lw_all := lw_in1 (List.mem_of_getElem? (i := 91) (by decide +kernel)) (by decide +kernel)
theorem q1_93 : Cond.laysFinal "GalleryRays$Text" "GalleryRays$Text" "found" "LGalleryRays$Parts;" ∈ lw_all := lw_in1 (List.mem_of_getElem? (i := 93) (by decide +kernel)) (by decide +kernel)
theorem q1_95 : Cond.lays "GalleryRays$Text" "GalleryRays$Text" "length" "I" ∈ lw_all := lw_in1 (List.mem_of_getElem? (i := 95) (by decide +kernel)) (by decide +kernel)
theorem q1_97 : Cond.lays "GalleryRays$Text" "GalleryRays$Text" "at" "I" ∈ lw_all := lw_in1 (List.mem_of_getElem? (i := 97) (by decide +kernel)) (by decide +kernel)
theorem q1_99 : Cond.lays "GalleryRays$Text" "GalleryRays$Text" "broken" "Z" ∈ lw_all := lw_in1 (List.mem_of_getElem? (i := 99) (by decide +kernel)) (by decide +kernel)
theorem q1_101 : Cond.lays "GalleryRays$Text" "GalleryRays$Text" "outOfRange" "I" ∈ lw_all := lw_in1 (List.mem_of_getElem? (i := 101) (by decide +kernel)) (by decide +kernel)
theorem q1_104 : Cond.arrayClass FieldType.char ∈ lw_all := lw_in1 (List.mem_of_getElem? (i := 104) (by decide +kernel)) (by decide +kernel)
theorem q1_105 : Cond.classLink RX11 30 RX8 ∈ lw_all := lw_in1 (List.mem_of_getElem? (i := 105) (by decide +kernel)) (by decide +kernel)
theorem q1_106 : Cond.instantiable RX8 6 ∈ lw_all := lw_in1 (List.mem_of_getElem? (i := 106) (by decide +kernel)) (by decide +kernel)
theorem q1_107 : Cond.methodLink RX11 32 yX8_init ∈ lw_all := lw_in1 (List.mem_of_getElem? (i := 107) (by decide +kernel)) (by decide +kernel)
theorem q1_108 : Cond.instanceMethod yX8_init ∈ lw_all := lw_in1 (List.mem_of_getElem? (i := 108) (by decide +kernel)) (by decide +kernel)
theorem q1_109 : Cond.code yX8_init prog_10_method_1_code 2 none ∈ lw_all := lw_in1 (List.mem_of_getElem? (i := 109) (by decide +kernel)) (by decide +kernel)
theorem q1_110 : Cond.methodLink RX8 3 objectInit ∈ lw_all := lw_in1 (List.mem_of_getElem? (i := 110) (by decide +kernel)) (by decide +kernel)
theorem q1_111 : Cond.classLink RX8 9 RX7 ∈ lw_all := lw_in1 (List.mem_of_getElem? (i := 111) (by decide +kernel)) (by decide +kernel)
theorem q1_112 : Cond.arrayOver (FieldType.object "GalleryRays$Ray") ∈ lw_tbl := List.mem_append_right _ (List.mem_of_getElem? (i := 112) (by decide +kernel))
theorem q1_113 : Cond.classLink RX8 17 RX3 ∈ lw_all := lw_in1 (List.mem_of_getElem? (i := 113) (by decide +kernel)) (by decide +kernel)
theorem q1_114 : Cond.instantiable RX3 5 ∈ lw_all := lw_in1 (List.mem_of_getElem? (i := 114) (by decide +kernel)) (by decide +kernel)
theorem q1_116 : Cond.instanceMethod yX3_init ∈ lw_all := lw_in1 (List.mem_of_getElem? (i := 116) (by decide +kernel)) (by decide +kernel)
theorem q1_117 : Cond.code yX3_init prog_5_method_1_code 1 none ∈ lw_all := lw_in1 (List.mem_of_getElem? (i := 117) (by decide +kernel)) (by decide +kernel)
theorem q1_118 : Cond.methodLink RX3 3 objectInit ∈ lw_all := lw_in1 (List.mem_of_getElem? (i := 118) (by decide +kernel)) (by decide +kernel)
theorem q1_119 : Cond.fieldLink RX3 9 "GalleryRays$HitLog" "numbers" "[J" ∈ lw_all := lw_in1 (List.mem_of_getElem? (i := 119) (by decide +kernel)) (by decide +kernel)
theorem q1_120 : Cond.fieldLink RX3 15 "GalleryRays$HitLog" "echoes" "[I" ∈ lw_all := lw_in1 (List.mem_of_getElem? (i := 120) (by decide +kernel)) (by decide +kernel)
theorem q1_121 : Cond.fieldLink RX3 19 "GalleryRays$HitLog" "count" "I" ∈ lw_all := lw_in1 (List.mem_of_getElem? (i := 121) (by decide +kernel)) (by decide +kernel)
theorem q1_123 : Cond.fieldLink RX3 23 "GalleryRays$HitLog" "echoCount" "I" ∈ lw_all := lw_in1 (List.mem_of_getElem? (i := 123) (by decide +kernel)) (by decide +kernel)
theorem q1_124 : Cond.fieldLink RX3 26 "GalleryRays$HitLog" "energySum" "J" ∈ lw_all := lw_in1 (List.mem_of_getElem? (i := 124) (by decide +kernel)) (by decide +kernel)
theorem q1_125 : Cond.laysFinal "GalleryRays$HitLog" "GalleryRays$HitLog" "numbers" "[J" ∈ lw_all := lw_in1 (List.mem_of_getElem? (i := 125) (by decide +kernel)) (by decide +kernel)
theorem q1_127 : Cond.laysFinal "GalleryRays$HitLog" "GalleryRays$HitLog" "echoes" "[I" ∈ lw_all := lw_in1 (List.mem_of_getElem? (i := 127) (by decide +kernel)) (by decide +kernel)
theorem q1_129 : Cond.lays "GalleryRays$HitLog" "GalleryRays$HitLog" "count" "I" ∈ lw_all := lw_in1 (List.mem_of_getElem? (i := 129) (by decide +kernel)) (by decide +kernel)
theorem q1_131 : Cond.lays "GalleryRays$HitLog" "GalleryRays$HitLog" "echoCount" "I" ∈ lw_all := lw_in1 (List.mem_of_getElem? (i := 131) (by decide +kernel)) (by decide +kernel)
theorem q1_133 : Cond.lays "GalleryRays$HitLog" "GalleryRays$HitLog" "energySum" "J" ∈ lw_all := lw_in1 (List.mem_of_getElem? (i := 133) (by decide +kernel)) (by decide +kernel)
theorem q1_136 : Cond.arrayClass FieldType.long ∈ lw_all := lw_in1 (List.mem_of_getElem? (i := 136) (by decide +kernel)) (by decide +kernel)
theorem q1_137 : Cond.classLink RX8 24 RX6 ∈ lw_all := lw_in1 (List.mem_of_getElem? (i := 137) (by decide +kernel)) (by decide +kernel)
theorem q1_138 : Cond.instantiable RX6 2 ∈ lw_all := lw_in1 (List.mem_of_getElem? (i := 138) (by decide +kernel)) (by decide +kernel)
theorem q1_140 : Cond.instanceMethod yX6_init ∈ lw_all := lw_in1 (List.mem_of_getElem? (i := 140) (by decide +kernel)) (by decide +kernel)
theorem q1_141 : Cond.code yX6_init prog_8_method_1_code 1 none ∈ lw_all := lw_in1 (List.mem_of_getElem? (i := 141) (by decide +kernel)) (by decide +kernel)
theorem q1_142 : Cond.methodLink RX6 3 objectInit ∈ lw_all := lw_in1 (List.mem_of_getElem? (i := 142) (by decide +kernel)) (by decide +kernel)
theorem q1_143 : Cond.fieldLink RX6 9 "GalleryRays$PlaceMarks" "words" "[J" ∈ lw_all := lw_in1 (List.mem_of_getElem? (i := 143) (by decide +kernel)) (by decide +kernel)
theorem q1_144 : Cond.fieldLink RX6 15 "GalleryRays$PlaceMarks" "count" "I" ∈ lw_all := lw_in1 (List.mem_of_getElem? (i := 144) (by decide +kernel)) (by decide +kernel)
theorem q1_146 : Cond.laysFinal "GalleryRays$PlaceMarks" "GalleryRays$PlaceMarks" "words" "[J" ∈ lw_all := lw_in1 (List.mem_of_getElem? (i := 146) (by decide +kernel)) (by decide +kernel)
theorem q1_148 : Cond.lays "GalleryRays$PlaceMarks" "GalleryRays$PlaceMarks" "count" "I" ∈ lw_all := lw_in1 (List.mem_of_getElem? (i := 148) (by decide +kernel)) (by decide +kernel)
theorem q1_151 : Cond.classLink RX8 31 RX1 ∈ lw_all := lw_in1 (List.mem_of_getElem? (i := 151) (by decide +kernel)) (by decide +kernel)
theorem q1_152 : Cond.instantiable RX1 1 ∈ lw_all := lw_in1 (List.mem_of_getElem? (i := 152) (by decide +kernel)) (by decide +kernel)
theorem q1_153 : Cond.methodLink RX8 33 yX1_init ∈ lw_all := lw_in1 (List.mem_of_getElem? (i := 153) (by decide +kernel)) (by decide +kernel)
theorem q1_154 : Cond.instanceMethod yX1_init ∈ lw_all := lw_in1 (List.mem_of_getElem? (i := 154) (by decide +kernel)) (by decide +kernel)
theorem q1_155 : Cond.code yX1_init prog_3_method_1_code 1 none ∈ lw_all := lw_in1 (List.mem_of_getElem? (i := 155) (by decide +kernel)) (by decide +kernel)
theorem q1_156 : Cond.methodLink RX1 3 objectInit ∈ lw_all := lw_in1 (List.mem_of_getElem? (i := 156) (by decide +kernel)) (by decide +kernel)
theorem q1_157 : Cond.methodLink RX1 15 yX1_forget ∈ lw_all := lw_in1 (List.mem_of_getElem? (i := 157) (by decide +kernel)) (by decide +kernel)
theorem q1_158 : Cond.instanceMethod yX1_forget ∈ lw_all := lw_in1 (List.mem_of_getElem? (i := 158) (by decide +kernel)) (by decide +kernel)
theorem q1_159 : Cond.selects RX1 yX1_forget yX1_forget ∈ lw_all := lw_in1 (List.mem_of_getElem? (i := 159) (by decide +kernel)) (by decide +kernel)
theorem q1_160 : Cond.code yX1_forget prog_3_method_2_code 3 none ∈ lw_all := lw_in1 (List.mem_of_getElem? (i := 160) (by decide +kernel)) (by decide +kernel)
theorem q1_161 : Cond.constantLong RX1 18 (lZ (-100009)) ∈ lw_all := lw_in1 (List.mem_of_getElem? (i := 161) (by decide +kernel)) (by decide +kernel)
theorem q1_162 : Cond.fieldLink RX1 9 "GalleryRays$Ears" "numbers" "[J" ∈ lw_all := lw_in1 (List.mem_of_getElem? (i := 162) (by decide +kernel)) (by decide +kernel)
theorem q1_163 : Cond.laysFinal "GalleryRays$Ears" "GalleryRays$Ears" "numbers" "[J" ∈ lw_all := lw_in1 (List.mem_of_getElem? (i := 163) (by decide +kernel)) (by decide +kernel)
theorem q1_166 : Cond.classLink RX8 38 RX5 ∈ lw_all := lw_in1 (List.mem_of_getElem? (i := 166) (by decide +kernel)) (by decide +kernel)
theorem q1_167 : Cond.instantiable RX5 2 ∈ lw_all := lw_in1 (List.mem_of_getElem? (i := 167) (by decide +kernel)) (by decide +kernel)
theorem q1_169 : Cond.instanceMethod yX5_init ∈ lw_all := lw_in1 (List.mem_of_getElem? (i := 169) (by decide +kernel)) (by decide +kernel)
theorem q1_170 : Cond.code yX5_init prog_7_method_1_code 1 none ∈ lw_all := lw_in1 (List.mem_of_getElem? (i := 170) (by decide +kernel)) (by decide +kernel)
theorem q1_171 : Cond.methodLink RX5 3 objectInit ∈ lw_all := lw_in1 (List.mem_of_getElem? (i := 171) (by decide +kernel)) (by decide +kernel)
theorem q1_172 : Cond.fieldLink RX5 9 "GalleryRays$Path" "corners" "[I" ∈ lw_all := lw_in1 (List.mem_of_getElem? (i := 172) (by decide +kernel)) (by decide +kernel)
theorem q1_173 : Cond.fieldLink RX5 15 "GalleryRays$Path" "count" "I" ∈ lw_all := lw_in1 (List.mem_of_getElem? (i := 173) (by decide +kernel)) (by decide +kernel)
theorem q1_174 : Cond.laysFinal "GalleryRays$Path" "GalleryRays$Path" "corners" "[I" ∈ lw_all := lw_in1 (List.mem_of_getElem? (i := 174) (by decide +kernel)) (by decide +kernel)
theorem q1_176 : Cond.lays "GalleryRays$Path" "GalleryRays$Path" "count" "I" ∈ lw_all := lw_in1 (List.mem_of_getElem? (i := 176) (by decide +kernel)) (by decide +kernel)
theorem q1_179 : Cond.instantiable RX7 6 ∈ lw_all := lw_in1 (List.mem_of_getElem? (i := 179) (by decide +kernel)) (by decide +kernel)
theorem q1_180 : Cond.methodLink RX8 45 yX7_init ∈ lw_all := lw_in1 (List.mem_of_getElem? (i := 180) (by decide +kernel)) (by decide +kernel)
theorem q1_181 : Cond.instanceMethod yX7_init ∈ lw_all := lw_in1 (List.mem_of_getElem? (i := 181) (by decide +kernel)) (by decide +kernel)
theorem q1_182 : Cond.code yX7_init prog_9_method_1_code 2 none ∈ lw_all := lw_in1 (List.mem_of_getElem? (i := 182) (by decide +kernel)) (by decide +kernel)
theorem q1_183 : Cond.methodLink RX7 1 objectInit ∈ lw_all := lw_in1 (List.mem_of_getElem? (i := 183) (by decide +kernel)) (by decide +kernel)
theorem q1_184 : Cond.fieldLink RX7 7 "GalleryRays$Ray" "number" "I" ∈ lw_all := lw_in1 (List.mem_of_getElem? (i := 184) (by decide +kernel)) (by decide +kernel)
theorem q1_187 : Cond.fieldLink RX7 13 "GalleryRays$Ray" "place" "I" ∈ lw_all := lw_in1 (List.mem_of_getElem? (i := 187) (by decide +kernel)) (by decide +kernel)
theorem q1_190 : Cond.fieldLink RX7 16 "GalleryRays$Ray" "step" "I" ∈ lw_all := lw_in1 (List.mem_of_getElem? (i := 190) (by decide +kernel)) (by decide +kernel)
theorem q1_193 : Cond.fieldLink RX7 19 "GalleryRays$Ray" "energy" "I" ∈ lw_all := lw_in1 (List.mem_of_getElem? (i := 193) (by decide +kernel)) (by decide +kernel)
theorem q1_197 : Cond.fieldLink RX7 22 "GalleryRays$Ray" "arrival" "J" ∈ lw_all := lw_in1 (List.mem_of_getElem? (i := 197) (by decide +kernel)) (by decide +kernel)
theorem q1_201 : Cond.fieldLink RX7 26 "GalleryRays$Ray" "going" "Z" ∈ lw_all := lw_in1 (List.mem_of_getElem? (i := 201) (by decide +kernel)) (by decide +kernel)
theorem q1_203 : Cond.laysFinal "GalleryRays$Ray" "GalleryRays$Ray" "number" "I" ∈ lw_all := lw_in1 (List.mem_of_getElem? (i := 203) (by decide +kernel)) (by decide +kernel)
theorem q1_205 : Cond.lays "GalleryRays$Ray" "GalleryRays$Ray" "place" "I" ∈ lw_all := lw_in1 (List.mem_of_getElem? (i := 205) (by decide +kernel)) (by decide +kernel)
theorem q1_207 : Cond.lays "GalleryRays$Ray" "GalleryRays$Ray" "step" "I" ∈ lw_all := lw_in1 (List.mem_of_getElem? (i := 207) (by decide +kernel)) (by decide +kernel)
theorem q1_209 : Cond.lays "GalleryRays$Ray" "GalleryRays$Ray" "energy" "I" ∈ lw_all := lw_in1 (List.mem_of_getElem? (i := 209) (by decide +kernel)) (by decide +kernel)
theorem q1_211 : Cond.lays "GalleryRays$Ray" "GalleryRays$Ray" "arrival" "J" ∈ lw_all := lw_in1 (List.mem_of_getElem? (i := 211) (by decide +kernel)) (by decide +kernel)
theorem q1_213 : Cond.lays "GalleryRays$Ray" "GalleryRays$Ray" "going" "Z" ∈ lw_all := lw_in1 (List.mem_of_getElem? (i := 213) (by decide +kernel)) (by decide +kernel)
theorem q1_216 : Cond.fieldLink RX8 11 "GalleryRays$Shot" "rays" "[LGalleryRays$Ray;" ∈ lw_all := lw_in1 (List.mem_of_getElem? (i := 216) (by decide +kernel)) (by decide +kernel)
theorem q1_217 : Cond.fieldLink RX8 20 "GalleryRays$Shot" "log" "LGalleryRays$HitLog;" ∈ lw_all := lw_in1 (List.mem_of_getElem? (i := 217) (by decide +kernel)) (by decide +kernel)
theorem q1_219 : Cond.fieldLink RX8 27 "GalleryRays$Shot" "marks" "LGalleryRays$PlaceMarks;" ∈ lw_all := lw_in1 (List.mem_of_getElem? (i := 219) (by decide +kernel)) (by decide +kernel)
theorem q1_221 : Cond.fieldLink RX8 34 "GalleryRays$Shot" "ears" "LGalleryRays$Ears;" ∈ lw_all := lw_in1 (List.mem_of_getElem? (i := 221) (by decide +kernel)) (by decide +kernel)
theorem q1_223 : Cond.fieldLink RX8 41 "GalleryRays$Shot" "path" "LGalleryRays$Path;" ∈ lw_all := lw_in1 (List.mem_of_getElem? (i := 223) (by decide +kernel)) (by decide +kernel)
theorem q1_225 : Cond.fieldLink RX8 56 "GalleryRays$Shot" "rayCount" "I" ∈ lw_all := lw_in1 (List.mem_of_getElem? (i := 225) (by decide +kernel)) (by decide +kernel)
theorem q1_227 : Cond.laysFinal "GalleryRays$Shot" "GalleryRays$Shot" "rays" "[LGalleryRays$Ray;" ∈ lw_all := lw_in1 (List.mem_of_getElem? (i := 227) (by decide +kernel)) (by decide +kernel)
theorem q1_229 : Cond.laysFinal "GalleryRays$Shot" "GalleryRays$Shot" "log" "LGalleryRays$HitLog;" ∈ lw_all := lw_in1 (List.mem_of_getElem? (i := 229) (by decide +kernel)) (by decide +kernel)
theorem q1_231 : Cond.laysFinal "GalleryRays$Shot" "GalleryRays$Shot" "marks" "LGalleryRays$PlaceMarks;" ∈ lw_all := lw_in1 (List.mem_of_getElem? (i := 231) (by decide +kernel)) (by decide +kernel)
theorem q1_233 : Cond.laysFinal "GalleryRays$Shot" "GalleryRays$Shot" "ears" "LGalleryRays$Ears;" ∈ lw_all := lw_in1 (List.mem_of_getElem? (i := 233) (by decide +kernel)) (by decide +kernel)
theorem q1_235 : Cond.laysFinal "GalleryRays$Shot" "GalleryRays$Shot" "path" "LGalleryRays$Path;" ∈ lw_all := lw_in1 (List.mem_of_getElem? (i := 235) (by decide +kernel)) (by decide +kernel)
theorem q1_237 : Cond.lays "GalleryRays$Shot" "GalleryRays$Shot" "rayCount" "I" ∈ lw_all := lw_in1 (List.mem_of_getElem? (i := 237) (by decide +kernel)) (by decide +kernel)
theorem q2_0 : Cond.fieldLink RX11 10 "GalleryRays" "wall" "LGalleryRays$Wall;" ∈ lw_all := lw_in2 (List.mem_of_getElem? (i := 0) (by decide +kernel)) (by decide +kernel)
theorem q2_1 : Cond.fieldLink RX11 19 "GalleryRays" "history" "LGalleryRays$History;" ∈ lw_all := lw_in2 (List.mem_of_getElem? (i := 1) (by decide +kernel)) (by decide +kernel)
theorem q2_2 : Cond.fieldLink RX11 26 "GalleryRays" "text" "LGalleryRays$Text;" ∈ lw_all := lw_in2 (List.mem_of_getElem? (i := 2) (by decide +kernel)) (by decide +kernel)
theorem q2_3 : Cond.fieldLink RX11 33 "GalleryRays" "shot" "LGalleryRays$Shot;" ∈ lw_all := lw_in2 (List.mem_of_getElem? (i := 3) (by decide +kernel)) (by decide +kernel)
theorem q2_4 : Cond.laysFinal "GalleryRays" "GalleryRays" "wall" "LGalleryRays$Wall;" ∈ lw_all := lw_in2 (List.mem_of_getElem? (i := 4) (by decide +kernel)) (by decide +kernel)
theorem q2_6 : Cond.laysFinal "GalleryRays" "GalleryRays" "history" "LGalleryRays$History;" ∈ lw_all := lw_in2 (List.mem_of_getElem? (i := 6) (by decide +kernel)) (by decide +kernel)
theorem q2_8 : Cond.laysFinal "GalleryRays" "GalleryRays" "text" "LGalleryRays$Text;" ∈ lw_all := lw_in2 (List.mem_of_getElem? (i := 8) (by decide +kernel)) (by decide +kernel)
theorem q2_10 : Cond.laysFinal "GalleryRays" "GalleryRays" "shot" "LGalleryRays$Shot;" ∈ lw_all := lw_in2 (List.mem_of_getElem? (i := 10) (by decide +kernel)) (by decide +kernel)
theorem q2_13 : Cond.methodLink RL 15 yX11_add ∈ lw_all := lw_in2 (List.mem_of_getElem? (i := 13) (by decide +kernel)) (by decide +kernel)
theorem q2_14 : Cond.instanceMethod yX11_add ∈ lw_all := lw_in2 (List.mem_of_getElem? (i := 14) (by decide +kernel)) (by decide +kernel)
theorem q2_15 : Cond.selects RX11 yX11_add yX11_add ∈ lw_all := lw_in2 (List.mem_of_getElem? (i := 15) (by decide +kernel)) (by decide +kernel)
theorem q2_16 : Cond.code yX11_add prog_1_method_2_code 5 (Option.some FieldType.int) ∈ lw_all := lw_in2 (List.mem_of_getElem? (i := 16) (by decide +kernel)) (by decide +kernel)
theorem q2_17 : Cond.methodLink RX11 37 yX4_isAllowed ∈ lw_all := lw_in2 (List.mem_of_getElem? (i := 17) (by decide +kernel)) (by decide +kernel)
theorem q2_18 : Cond.static yX4_isAllowed ∈ lw_all := lw_in2 (List.mem_of_getElem? (i := 18) (by decide +kernel)) (by decide +kernel)
theorem q2_19 : Cond.code yX4_isAllowed prog_6_method_2_code 4 (Option.some FieldType.boolean) ∈ lw_all := lw_in2 (List.mem_of_getElem? (i := 19) (by decide +kernel)) (by decide +kernel)
theorem q2_20 : Cond.methodLink RX4 15 yX0_isPlace ∈ lw_all := lw_in2 (List.mem_of_getElem? (i := 20) (by decide +kernel)) (by decide +kernel)
theorem q2_21 : Cond.static yX0_isPlace ∈ lw_all := lw_in2 (List.mem_of_getElem? (i := 21) (by decide +kernel)) (by decide +kernel)
theorem q2_22 : Cond.code yX0_isPlace prog_2_method_2_code 1 (Option.some FieldType.boolean) ∈ lw_all := lw_in2 (List.mem_of_getElem? (i := 22) (by decide +kernel)) (by decide +kernel)
theorem q2_23 : Cond.methodLink RX4 21 yX4_leastBy ∈ lw_all := lw_in2 (List.mem_of_getElem? (i := 23) (by decide +kernel)) (by decide +kernel)
theorem q2_24 : Cond.static yX4_leastBy ∈ lw_all := lw_in2 (List.mem_of_getElem? (i := 24) (by decide +kernel)) (by decide +kernel)
theorem q2_25 : Cond.code yX4_leastBy prog_6_method_3_code 1 (Option.some FieldType.int) ∈ lw_all := lw_in2 (List.mem_of_getElem? (i := 25) (by decide +kernel)) (by decide +kernel)
theorem q2_26 : Cond.methodLink RX4 28 yX4_mayBeNegative ∈ lw_all := lw_in2 (List.mem_of_getElem? (i := 26) (by decide +kernel)) (by decide +kernel)
theorem q2_27 : Cond.static yX4_mayBeNegative ∈ lw_all := lw_in2 (List.mem_of_getElem? (i := 27) (by decide +kernel)) (by decide +kernel)
theorem q2_28 : Cond.code yX4_mayBeNegative prog_6_method_5_code 1 (Option.some FieldType.boolean) ∈ lw_all := lw_in2 (List.mem_of_getElem? (i := 28) (by decide +kernel)) (by decide +kernel)
theorem q2_29 : Cond.methodLink RX4 25 yX4_mostBy ∈ lw_all := lw_in2 (List.mem_of_getElem? (i := 29) (by decide +kernel)) (by decide +kernel)
theorem q2_30 : Cond.static yX4_mostBy ∈ lw_all := lw_in2 (List.mem_of_getElem? (i := 30) (by decide +kernel)) (by decide +kernel)
theorem q2_31 : Cond.code yX4_mostBy prog_6_method_4_code 1 (Option.some FieldType.int) ∈ lw_all := lw_in2 (List.mem_of_getElem? (i := 31) (by decide +kernel)) (by decide +kernel)
theorem q2_32 : Cond.constant RX11 43 (iZ (-100001)) ∈ lw_all := lw_in2 (List.mem_of_getElem? (i := 32) (by decide +kernel)) (by decide +kernel)
theorem q2_33 : Cond.constant RX11 52 (iZ (-100003)) ∈ lw_all := lw_in2 (List.mem_of_getElem? (i := 33) (by decide +kernel)) (by decide +kernel)
theorem q2_34 : Cond.methodLink RX11 53 yX2_keep ∈ lw_all := lw_in2 (List.mem_of_getElem? (i := 34) (by decide +kernel)) (by decide +kernel)
theorem q2_35 : Cond.instanceMethod yX2_keep ∈ lw_all := lw_in2 (List.mem_of_getElem? (i := 35) (by decide +kernel)) (by decide +kernel)
theorem q2_36 : Cond.selects RX2 yX2_keep yX2_keep ∈ lw_all := lw_in2 (List.mem_of_getElem? (i := 36) (by decide +kernel)) (by decide +kernel)
theorem q2_37 : Cond.code yX2_keep prog_4_method_2_code 2 none ∈ lw_all := lw_in2 (List.mem_of_getElem? (i := 37) (by decide +kernel)) (by decide +kernel)
theorem q2_38 : Cond.methodLink RX2 22 yX2_dropOldest ∈ lw_all := lw_in2 (List.mem_of_getElem? (i := 38) (by decide +kernel)) (by decide +kernel)
theorem q2_40 : Cond.instanceMethod yX2_dropOldest ∈ lw_all := lw_in2 (List.mem_of_getElem? (i := 40) (by decide +kernel)) (by decide +kernel)
theorem q2_41 : Cond.code yX2_dropOldest prog_4_method_3_code 3 none ∈ lw_all := lw_in2 (List.mem_of_getElem? (i := 41) (by decide +kernel)) (by decide +kernel)
theorem q2_42 : Cond.methodLink RX2 25 yX10_copyFrom ∈ lw_all := lw_in2 (List.mem_of_getElem? (i := 42) (by decide +kernel)) (by decide +kernel)
theorem q2_43 : Cond.instanceMethod yX10_copyFrom ∈ lw_all := lw_in2 (List.mem_of_getElem? (i := 43) (by decide +kernel)) (by decide +kernel)
theorem q2_44 : Cond.selects RX10 yX10_copyFrom yX10_copyFrom ∈ lw_all := lw_in2 (List.mem_of_getElem? (i := 44) (by decide +kernel)) (by decide +kernel)
theorem q2_45 : Cond.code yX10_copyFrom prog_12_method_2_code 2 none ∈ lw_all := lw_in2 (List.mem_of_getElem? (i := 45) (by decide +kernel)) (by decide +kernel)
theorem q2_46 : Cond.methodLink RX10 23 yX4_copyFrom ∈ lw_all := lw_in2 (List.mem_of_getElem? (i := 46) (by decide +kernel)) (by decide +kernel)
theorem q2_47 : Cond.instanceMethod yX4_copyFrom ∈ lw_all := lw_in2 (List.mem_of_getElem? (i := 47) (by decide +kernel)) (by decide +kernel)
theorem q2_48 : Cond.selects RX4 yX4_copyFrom yX4_copyFrom ∈ lw_all := lw_in2 (List.mem_of_getElem? (i := 48) (by decide +kernel)) (by decide +kernel)
theorem q2_49 : Cond.code yX4_copyFrom prog_6_method_14_code 2 none ∈ lw_all := lw_in2 (List.mem_of_getElem? (i := 49) (by decide +kernel)) (by decide +kernel)
theorem q2_50 : Cond.methodLink RX4 62 arraycopyName ∈ lw_all := lw_in2 (List.mem_of_getElem? (i := 50) (by decide +kernel)) (by decide +kernel)
theorem q2_51 : Cond.static arraycopyName ∈ lw_all := lw_in2 (List.mem_of_getElem? (i := 51) (by decide +kernel)) (by decide +kernel)
theorem q2_52 : Cond.native arraycopyName ∈ lw_all := lw_in2 (List.mem_of_getElem? (i := 52) (by decide +kernel)) (by decide +kernel)
theorem q2_53 : Cond.methodLink RX11 57 yX4_append ∈ lw_all := lw_in2 (List.mem_of_getElem? (i := 53) (by decide +kernel)) (by decide +kernel)
theorem q2_54 : Cond.instanceMethod yX4_append ∈ lw_all := lw_in2 (List.mem_of_getElem? (i := 54) (by decide +kernel)) (by decide +kernel)
theorem q2_55 : Cond.selects RX4 yX4_append yX4_append ∈ lw_all := lw_in2 (List.mem_of_getElem? (i := 55) (by decide +kernel)) (by decide +kernel)
theorem q2_56 : Cond.code yX4_append prog_6_method_11_code 6 none ∈ lw_all := lw_in2 (List.mem_of_getElem? (i := 56) (by decide +kernel)) (by decide +kernel)
theorem q2_57 : Cond.methodLink RL 22 yX11_parts ∈ lw_all := lw_in2 (List.mem_of_getElem? (i := 57) (by decide +kernel)) (by decide +kernel)
theorem q2_58 : Cond.instanceMethod yX11_parts ∈ lw_all := lw_in2 (List.mem_of_getElem? (i := 58) (by decide +kernel)) (by decide +kernel)
theorem q2_59 : Cond.selects RX11 yX11_parts yX11_parts ∈ lw_all := lw_in2 (List.mem_of_getElem? (i := 59) (by decide +kernel)) (by decide +kernel)
theorem q2_60 : Cond.code yX11_parts prog_1_method_5_code 1 (Option.some FieldType.int) ∈ lw_all := lw_in2 (List.mem_of_getElem? (i := 60) (by decide +kernel)) (by decide +kernel)
theorem q2_61 : Cond.methodLink RL 34 yX11_setLoss ∈ lw_all := lw_in2 (List.mem_of_getElem? (i := 61) (by decide +kernel)) (by decide +kernel)
theorem q2_62 : Cond.instanceMethod yX11_setLoss ∈ lw_all := lw_in2 (List.mem_of_getElem? (i := 62) (by decide +kernel)) (by decide +kernel)
theorem q2_63 : Cond.selects RX11 yX11_setLoss yX11_setLoss ∈ lw_all := lw_in2 (List.mem_of_getElem? (i := 63) (by decide +kernel)) (by decide +kernel)
theorem q2_64 : Cond.code yX11_setLoss prog_1_method_6_code 3 (Option.some FieldType.int) ∈ lw_all := lw_in2 (List.mem_of_getElem? (i := 64) (by decide +kernel)) (by decide +kernel)
theorem q2_65 : Cond.methodLink RL 37 yX11_setThreshold ∈ lw_all := lw_in2 (List.mem_of_getElem? (i := 65) (by decide +kernel)) (by decide +kernel)
theorem q2_66 : Cond.instanceMethod yX11_setThreshold ∈ lw_all := lw_in2 (List.mem_of_getElem? (i := 66) (by decide +kernel)) (by decide +kernel)
theorem q2_67 : Cond.selects RX11 yX11_setThreshold yX11_setThreshold ∈ lw_all := lw_in2 (List.mem_of_getElem? (i := 67) (by decide +kernel)) (by decide +kernel)
theorem q2_68 : Cond.code yX11_setThreshold prog_1_method_7_code 3 (Option.some FieldType.int) ∈ lw_all := lw_in2 (List.mem_of_getElem? (i := 68) (by decide +kernel)) (by decide +kernel)
theorem q2_69 : Cond.constant RX11 76 (iZ (1000000)) ∈ lw_all := lw_in2 (List.mem_of_getElem? (i := 69) (by decide +kernel)) (by decide +kernel)
theorem q2_70 : Cond.methodLink RL 40 yX11_shoot ∈ lw_all := lw_in2 (List.mem_of_getElem? (i := 70) (by decide +kernel)) (by decide +kernel)
theorem q2_71 : Cond.instanceMethod yX11_shoot ∈ lw_all := lw_in2 (List.mem_of_getElem? (i := 71) (by decide +kernel)) (by decide +kernel)
theorem q2_72 : Cond.selects RX11 yX11_shoot yX11_shoot ∈ lw_all := lw_in2 (List.mem_of_getElem? (i := 72) (by decide +kernel)) (by decide +kernel)
theorem q2_73 : Cond.code yX11_shoot prog_1_method_11_code 4 (Option.some FieldType.int) ∈ lw_all := lw_in2 (List.mem_of_getElem? (i := 73) (by decide +kernel)) (by decide +kernel)
theorem q2_74 : Cond.methodLink RX11 97 yX0_isPlace ∈ lw_all := lw_in2 (List.mem_of_getElem? (i := 74) (by decide +kernel)) (by decide +kernel)
theorem q2_75 : Cond.methodLink RX11 102 yX0_isStep ∈ lw_all := lw_in2 (List.mem_of_getElem? (i := 75) (by decide +kernel)) (by decide +kernel)
theorem q2_76 : Cond.static yX0_isStep ∈ lw_all := lw_in2 (List.mem_of_getElem? (i := 76) (by decide +kernel)) (by decide +kernel)
theorem q2_77 : Cond.code yX0_isStep prog_2_method_3_code 1 (Option.some FieldType.boolean) ∈ lw_all := lw_in2 (List.mem_of_getElem? (i := 77) (by decide +kernel)) (by decide +kernel)
theorem q2_78 : Cond.methodLink RX11 105 yX8_run ∈ lw_all := lw_in2 (List.mem_of_getElem? (i := 78) (by decide +kernel)) (by decide +kernel)
theorem q2_79 : Cond.instanceMethod yX8_run ∈ lw_all := lw_in2 (List.mem_of_getElem? (i := 79) (by decide +kernel)) (by decide +kernel)
theorem q2_80 : Cond.selects RX8 yX8_run yX8_run ∈ lw_all := lw_in2 (List.mem_of_getElem? (i := 80) (by decide +kernel)) (by decide +kernel)
theorem q2_81 : Cond.code yX8_run prog_10_method_2_code 7 none ∈ lw_all := lw_in2 (List.mem_of_getElem? (i := 81) (by decide +kernel)) (by decide +kernel)
theorem q2_82 : Cond.methodLink RX8 48 yX3_forget ∈ lw_all := lw_in2 (List.mem_of_getElem? (i := 82) (by decide +kernel)) (by decide +kernel)
theorem q2_83 : Cond.instanceMethod yX3_forget ∈ lw_all := lw_in2 (List.mem_of_getElem? (i := 83) (by decide +kernel)) (by decide +kernel)
theorem q2_84 : Cond.selects RX3 yX3_forget yX3_forget ∈ lw_all := lw_in2 (List.mem_of_getElem? (i := 84) (by decide +kernel)) (by decide +kernel)
theorem q2_85 : Cond.code yX3_forget prog_5_method_2_code 1 none ∈ lw_all := lw_in2 (List.mem_of_getElem? (i := 85) (by decide +kernel)) (by decide +kernel)
theorem q2_86 : Cond.methodLink RX8 51 yX6_forget ∈ lw_all := lw_in2 (List.mem_of_getElem? (i := 86) (by decide +kernel)) (by decide +kernel)
theorem q2_87 : Cond.instanceMethod yX6_forget ∈ lw_all := lw_in2 (List.mem_of_getElem? (i := 87) (by decide +kernel)) (by decide +kernel)
theorem q2_88 : Cond.selects RX6 yX6_forget yX6_forget ∈ lw_all := lw_in2 (List.mem_of_getElem? (i := 88) (by decide +kernel)) (by decide +kernel)
theorem q2_89 : Cond.code yX6_forget prog_8_method_2_code 2 none ∈ lw_all := lw_in2 (List.mem_of_getElem? (i := 89) (by decide +kernel)) (by decide +kernel)
theorem q2_90 : Cond.methodLink RX8 52 yX1_forget ∈ lw_all := lw_in2 (List.mem_of_getElem? (i := 90) (by decide +kernel)) (by decide +kernel)
theorem q2_91 : Cond.methodLink RX8 53 yX5_startAt ∈ lw_all := lw_in2 (List.mem_of_getElem? (i := 91) (by decide +kernel)) (by decide +kernel)
theorem q2_92 : Cond.instanceMethod yX5_startAt ∈ lw_all := lw_in2 (List.mem_of_getElem? (i := 92) (by decide +kernel)) (by decide +kernel)
theorem q2_93 : Cond.selects RX5 yX5_startAt yX5_startAt ∈ lw_all := lw_in2 (List.mem_of_getElem? (i := 93) (by decide +kernel)) (by decide +kernel)
theorem q2_94 : Cond.code yX5_startAt prog_7_method_2_code 2 none ∈ lw_all := lw_in2 (List.mem_of_getElem? (i := 94) (by decide +kernel)) (by decide +kernel)
theorem q2_95 : Cond.methodLink RX5 19 yX5_goTo ∈ lw_all := lw_in2 (List.mem_of_getElem? (i := 95) (by decide +kernel)) (by decide +kernel)
theorem q2_96 : Cond.instanceMethod yX5_goTo ∈ lw_all := lw_in2 (List.mem_of_getElem? (i := 96) (by decide +kernel)) (by decide +kernel)
theorem q2_97 : Cond.selects RX5 yX5_goTo yX5_goTo ∈ lw_all := lw_in2 (List.mem_of_getElem? (i := 97) (by decide +kernel)) (by decide +kernel)
theorem q2_98 : Cond.code yX5_goTo prog_7_method_3_code 2 none ∈ lw_all := lw_in2 (List.mem_of_getElem? (i := 98) (by decide +kernel)) (by decide +kernel)
theorem q2_99 : Cond.methodLink RX8 60 yX0_chordTime ∈ lw_all := lw_in2 (List.mem_of_getElem? (i := 99) (by decide +kernel)) (by decide +kernel)
theorem q2_100 : Cond.static yX0_chordTime ∈ lw_all := lw_in2 (List.mem_of_getElem? (i := 100) (by decide +kernel)) (by decide +kernel)
theorem q2_101 : Cond.code yX0_chordTime prog_2_method_6_code 1 (Option.some FieldType.int) ∈ lw_all := lw_in2 (List.mem_of_getElem? (i := 101) (by decide +kernel)) (by decide +kernel)
theorem q2_102 : Cond.constant RX0 21 (iZ (2000000)) ∈ lw_all := lw_in2 (List.mem_of_getElem? (i := 102) (by decide +kernel)) (by decide +kernel)
theorem q2_103 : Cond.methodLink RX0 22 yJ9_abs_0f7a4 ∈ lw_all := lw_in2 (List.mem_of_getElem? (i := 103) (by decide +kernel)) (by decide +kernel)
theorem q2_104 : Cond.static yJ9_abs_0f7a4 ∈ lw_all := lw_in2 (List.mem_of_getElem? (i := 104) (by decide +kernel)) (by decide +kernel)
theorem q2_105 : Cond.code yJ9_abs_0f7a4 prog_16_method_59_code 1 (Option.some FieldType.int) ∈ lw_all := lw_in2 (List.mem_of_getElem? (i := 105) (by decide +kernel)) (by decide +kernel)
theorem q2_106 : Cond.methodLink RX0 26 yX0_sine ∈ lw_all := lw_in2 (List.mem_of_getElem? (i := 106) (by decide +kernel)) (by decide +kernel)
theorem q2_107 : Cond.static yX0_sine ∈ lw_all := lw_in2 (List.mem_of_getElem? (i := 107) (by decide +kernel)) (by decide +kernel)
theorem q2_108 : Cond.code yX0_sine prog_2_method_5_code 4 (Option.some FieldType.int) ∈ lw_all := lw_in2 (List.mem_of_getElem? (i := 108) (by decide +kernel)) (by decide +kernel)
theorem q2_109 : Cond.constantLong RX0 15 (lZ (16)) ∈ lw_all := lw_in2 (List.mem_of_getElem? (i := 109) (by decide +kernel)) (by decide +kernel)
theorem q2_110 : Cond.constantLong RX0 17 (lZ (3841992000)) ∈ lw_all := lw_in2 (List.mem_of_getElem? (i := 110) (by decide +kernel)) (by decide +kernel)
theorem q2_111 : Cond.constantLong RX0 19 (lZ (4)) ∈ lw_all := lw_in2 (List.mem_of_getElem? (i := 111) (by decide +kernel)) (by decide +kernel)
theorem q2_112 : Cond.methodLink RX8 66 yX8_begin ∈ lw_all := lw_in2 (List.mem_of_getElem? (i := 112) (by decide +kernel)) (by decide +kernel)
theorem q2_114 : Cond.instanceMethod yX8_begin ∈ lw_all := lw_in2 (List.mem_of_getElem? (i := 114) (by decide +kernel)) (by decide +kernel)
theorem q2_115 : Cond.code yX8_begin prog_10_method_3_code 6 none ∈ lw_all := lw_in2 (List.mem_of_getElem? (i := 115) (by decide +kernel)) (by decide +kernel)
theorem q2_116 : Cond.methodLink RX8 78 yX7_start ∈ lw_all := lw_in2 (List.mem_of_getElem? (i := 116) (by decide +kernel)) (by decide +kernel)
theorem q2_117 : Cond.instanceMethod yX7_start ∈ lw_all := lw_in2 (List.mem_of_getElem? (i := 117) (by decide +kernel)) (by decide +kernel)
theorem q2_118 : Cond.selects RX7 yX7_start yX7_start ∈ lw_all := lw_in2 (List.mem_of_getElem? (i := 118) (by decide +kernel)) (by decide +kernel)
theorem q2_119 : Cond.code yX7_start prog_9_method_2_code 6 none ∈ lw_all := lw_in2 (List.mem_of_getElem? (i := 119) (by decide +kernel)) (by decide +kernel)
theorem q2_120 : Cond.methodLink RX8 70 yX8_earliest ∈ lw_all := lw_in2 (List.mem_of_getElem? (i := 120) (by decide +kernel)) (by decide +kernel)
theorem q2_122 : Cond.instanceMethod yX8_earliest ∈ lw_all := lw_in2 (List.mem_of_getElem? (i := 122) (by decide +kernel)) (by decide +kernel)
theorem q2_123 : Cond.code yX8_earliest prog_10_method_4_code 4 (Option.some (FieldType.object "GalleryRays$Ray")) ∈ lw_all := lw_in2 (List.mem_of_getElem? (i := 123) (by decide +kernel)) (by decide +kernel)
theorem q2_124 : Cond.methodLink RX8 74 yX8_meet ∈ lw_all := lw_in2 (List.mem_of_getElem? (i := 124) (by decide +kernel)) (by decide +kernel)
theorem q2_126 : Cond.instanceMethod yX8_meet ∈ lw_all := lw_in2 (List.mem_of_getElem? (i := 126) (by decide +kernel)) (by decide +kernel)
theorem q2_127 : Cond.code yX8_meet prog_10_method_5_code 4 none ∈ lw_all := lw_in2 (List.mem_of_getElem? (i := 127) (by decide +kernel)) (by decide +kernel)
theorem q2_128 : Cond.methodLink RX8 95 yX0_placeAfter ∈ lw_all := lw_in2 (List.mem_of_getElem? (i := 128) (by decide +kernel)) (by decide +kernel)
theorem q2_129 : Cond.static yX0_placeAfter ∈ lw_all := lw_in2 (List.mem_of_getElem? (i := 129) (by decide +kernel)) (by decide +kernel)
theorem q2_130 : Cond.code yX0_placeAfter prog_2_method_4_code 2 (Option.some FieldType.int) ∈ lw_all := lw_in2 (List.mem_of_getElem? (i := 130) (by decide +kernel)) (by decide +kernel)
theorem q2_131 : Cond.methodLink RX0 9 yJ9_floorMod_7cf53 ∈ lw_all := lw_in2 (List.mem_of_getElem? (i := 131) (by decide +kernel)) (by decide +kernel)
theorem q2_132 : Cond.static yJ9_floorMod_7cf53 ∈ lw_all := lw_in2 (List.mem_of_getElem? (i := 132) (by decide +kernel)) (by decide +kernel)
theorem q2_133 : Cond.code yJ9_floorMod_7cf53 prog_16_method_50_code 3 (Option.some FieldType.int) ∈ lw_all := lw_in2 (List.mem_of_getElem? (i := 133) (by decide +kernel)) (by decide +kernel)
theorem q2_134 : Cond.methodLink RX8 99 yX3_note ∈ lw_all := lw_in2 (List.mem_of_getElem? (i := 134) (by decide +kernel)) (by decide +kernel)
theorem q2_135 : Cond.instanceMethod yX3_note ∈ lw_all := lw_in2 (List.mem_of_getElem? (i := 135) (by decide +kernel)) (by decide +kernel)
theorem q2_136 : Cond.selects RX3 yX3_note yX3_note ∈ lw_all := lw_in2 (List.mem_of_getElem? (i := 136) (by decide +kernel)) (by decide +kernel)
theorem q2_137 : Cond.code yX3_note prog_5_method_3_code 3 none ∈ lw_all := lw_in2 (List.mem_of_getElem? (i := 137) (by decide +kernel)) (by decide +kernel)
theorem q2_138 : Cond.methodLink RX8 103 yX6_mark ∈ lw_all := lw_in2 (List.mem_of_getElem? (i := 138) (by decide +kernel)) (by decide +kernel)
theorem q2_139 : Cond.instanceMethod yX6_mark ∈ lw_all := lw_in2 (List.mem_of_getElem? (i := 139) (by decide +kernel)) (by decide +kernel)
theorem q2_140 : Cond.selects RX6 yX6_mark yX6_mark ∈ lw_all := lw_in2 (List.mem_of_getElem? (i := 140) (by decide +kernel)) (by decide +kernel)
theorem q2_141 : Cond.code yX6_mark prog_8_method_3_code 4 none ∈ lw_all := lw_in2 (List.mem_of_getElem? (i := 141) (by decide +kernel)) (by decide +kernel)
theorem q2_142 : Cond.methodLink RX6 19 yX0_isPlace ∈ lw_all := lw_in2 (List.mem_of_getElem? (i := 142) (by decide +kernel)) (by decide +kernel)
theorem q2_143 : Cond.methodLink RX8 109 yX5_goTo ∈ lw_all := lw_in2 (List.mem_of_getElem? (i := 143) (by decide +kernel)) (by decide +kernel)
theorem q2_144 : Cond.methodLink RX8 117 yX7_lose ∈ lw_all := lw_in2 (List.mem_of_getElem? (i := 144) (by decide +kernel)) (by decide +kernel)
theorem q2_145 : Cond.instanceMethod yX7_lose ∈ lw_all := lw_in2 (List.mem_of_getElem? (i := 145) (by decide +kernel)) (by decide +kernel)
theorem q2_146 : Cond.selects RX7 yX7_lose yX7_lose ∈ lw_all := lw_in2 (List.mem_of_getElem? (i := 146) (by decide +kernel)) (by decide +kernel)
theorem q2_147 : Cond.code yX7_lose prog_9_method_3_code 2 none ∈ lw_all := lw_in2 (List.mem_of_getElem? (i := 147) (by decide +kernel)) (by decide +kernel)
theorem q2_148 : Cond.methodLink RX8 129 yX4_covers ∈ lw_all := lw_in2 (List.mem_of_getElem? (i := 148) (by decide +kernel)) (by decide +kernel)
theorem q2_149 : Cond.instanceMethod yX4_covers ∈ lw_all := lw_in2 (List.mem_of_getElem? (i := 149) (by decide +kernel)) (by decide +kernel)
theorem q2_150 : Cond.selects RX4 yX4_covers yX4_covers ∈ lw_all := lw_in2 (List.mem_of_getElem? (i := 150) (by decide +kernel)) (by decide +kernel)
theorem q2_151 : Cond.code yX4_covers prog_6_method_10_code 3 (Option.some FieldType.boolean) ∈ lw_all := lw_in2 (List.mem_of_getElem? (i := 151) (by decide +kernel)) (by decide +kernel)
theorem q2_152 : Cond.methodLink RX4 49 yX4_numberOf ∈ lw_all := lw_in2 (List.mem_of_getElem? (i := 152) (by decide +kernel)) (by decide +kernel)
theorem q2_153 : Cond.instanceMethod yX4_numberOf ∈ lw_all := lw_in2 (List.mem_of_getElem? (i := 153) (by decide +kernel)) (by decide +kernel)
theorem q2_154 : Cond.selects RX4 yX4_numberOf yX4_numberOf ∈ lw_all := lw_in2 (List.mem_of_getElem? (i := 154) (by decide +kernel)) (by decide +kernel)
theorem q2_155 : Cond.code yX4_numberOf prog_6_method_9_code 3 (Option.some FieldType.int) ∈ lw_all := lw_in2 (List.mem_of_getElem? (i := 155) (by decide +kernel)) (by decide +kernel)
theorem q2_156 : Cond.methodLink RX4 45 yX4_has ∈ lw_all := lw_in2 (List.mem_of_getElem? (i := 156) (by decide +kernel)) (by decide +kernel)
theorem q2_157 : Cond.instanceMethod yX4_has ∈ lw_all := lw_in2 (List.mem_of_getElem? (i := 157) (by decide +kernel)) (by decide +kernel)
theorem q2_158 : Cond.selects RX4 yX4_has yX4_has ∈ lw_all := lw_in2 (List.mem_of_getElem? (i := 158) (by decide +kernel)) (by decide +kernel)
theorem q2_159 : Cond.code yX4_has prog_6_method_8_code 2 (Option.some FieldType.boolean) ∈ lw_all := lw_in2 (List.mem_of_getElem? (i := 159) (by decide +kernel)) (by decide +kernel)
theorem q2_160 : Cond.constant RX4 48 (iZ (-100001)) ∈ lw_all := lw_in2 (List.mem_of_getElem? (i := 160) (by decide +kernel)) (by decide +kernel)
theorem q2_161 : Cond.methodLink RX4 53 yJ9_floorMod_7cf53 ∈ lw_all := lw_in2 (List.mem_of_getElem? (i := 161) (by decide +kernel)) (by decide +kernel)
theorem q2_162 : Cond.methodLink RX8 133 yX8_act ∈ lw_all := lw_in2 (List.mem_of_getElem? (i := 162) (by decide +kernel)) (by decide +kernel)
theorem q2_164 : Cond.instanceMethod yX8_act ∈ lw_all := lw_in2 (List.mem_of_getElem? (i := 164) (by decide +kernel)) (by decide +kernel)
theorem q2_165 : Cond.code yX8_act prog_10_method_6_code 5 none ∈ lw_all := lw_in2 (List.mem_of_getElem? (i := 165) (by decide +kernel)) (by decide +kernel)
theorem q2_166 : Cond.methodLink RX8 143 yX4_numberOf ∈ lw_all := lw_in2 (List.mem_of_getElem? (i := 166) (by decide +kernel)) (by decide +kernel)
theorem q2_167 : Cond.methodLink RX8 146 yX7_tilt ∈ lw_all := lw_in2 (List.mem_of_getElem? (i := 167) (by decide +kernel)) (by decide +kernel)
theorem q2_168 : Cond.instanceMethod yX7_tilt ∈ lw_all := lw_in2 (List.mem_of_getElem? (i := 168) (by decide +kernel)) (by decide +kernel)
theorem q2_169 : Cond.selects RX7 yX7_tilt yX7_tilt ∈ lw_all := lw_in2 (List.mem_of_getElem? (i := 169) (by decide +kernel)) (by decide +kernel)
theorem q2_170 : Cond.code yX7_tilt prog_9_method_4_code 3 none ∈ lw_all := lw_in2 (List.mem_of_getElem? (i := 170) (by decide +kernel)) (by decide +kernel)
theorem q2_171 : Cond.methodLink RX7 30 yX0_tilted ∈ lw_all := lw_in2 (List.mem_of_getElem? (i := 171) (by decide +kernel)) (by decide +kernel)
theorem q2_172 : Cond.static yX0_tilted ∈ lw_all := lw_in2 (List.mem_of_getElem? (i := 172) (by decide +kernel)) (by decide +kernel)
theorem q2_173 : Cond.code yX0_tilted prog_2_method_9_code 3 (Option.some FieldType.int) ∈ lw_all := lw_in2 (List.mem_of_getElem? (i := 173) (by decide +kernel)) (by decide +kernel)
theorem q2_174 : Cond.methodLink RX8 149 yX8_split ∈ lw_all := lw_in2 (List.mem_of_getElem? (i := 174) (by decide +kernel)) (by decide +kernel)
theorem q2_176 : Cond.instanceMethod yX8_split ∈ lw_all := lw_in2 (List.mem_of_getElem? (i := 176) (by decide +kernel)) (by decide +kernel)
theorem q2_177 : Cond.code yX8_split prog_10_method_7_code 6 none ∈ lw_all := lw_in2 (List.mem_of_getElem? (i := 177) (by decide +kernel)) (by decide +kernel)
theorem q2_178 : Cond.methodLink RX8 160 yX0_tilted ∈ lw_all := lw_in2 (List.mem_of_getElem? (i := 178) (by decide +kernel)) (by decide +kernel)
theorem q2_179 : Cond.methodLink RX8 153 yX1_hear ∈ lw_all := lw_in2 (List.mem_of_getElem? (i := 179) (by decide +kernel)) (by decide +kernel)
theorem q2_180 : Cond.instanceMethod yX1_hear ∈ lw_all := lw_in2 (List.mem_of_getElem? (i := 180) (by decide +kernel)) (by decide +kernel)
theorem q2_181 : Cond.selects RX1 yX1_hear yX1_hear ∈ lw_all := lw_in2 (List.mem_of_getElem? (i := 181) (by decide +kernel)) (by decide +kernel)
theorem q2_182 : Cond.code yX1_hear prog_3_method_3_code 4 none ∈ lw_all := lw_in2 (List.mem_of_getElem? (i := 182) (by decide +kernel)) (by decide +kernel)
theorem q2_183 : Cond.methodLink RX1 30 yJ9_max_f86c9 ∈ lw_all := lw_in2 (List.mem_of_getElem? (i := 183) (by decide +kernel)) (by decide +kernel)
theorem q2_184 : Cond.static yJ9_max_f86c9 ∈ lw_all := lw_in2 (List.mem_of_getElem? (i := 184) (by decide +kernel)) (by decide +kernel)
theorem q2_185 : Cond.code yJ9_max_f86c9 prog_16_method_66_code 4 (Option.some FieldType.long) ∈ lw_all := lw_in2 (List.mem_of_getElem? (i := 185) (by decide +kernel)) (by decide +kernel)
theorem q2_186 : Cond.methodLink RX8 157 yX3_noteEcho ∈ lw_all := lw_in2 (List.mem_of_getElem? (i := 186) (by decide +kernel)) (by decide +kernel)
theorem q2_187 : Cond.instanceMethod yX3_noteEcho ∈ lw_all := lw_in2 (List.mem_of_getElem? (i := 187) (by decide +kernel)) (by decide +kernel)
theorem q2_188 : Cond.selects RX3 yX3_noteEcho yX3_noteEcho ∈ lw_all := lw_in2 (List.mem_of_getElem? (i := 188) (by decide +kernel)) (by decide +kernel)
theorem q2_189 : Cond.code yX3_noteEcho prog_5_method_4_code 2 none ∈ lw_all := lw_in2 (List.mem_of_getElem? (i := 189) (by decide +kernel)) (by decide +kernel)
theorem q2_190 : Cond.methodLink RL 44 yX11_hits ∈ lw_all := lw_in2 (List.mem_of_getElem? (i := 190) (by decide +kernel)) (by decide +kernel)
theorem q2_191 : Cond.instanceMethod yX11_hits ∈ lw_all := lw_in2 (List.mem_of_getElem? (i := 191) (by decide +kernel)) (by decide +kernel)
theorem q2_192 : Cond.selects RX11 yX11_hits yX11_hits ∈ lw_all := lw_in2 (List.mem_of_getElem? (i := 192) (by decide +kernel)) (by decide +kernel)
theorem q2_193 : Cond.code yX11_hits prog_1_method_12_code 1 (Option.some FieldType.int) ∈ lw_all := lw_in2 (List.mem_of_getElem? (i := 193) (by decide +kernel)) (by decide +kernel)
theorem q2_194 : Cond.methodLink RL 87 yX11_rays ∈ lw_all := lw_in2 (List.mem_of_getElem? (i := 194) (by decide +kernel)) (by decide +kernel)
theorem q2_195 : Cond.instanceMethod yX11_rays ∈ lw_all := lw_in2 (List.mem_of_getElem? (i := 195) (by decide +kernel)) (by decide +kernel)
theorem q2_196 : Cond.selects RX11 yX11_rays yX11_rays ∈ lw_all := lw_in2 (List.mem_of_getElem? (i := 196) (by decide +kernel)) (by decide +kernel)
theorem q2_197 : Cond.code yX11_rays prog_1_method_14_code 1 (Option.some FieldType.int) ∈ lw_all := lw_in2 (List.mem_of_getElem? (i := 197) (by decide +kernel)) (by decide +kernel)
theorem q2_198 : Cond.methodLink RL 97 yX11_coverage ∈ lw_all := lw_in2 (List.mem_of_getElem? (i := 198) (by decide +kernel)) (by decide +kernel)
theorem q2_199 : Cond.instanceMethod yX11_coverage ∈ lw_all := lw_in2 (List.mem_of_getElem? (i := 199) (by decide +kernel)) (by decide +kernel)
theorem q2_200 : Cond.selects RX11 yX11_coverage yX11_coverage ∈ lw_all := lw_in2 (List.mem_of_getElem? (i := 200) (by decide +kernel)) (by decide +kernel)
theorem q2_201 : Cond.code yX11_coverage prog_1_method_15_code 1 (Option.some FieldType.int) ∈ lw_all := lw_in2 (List.mem_of_getElem? (i := 201) (by decide +kernel)) (by decide +kernel)
theorem q2_202 : Cond.methodLink RL 100 yX11_gap ∈ lw_all := lw_in2 (List.mem_of_getElem? (i := 202) (by decide +kernel)) (by decide +kernel)
theorem q2_203 : Cond.instanceMethod yX11_gap ∈ lw_all := lw_in2 (List.mem_of_getElem? (i := 203) (by decide +kernel)) (by decide +kernel)
theorem q2_204 : Cond.selects RX11 yX11_gap yX11_gap ∈ lw_all := lw_in2 (List.mem_of_getElem? (i := 204) (by decide +kernel)) (by decide +kernel)
theorem q2_205 : Cond.code yX11_gap prog_1_method_16_code 1 (Option.some FieldType.int) ∈ lw_all := lw_in2 (List.mem_of_getElem? (i := 205) (by decide +kernel)) (by decide +kernel)
theorem q2_206 : Cond.methodLink RX11 129 yX6_longestGap ∈ lw_all := lw_in2 (List.mem_of_getElem? (i := 206) (by decide +kernel)) (by decide +kernel)
theorem q2_207 : Cond.instanceMethod yX6_longestGap ∈ lw_all := lw_in2 (List.mem_of_getElem? (i := 207) (by decide +kernel)) (by decide +kernel)
theorem q2_208 : Cond.selects RX6 yX6_longestGap yX6_longestGap ∈ lw_all := lw_in2 (List.mem_of_getElem? (i := 208) (by decide +kernel)) (by decide +kernel)
theorem q2_209 : Cond.code yX6_longestGap prog_8_method_5_code 9 (Option.some FieldType.int) ∈ lw_all := lw_in2 (List.mem_of_getElem? (i := 209) (by decide +kernel)) (by decide +kernel)
theorem q2_210 : Cond.methodLink RX6 31 yX6_lowestBit ∈ lw_all := lw_in2 (List.mem_of_getElem? (i := 210) (by decide +kernel)) (by decide +kernel)
theorem q2_211 : Cond.static yX6_lowestBit ∈ lw_all := lw_in2 (List.mem_of_getElem? (i := 211) (by decide +kernel)) (by decide +kernel)
theorem q2_212 : Cond.code yX6_lowestBit prog_8_method_4_code 2 (Option.some FieldType.int) ∈ lw_all := lw_in2 (List.mem_of_getElem? (i := 212) (by decide +kernel)) (by decide +kernel)
theorem q2_213 : Cond.methodLink RX6 25 yJ13_bitCount_95d88 ∈ lw_all := lw_in2 (List.mem_of_getElem? (i := 213) (by decide +kernel)) (by decide +kernel)
theorem q2_214 : Cond.static yJ13_bitCount_95d88 ∈ lw_all := lw_in2 (List.mem_of_getElem? (i := 214) (by decide +kernel)) (by decide +kernel)
theorem q2_215 : Cond.code yJ13_bitCount_95d88 prog_15_method_50_code 2 (Option.some FieldType.int) ∈ lw_all := lw_in2 (List.mem_of_getElem? (i := 215) (by decide +kernel)) (by decide +kernel)
theorem q2_216 : Cond.constantLong RJ13 314 (lZ (6148914691236517205)) ∈ lw_all := lw_in2 (List.mem_of_getElem? (i := 216) (by decide +kernel)) (by decide +kernel)
theorem q2_217 : Cond.constantLong RJ13 316 (lZ (3689348814741910323)) ∈ lw_all := lw_in2 (List.mem_of_getElem? (i := 217) (by decide +kernel)) (by decide +kernel)
theorem q2_218 : Cond.constantLong RJ13 318 (lZ (1085102592571150095)) ∈ lw_all := lw_in2 (List.mem_of_getElem? (i := 218) (by decide +kernel)) (by decide +kernel)
theorem q2_219 : Cond.methodLink RX6 34 yJ9_max_7cf53 ∈ lw_all := lw_in2 (List.mem_of_getElem? (i := 219) (by decide +kernel)) (by decide +kernel)
theorem q2_220 : Cond.static yJ9_max_7cf53 ∈ lw_all := lw_in2 (List.mem_of_getElem? (i := 220) (by decide +kernel)) (by decide +kernel)
theorem q2_221 : Cond.code yJ9_max_7cf53 prog_16_method_65_code 2 (Option.some FieldType.int) ∈ lw_all := lw_in2 (List.mem_of_getElem? (i := 221) (by decide +kernel)) (by decide +kernel)
theorem q2_222 : Cond.methodLink RL 90 yX11_mean ∈ lw_all := lw_in2 (List.mem_of_getElem? (i := 222) (by decide +kernel)) (by decide +kernel)
theorem q2_223 : Cond.instanceMethod yX11_mean ∈ lw_all := lw_in2 (List.mem_of_getElem? (i := 223) (by decide +kernel)) (by decide +kernel)
theorem q2_224 : Cond.selects RX11 yX11_mean yX11_mean ∈ lw_all := lw_in2 (List.mem_of_getElem? (i := 224) (by decide +kernel)) (by decide +kernel)
theorem q2_225 : Cond.code yX11_mean prog_1_method_19_code 1 (Option.some FieldType.float) ∈ lw_all := lw_in2 (List.mem_of_getElem? (i := 225) (by decide +kernel)) (by decide +kernel)
theorem q2_226 : Cond.methodLink RX11 143 yX3_meanEnergy ∈ lw_all := lw_in2 (List.mem_of_getElem? (i := 226) (by decide +kernel)) (by decide +kernel)
theorem q2_227 : Cond.instanceMethod yX3_meanEnergy ∈ lw_all := lw_in2 (List.mem_of_getElem? (i := 227) (by decide +kernel)) (by decide +kernel)
theorem q2_228 : Cond.selects RX3 yX3_meanEnergy yX3_meanEnergy ∈ lw_all := lw_in2 (List.mem_of_getElem? (i := 228) (by decide +kernel)) (by decide +kernel)
theorem q2_229 : Cond.code yX3_meanEnergy prog_5_method_7_code 1 (Option.some FieldType.float) ∈ lw_all := lw_in2 (List.mem_of_getElem? (i := 229) (by decide +kernel)) (by decide +kernel)
theorem q2_230 : Cond.methodLink RL 60 yX11_crossings ∈ lw_all := lw_in2 (List.mem_of_getElem? (i := 230) (by decide +kernel)) (by decide +kernel)
theorem q2_231 : Cond.instanceMethod yX11_crossings ∈ lw_all := lw_in2 (List.mem_of_getElem? (i := 231) (by decide +kernel)) (by decide +kernel)
theorem q2_232 : Cond.selects RX11 yX11_crossings yX11_crossings ∈ lw_all := lw_in2 (List.mem_of_getElem? (i := 232) (by decide +kernel)) (by decide +kernel)
theorem q2_233 : Cond.code yX11_crossings prog_1_method_20_code 2 (Option.some FieldType.int) ∈ lw_all := lw_in2 (List.mem_of_getElem? (i := 233) (by decide +kernel)) (by decide +kernel)
theorem q2_234 : Cond.methodLink RX11 151 yX5_crossingPairs ∈ lw_all := lw_in2 (List.mem_of_getElem? (i := 234) (by decide +kernel)) (by decide +kernel)
theorem q2_235 : Cond.instanceMethod yX5_crossingPairs ∈ lw_all := lw_in2 (List.mem_of_getElem? (i := 235) (by decide +kernel)) (by decide +kernel)
theorem q2_236 : Cond.selects RX5 yX5_crossingPairs yX5_crossingPairs ∈ lw_all := lw_in2 (List.mem_of_getElem? (i := 236) (by decide +kernel)) (by decide +kernel)
theorem q2_237 : Cond.code yX5_crossingPairs prog_7_method_4_code 6 (Option.some FieldType.int) ∈ lw_all := lw_in2 (List.mem_of_getElem? (i := 237) (by decide +kernel)) (by decide +kernel)
theorem q2_238 : Cond.methodLink RX5 23 yJ9_min_7cf53 ∈ lw_all := lw_in2 (List.mem_of_getElem? (i := 238) (by decide +kernel)) (by decide +kernel)
theorem q2_239 : Cond.static yJ9_min_7cf53 ∈ lw_all := lw_in2 (List.mem_of_getElem? (i := 239) (by decide +kernel)) (by decide +kernel)
theorem q3_0 : Cond.code yJ9_min_7cf53 prog_16_method_69_code 2 (Option.some FieldType.int) ∈ lw_all := lw_in3 (List.mem_of_getElem? (i := 0) (by decide +kernel)) (by decide +kernel)
theorem q3_1 : Cond.methodLink RX5 29 yX5_cross ∈ lw_all := lw_in3 (List.mem_of_getElem? (i := 1) (by decide +kernel)) (by decide +kernel)
theorem q3_2 : Cond.static yX5_cross ∈ lw_all := lw_in3 (List.mem_of_getElem? (i := 2) (by decide +kernel)) (by decide +kernel)
theorem q3_3 : Cond.code yX5_cross prog_7_method_5_code 6 (Option.some FieldType.boolean) ∈ lw_all := lw_in3 (List.mem_of_getElem? (i := 3) (by decide +kernel)) (by decide +kernel)
theorem q3_4 : Cond.methodLink RX5 33 yJ9_max_7cf53 ∈ lw_all := lw_in3 (List.mem_of_getElem? (i := 4) (by decide +kernel)) (by decide +kernel)
theorem q3_5 : Cond.methodLink RX5 36 yX5_isBetween ∈ lw_all := lw_in3 (List.mem_of_getElem? (i := 5) (by decide +kernel)) (by decide +kernel)
theorem q3_6 : Cond.static yX5_isBetween ∈ lw_all := lw_in3 (List.mem_of_getElem? (i := 6) (by decide +kernel)) (by decide +kernel)
theorem q3_7 : Cond.code yX5_isBetween prog_7_method_6_code 3 (Option.some FieldType.boolean) ∈ lw_all := lw_in3 (List.mem_of_getElem? (i := 7) (by decide +kernel)) (by decide +kernel)
theorem q3_8 : Cond.methodLink RX5 40 yX5_isBeyond ∈ lw_all := lw_in3 (List.mem_of_getElem? (i := 8) (by decide +kernel)) (by decide +kernel)
theorem q3_9 : Cond.static yX5_isBeyond ∈ lw_all := lw_in3 (List.mem_of_getElem? (i := 9) (by decide +kernel)) (by decide +kernel)
theorem q3_10 : Cond.code yX5_isBeyond prog_7_method_7_code 3 (Option.some FieldType.boolean) ∈ lw_all := lw_in3 (List.mem_of_getElem? (i := 10) (by decide +kernel)) (by decide +kernel)
theorem q3_11 : Cond.methodLink RL 106 yX11_undo ∈ lw_all := lw_in3 (List.mem_of_getElem? (i := 11) (by decide +kernel)) (by decide +kernel)
theorem q3_12 : Cond.instanceMethod yX11_undo ∈ lw_all := lw_in3 (List.mem_of_getElem? (i := 12) (by decide +kernel)) (by decide +kernel)
theorem q3_13 : Cond.selects RX11 yX11_undo yX11_undo ∈ lw_all := lw_in3 (List.mem_of_getElem? (i := 13) (by decide +kernel)) (by decide +kernel)
theorem q3_14 : Cond.code yX11_undo prog_1_method_27_code 1 (Option.some FieldType.int) ∈ lw_all := lw_in3 (List.mem_of_getElem? (i := 14) (by decide +kernel)) (by decide +kernel)
theorem q3_15 : Cond.constant RX11 173 (iZ (-100009)) ∈ lw_all := lw_in3 (List.mem_of_getElem? (i := 15) (by decide +kernel)) (by decide +kernel)
theorem q3_16 : Cond.methodLink RX11 175 yX2_restore ∈ lw_all := lw_in3 (List.mem_of_getElem? (i := 16) (by decide +kernel)) (by decide +kernel)
theorem q3_17 : Cond.instanceMethod yX2_restore ∈ lw_all := lw_in3 (List.mem_of_getElem? (i := 17) (by decide +kernel)) (by decide +kernel)
theorem q3_18 : Cond.selects RX2 yX2_restore yX2_restore ∈ lw_all := lw_in3 (List.mem_of_getElem? (i := 18) (by decide +kernel)) (by decide +kernel)
theorem q3_19 : Cond.code yX2_restore prog_4_method_4_code 2 none ∈ lw_all := lw_in3 (List.mem_of_getElem? (i := 19) (by decide +kernel)) (by decide +kernel)
theorem q3_20 : Cond.methodLink RL 9 yX11_fingerprint ∈ lw_all := lw_in3 (List.mem_of_getElem? (i := 20) (by decide +kernel)) (by decide +kernel)
theorem q3_21 : Cond.instanceMethod yX11_fingerprint ∈ lw_all := lw_in3 (List.mem_of_getElem? (i := 21) (by decide +kernel)) (by decide +kernel)
theorem q3_22 : Cond.selects RX11 yX11_fingerprint yX11_fingerprint ∈ lw_all := lw_in3 (List.mem_of_getElem? (i := 22) (by decide +kernel)) (by decide +kernel)
theorem q3_23 : Cond.code yX11_fingerprint prog_1_method_28_code 5 (Option.some FieldType.long) ∈ lw_all := lw_in3 (List.mem_of_getElem? (i := 23) (by decide +kernel)) (by decide +kernel)
theorem q3_24 : Cond.constantLong RX11 178 (lZ (127)) ∈ lw_all := lw_in3 (List.mem_of_getElem? (i := 24) (by decide +kernel)) (by decide +kernel)
theorem q3_25 : Cond.methodLink RX11 180 yX11_parts ∈ lw_all := lw_in3 (List.mem_of_getElem? (i := 25) (by decide +kernel)) (by decide +kernel)
theorem q3_26 : Cond.methodLink RX11 182 yX11_mixed ∈ lw_all := lw_in3 (List.mem_of_getElem? (i := 26) (by decide +kernel)) (by decide +kernel)
theorem q3_27 : Cond.static yX11_mixed ∈ lw_all := lw_in3 (List.mem_of_getElem? (i := 27) (by decide +kernel)) (by decide +kernel)
theorem q3_28 : Cond.code yX11_mixed prog_1_method_29_code 4 (Option.some FieldType.long) ∈ lw_all := lw_in3 (List.mem_of_getElem? (i := 28) (by decide +kernel)) (by decide +kernel)
theorem q3_29 : Cond.constantLong RX11 204 (lZ (31)) ∈ lw_all := lw_in3 (List.mem_of_getElem? (i := 29) (by decide +kernel)) (by decide +kernel)
theorem q3_30 : Cond.methodLink RX11 186 yX11_part ∈ lw_all := lw_in3 (List.mem_of_getElem? (i := 30) (by decide +kernel)) (by decide +kernel)
theorem q3_31 : Cond.instanceMethod yX11_part ∈ lw_all := lw_in3 (List.mem_of_getElem? (i := 31) (by decide +kernel)) (by decide +kernel)
theorem q3_32 : Cond.selects RX11 yX11_part yX11_part ∈ lw_all := lw_in3 (List.mem_of_getElem? (i := 32) (by decide +kernel)) (by decide +kernel)
theorem q3_33 : Cond.code yX11_part prog_1_method_4_code 3 (Option.some FieldType.int) ∈ lw_all := lw_in3 (List.mem_of_getElem? (i := 33) (by decide +kernel)) (by decide +kernel)
theorem q3_34 : Cond.methodLink RX11 69 yX4_numberOf ∈ lw_all := lw_in3 (List.mem_of_getElem? (i := 34) (by decide +kernel)) (by decide +kernel)
theorem q3_35 : Cond.methodLink RX11 189 yX11_hits ∈ lw_all := lw_in3 (List.mem_of_getElem? (i := 35) (by decide +kernel)) (by decide +kernel)
theorem q3_36 : Cond.methodLink RX11 192 yX11_rays ∈ lw_all := lw_in3 (List.mem_of_getElem? (i := 36) (by decide +kernel)) (by decide +kernel)
theorem q3_37 : Cond.methodLink RX11 195 yX11_coverage ∈ lw_all := lw_in3 (List.mem_of_getElem? (i := 37) (by decide +kernel)) (by decide +kernel)
theorem q3_38 : Cond.methodLink RX11 198 yX11_hit ∈ lw_all := lw_in3 (List.mem_of_getElem? (i := 38) (by decide +kernel)) (by decide +kernel)
theorem q3_39 : Cond.instanceMethod yX11_hit ∈ lw_all := lw_in3 (List.mem_of_getElem? (i := 39) (by decide +kernel)) (by decide +kernel)
theorem q3_40 : Cond.selects RX11 yX11_hit yX11_hit ∈ lw_all := lw_in3 (List.mem_of_getElem? (i := 40) (by decide +kernel)) (by decide +kernel)
theorem q3_41 : Cond.code yX11_hit prog_1_method_13_code 3 (Option.some FieldType.long) ∈ lw_all := lw_in3 (List.mem_of_getElem? (i := 41) (by decide +kernel)) (by decide +kernel)
theorem q3_42 : Cond.methodLink RX11 116 yX3_numberOf ∈ lw_all := lw_in3 (List.mem_of_getElem? (i := 42) (by decide +kernel)) (by decide +kernel)
theorem q3_43 : Cond.instanceMethod yX3_numberOf ∈ lw_all := lw_in3 (List.mem_of_getElem? (i := 43) (by decide +kernel)) (by decide +kernel)
theorem q3_44 : Cond.selects RX3 yX3_numberOf yX3_numberOf ∈ lw_all := lw_in3 (List.mem_of_getElem? (i := 44) (by decide +kernel)) (by decide +kernel)
theorem q3_45 : Cond.code yX3_numberOf prog_5_method_5_code 3 (Option.some FieldType.long) ∈ lw_all := lw_in3 (List.mem_of_getElem? (i := 45) (by decide +kernel)) (by decide +kernel)
theorem q3_46 : Cond.constantLong RX3 47 (lZ (-100001)) ∈ lw_all := lw_in3 (List.mem_of_getElem? (i := 46) (by decide +kernel)) (by decide +kernel)
theorem q3_47 : Cond.methodLink RX11 201 yX11_heard ∈ lw_all := lw_in3 (List.mem_of_getElem? (i := 47) (by decide +kernel)) (by decide +kernel)
theorem q3_48 : Cond.instanceMethod yX11_heard ∈ lw_all := lw_in3 (List.mem_of_getElem? (i := 48) (by decide +kernel)) (by decide +kernel)
theorem q3_49 : Cond.selects RX11 yX11_heard yX11_heard ∈ lw_all := lw_in3 (List.mem_of_getElem? (i := 49) (by decide +kernel)) (by decide +kernel)
theorem q3_50 : Cond.code yX11_heard prog_1_method_17_code 3 (Option.some FieldType.long) ∈ lw_all := lw_in3 (List.mem_of_getElem? (i := 50) (by decide +kernel)) (by decide +kernel)
theorem q3_51 : Cond.methodLink RX11 136 yX1_numberOf ∈ lw_all := lw_in3 (List.mem_of_getElem? (i := 51) (by decide +kernel)) (by decide +kernel)
theorem q3_52 : Cond.instanceMethod yX1_numberOf ∈ lw_all := lw_in3 (List.mem_of_getElem? (i := 52) (by decide +kernel)) (by decide +kernel)
theorem q3_53 : Cond.selects RX1 yX1_numberOf yX1_numberOf ∈ lw_all := lw_in3 (List.mem_of_getElem? (i := 53) (by decide +kernel)) (by decide +kernel)
theorem q3_54 : Cond.code yX1_numberOf prog_3_method_4_code 3 (Option.some FieldType.long) ∈ lw_all := lw_in3 (List.mem_of_getElem? (i := 54) (by decide +kernel)) (by decide +kernel)
theorem q3_55 : Cond.constantLong RX1 36 (lZ (-100001)) ∈ lw_all := lw_in3 (List.mem_of_getElem? (i := 55) (by decide +kernel)) (by decide +kernel)
theorem q3_56 : Cond.methodLink RL 113 yL_cell ∈ lw_all := lw_in3 (List.mem_of_getElem? (i := 56) (by decide +kernel)) (by decide +kernel)
theorem q3_57 : Cond.static yL_cell ∈ lw_all := lw_in3 (List.mem_of_getElem? (i := 57) (by decide +kernel)) (by decide +kernel)
theorem q3_58 : Cond.code yL_cell method_2_code 2 (Option.some FieldType.int) ∈ lw_all := lw_in3 (List.mem_of_getElem? (i := 58) (by decide +kernel)) (by decide +kernel)
theorem q3_59 : Cond.constant RL 7 (iZ (763049417)) ∈ lw_all := lw_in3 (List.mem_of_getElem? (i := 59) (by decide +kernel)) (by decide +kernel)
theorem q3_60 : Cond.methodLink RL 103 yL_up ∈ lw_all := lw_in3 (List.mem_of_getElem? (i := 60) (by decide +kernel)) (by decide +kernel)
theorem q3_61 : Cond.static yL_up ∈ lw_all := lw_in3 (List.mem_of_getElem? (i := 61) (by decide +kernel)) (by decide +kernel)
theorem q3_62 : Cond.code yL_up method_3_code 2 (Option.some FieldType.int) ∈ lw_all := lw_in3 (List.mem_of_getElem? (i := 62) (by decide +kernel)) (by decide +kernel)
theorem q3_63 : Cond.constant RL 8 (iZ (2147483647)) ∈ lw_all := lw_in3 (List.mem_of_getElem? (i := 63) (by decide +kernel)) (by decide +kernel)
theorem q3_64 : Cond.methodLink RL 109 yL_fails ∈ lw_all := lw_in3 (List.mem_of_getElem? (i := 64) (by decide +kernel)) (by decide +kernel)
theorem q3_65 : Cond.static yL_fails ∈ lw_all := lw_in3 (List.mem_of_getElem? (i := 65) (by decide +kernel)) (by decide +kernel)
theorem q3_66 : Cond.code yL_fails method_4_code 4 (Option.some FieldType.boolean) ∈ lw_all := lw_in3 (List.mem_of_getElem? (i := 66) (by decide +kernel)) (by decide +kernel)
theorem q3_67 : Cond.constant RL 21 (iZ (-100001)) ∈ lw_all := lw_in3 (List.mem_of_getElem? (i := 67) (by decide +kernel)) (by decide +kernel)
theorem q3_68 : Cond.methodLink RL 26 yX11_remove ∈ lw_all := lw_in3 (List.mem_of_getElem? (i := 68) (by decide +kernel)) (by decide +kernel)
theorem q3_69 : Cond.instanceMethod yX11_remove ∈ lw_all := lw_in3 (List.mem_of_getElem? (i := 69) (by decide +kernel)) (by decide +kernel)
theorem q3_70 : Cond.selects RX11 yX11_remove yX11_remove ∈ lw_all := lw_in3 (List.mem_of_getElem? (i := 70) (by decide +kernel)) (by decide +kernel)
theorem q3_71 : Cond.code yX11_remove prog_1_method_3_code 2 (Option.some FieldType.int) ∈ lw_all := lw_in3 (List.mem_of_getElem? (i := 71) (by decide +kernel)) (by decide +kernel)
theorem q3_72 : Cond.methodLink RX11 61 yX4_has ∈ lw_all := lw_in3 (List.mem_of_getElem? (i := 72) (by decide +kernel)) (by decide +kernel)
theorem q3_73 : Cond.methodLink RX11 65 yX4_takeOut ∈ lw_all := lw_in3 (List.mem_of_getElem? (i := 73) (by decide +kernel)) (by decide +kernel)
theorem q3_74 : Cond.instanceMethod yX4_takeOut ∈ lw_all := lw_in3 (List.mem_of_getElem? (i := 74) (by decide +kernel)) (by decide +kernel)
theorem q3_75 : Cond.selects RX4 yX4_takeOut yX4_takeOut ∈ lw_all := lw_in3 (List.mem_of_getElem? (i := 75) (by decide +kernel)) (by decide +kernel)
theorem q3_76 : Cond.code yX4_takeOut prog_6_method_13_code 4 none ∈ lw_all := lw_in3 (List.mem_of_getElem? (i := 76) (by decide +kernel)) (by decide +kernel)
theorem q3_77 : Cond.methodLink RL 30 yX11_part ∈ lw_all := lw_in3 (List.mem_of_getElem? (i := 77) (by decide +kernel)) (by decide +kernel)
theorem q3_78 : Cond.methodLink RL 47 yX11_hit ∈ lw_all := lw_in3 (List.mem_of_getElem? (i := 78) (by decide +kernel)) (by decide +kernel)
theorem q3_79 : Cond.constantLong RL 51 (lZ (-100001)) ∈ lw_all := lw_in3 (List.mem_of_getElem? (i := 79) (by decide +kernel)) (by decide +kernel)
theorem q3_80 : Cond.methodLink RL 53 yX11_heard ∈ lw_all := lw_in3 (List.mem_of_getElem? (i := 80) (by decide +kernel)) (by decide +kernel)
theorem q3_81 : Cond.methodLink RL 56 yX11_echo ∈ lw_all := lw_in3 (List.mem_of_getElem? (i := 81) (by decide +kernel)) (by decide +kernel)
theorem q3_82 : Cond.instanceMethod yX11_echo ∈ lw_all := lw_in3 (List.mem_of_getElem? (i := 82) (by decide +kernel)) (by decide +kernel)
theorem q3_83 : Cond.selects RX11 yX11_echo yX11_echo ∈ lw_all := lw_in3 (List.mem_of_getElem? (i := 83) (by decide +kernel)) (by decide +kernel)
theorem q3_84 : Cond.code yX11_echo prog_1_method_18_code 2 (Option.some FieldType.int) ∈ lw_all := lw_in3 (List.mem_of_getElem? (i := 84) (by decide +kernel)) (by decide +kernel)
theorem q3_85 : Cond.methodLink RX11 139 yX3_echoAt ∈ lw_all := lw_in3 (List.mem_of_getElem? (i := 85) (by decide +kernel)) (by decide +kernel)
theorem q3_86 : Cond.instanceMethod yX3_echoAt ∈ lw_all := lw_in3 (List.mem_of_getElem? (i := 86) (by decide +kernel)) (by decide +kernel)
theorem q3_87 : Cond.selects RX3 yX3_echoAt yX3_echoAt ∈ lw_all := lw_in3 (List.mem_of_getElem? (i := 87) (by decide +kernel)) (by decide +kernel)
theorem q3_88 : Cond.code yX3_echoAt prog_5_method_6_code 2 (Option.some FieldType.int) ∈ lw_all := lw_in3 (List.mem_of_getElem? (i := 88) (by decide +kernel)) (by decide +kernel)
theorem q3_89 : Cond.constant RX3 49 (iZ (-100001)) ∈ lw_all := lw_in3 (List.mem_of_getElem? (i := 89) (by decide +kernel)) (by decide +kernel)
theorem q3_90 : Cond.constant RX3 50 (iZ (-100009)) ∈ lw_all := lw_in3 (List.mem_of_getElem? (i := 90) (by decide +kernel)) (by decide +kernel)
theorem q3_91 : Cond.constant RL 59 (iZ (-100009)) ∈ lw_all := lw_in3 (List.mem_of_getElem? (i := 91) (by decide +kernel)) (by decide +kernel)
theorem q3_92 : Cond.methodLink RL 63 yX11_time ∈ lw_all := lw_in3 (List.mem_of_getElem? (i := 92) (by decide +kernel)) (by decide +kernel)
theorem q3_93 : Cond.instanceMethod yX11_time ∈ lw_all := lw_in3 (List.mem_of_getElem? (i := 93) (by decide +kernel)) (by decide +kernel)
theorem q3_94 : Cond.selects RX11 yX11_time yX11_time ∈ lw_all := lw_in3 (List.mem_of_getElem? (i := 94) (by decide +kernel)) (by decide +kernel)
theorem q3_95 : Cond.code yX11_time prog_1_method_21_code 2 (Option.some FieldType.int) ∈ lw_all := lw_in3 (List.mem_of_getElem? (i := 95) (by decide +kernel)) (by decide +kernel)
theorem q3_96 : Cond.methodLink RX11 156 yX0_chordTime ∈ lw_all := lw_in3 (List.mem_of_getElem? (i := 96) (by decide +kernel)) (by decide +kernel)
theorem q3_97 : Cond.methodLink RL 66 yX11_caustic ∈ lw_all := lw_in3 (List.mem_of_getElem? (i := 97) (by decide +kernel)) (by decide +kernel)
theorem q3_98 : Cond.instanceMethod yX11_caustic ∈ lw_all := lw_in3 (List.mem_of_getElem? (i := 98) (by decide +kernel)) (by decide +kernel)
theorem q3_99 : Cond.selects RX11 yX11_caustic yX11_caustic ∈ lw_all := lw_in3 (List.mem_of_getElem? (i := 99) (by decide +kernel)) (by decide +kernel)
theorem q3_100 : Cond.code yX11_caustic prog_1_method_22_code 2 (Option.some FieldType.int) ∈ lw_all := lw_in3 (List.mem_of_getElem? (i := 100) (by decide +kernel)) (by decide +kernel)
theorem q3_101 : Cond.methodLink RX11 159 yX0_causticRadius ∈ lw_all := lw_in3 (List.mem_of_getElem? (i := 101) (by decide +kernel)) (by decide +kernel)
theorem q3_102 : Cond.static yX0_causticRadius ∈ lw_all := lw_in3 (List.mem_of_getElem? (i := 102) (by decide +kernel)) (by decide +kernel)
theorem q3_103 : Cond.code yX0_causticRadius prog_2_method_7_code 1 (Option.some FieldType.int) ∈ lw_all := lw_in3 (List.mem_of_getElem? (i := 103) (by decide +kernel)) (by decide +kernel)
theorem q3_104 : Cond.constant RX0 31 (iZ (1000000)) ∈ lw_all := lw_in3 (List.mem_of_getElem? (i := 104) (by decide +kernel)) (by decide +kernel)
theorem q3_105 : Cond.methodLink RL 69 yX11_order ∈ lw_all := lw_in3 (List.mem_of_getElem? (i := 105) (by decide +kernel)) (by decide +kernel)
theorem q3_106 : Cond.instanceMethod yX11_order ∈ lw_all := lw_in3 (List.mem_of_getElem? (i := 106) (by decide +kernel)) (by decide +kernel)
theorem q3_107 : Cond.selects RX11 yX11_order yX11_order ∈ lw_all := lw_in3 (List.mem_of_getElem? (i := 107) (by decide +kernel)) (by decide +kernel)
theorem q3_108 : Cond.code yX11_order prog_1_method_23_code 2 (Option.some FieldType.int) ∈ lw_all := lw_in3 (List.mem_of_getElem? (i := 108) (by decide +kernel)) (by decide +kernel)
theorem q3_109 : Cond.methodLink RX11 162 yX0_sharedDivisor ∈ lw_all := lw_in3 (List.mem_of_getElem? (i := 109) (by decide +kernel)) (by decide +kernel)
theorem q3_110 : Cond.static yX0_sharedDivisor ∈ lw_all := lw_in3 (List.mem_of_getElem? (i := 110) (by decide +kernel)) (by decide +kernel)
theorem q3_111 : Cond.code yX0_sharedDivisor prog_2_method_8_code 5 (Option.some FieldType.int) ∈ lw_all := lw_in3 (List.mem_of_getElem? (i := 111) (by decide +kernel)) (by decide +kernel)
theorem q3_112 : Cond.methodLink RL 72 yX11_turns ∈ lw_all := lw_in3 (List.mem_of_getElem? (i := 112) (by decide +kernel)) (by decide +kernel)
theorem q3_113 : Cond.instanceMethod yX11_turns ∈ lw_all := lw_in3 (List.mem_of_getElem? (i := 113) (by decide +kernel)) (by decide +kernel)
theorem q3_114 : Cond.selects RX11 yX11_turns yX11_turns ∈ lw_all := lw_in3 (List.mem_of_getElem? (i := 114) (by decide +kernel)) (by decide +kernel)
theorem q3_115 : Cond.code yX11_turns prog_1_method_24_code 2 (Option.some FieldType.int) ∈ lw_all := lw_in3 (List.mem_of_getElem? (i := 115) (by decide +kernel)) (by decide +kernel)
theorem q3_116 : Cond.methodLink RX11 165 yJ9_abs_0f7a4 ∈ lw_all := lw_in3 (List.mem_of_getElem? (i := 116) (by decide +kernel)) (by decide +kernel)
theorem q3_117 : Cond.methodLink RL 75 yX11_aim ∈ lw_all := lw_in3 (List.mem_of_getElem? (i := 117) (by decide +kernel)) (by decide +kernel)
theorem q3_118 : Cond.instanceMethod yX11_aim ∈ lw_all := lw_in3 (List.mem_of_getElem? (i := 118) (by decide +kernel)) (by decide +kernel)
theorem q3_119 : Cond.selects RX11 yX11_aim yX11_aim ∈ lw_all := lw_in3 (List.mem_of_getElem? (i := 119) (by decide +kernel)) (by decide +kernel)
theorem q3_120 : Cond.code yX11_aim prog_1_method_25_code 5 (Option.some FieldType.int) ∈ lw_all := lw_in3 (List.mem_of_getElem? (i := 120) (by decide +kernel)) (by decide +kernel)
theorem q3_121 : Cond.methodLink RX11 170 yX0_smallestStep ∈ lw_all := lw_in3 (List.mem_of_getElem? (i := 121) (by decide +kernel)) (by decide +kernel)
theorem q3_122 : Cond.static yX0_smallestStep ∈ lw_all := lw_in3 (List.mem_of_getElem? (i := 122) (by decide +kernel)) (by decide +kernel)
theorem q3_123 : Cond.code yX0_smallestStep prog_2_method_10_code 5 (Option.some FieldType.int) ∈ lw_all := lw_in3 (List.mem_of_getElem? (i := 123) (by decide +kernel)) (by decide +kernel)
theorem q3_124 : Cond.methodLink RX0 32 yX0_isStep ∈ lw_all := lw_in3 (List.mem_of_getElem? (i := 124) (by decide +kernel)) (by decide +kernel)
theorem q3_125 : Cond.methodLink RX0 36 yX0_isBetter ∈ lw_all := lw_in3 (List.mem_of_getElem? (i := 125) (by decide +kernel)) (by decide +kernel)
theorem q3_126 : Cond.static yX0_isBetter ∈ lw_all := lw_in3 (List.mem_of_getElem? (i := 126) (by decide +kernel)) (by decide +kernel)
theorem q3_127 : Cond.code yX0_isBetter prog_2_method_11_code 4 (Option.some FieldType.boolean) ∈ lw_all := lw_in3 (List.mem_of_getElem? (i := 127) (by decide +kernel)) (by decide +kernel)
theorem q3_128 : Cond.constant RL 78 (iZ (1000001)) ∈ lw_all := lw_in3 (List.mem_of_getElem? (i := 128) (by decide +kernel)) (by decide +kernel)
theorem q3_129 : Cond.methodLink RL 79 yX11_widest ∈ lw_all := lw_in3 (List.mem_of_getElem? (i := 129) (by decide +kernel)) (by decide +kernel)
theorem q3_130 : Cond.instanceMethod yX11_widest ∈ lw_all := lw_in3 (List.mem_of_getElem? (i := 130) (by decide +kernel)) (by decide +kernel)
theorem q3_131 : Cond.selects RX11 yX11_widest yX11_widest ∈ lw_all := lw_in3 (List.mem_of_getElem? (i := 131) (by decide +kernel)) (by decide +kernel)
theorem q3_132 : Cond.code yX11_widest prog_1_method_26_code 2 (Option.some FieldType.int) ∈ lw_all := lw_in3 (List.mem_of_getElem? (i := 132) (by decide +kernel)) (by decide +kernel)
theorem q3_133 : Cond.methodLink RL 82 yX11_type ∈ lw_all := lw_in3 (List.mem_of_getElem? (i := 133) (by decide +kernel)) (by decide +kernel)
theorem q3_134 : Cond.instanceMethod yX11_type ∈ lw_all := lw_in3 (List.mem_of_getElem? (i := 134) (by decide +kernel)) (by decide +kernel)
theorem q3_135 : Cond.selects RX11 yX11_type yX11_type ∈ lw_all := lw_in3 (List.mem_of_getElem? (i := 135) (by decide +kernel)) (by decide +kernel)
theorem q3_136 : Cond.code yX11_type prog_1_method_8_code 2 (Option.some FieldType.int) ∈ lw_all := lw_in3 (List.mem_of_getElem? (i := 136) (by decide +kernel)) (by decide +kernel)
theorem q3_137 : Cond.methodLink RX11 83 yX9_append ∈ lw_all := lw_in3 (List.mem_of_getElem? (i := 137) (by decide +kernel)) (by decide +kernel)
theorem q3_138 : Cond.instanceMethod yX9_append ∈ lw_all := lw_in3 (List.mem_of_getElem? (i := 138) (by decide +kernel)) (by decide +kernel)
theorem q3_139 : Cond.selects RX9 yX9_append yX9_append ∈ lw_all := lw_in3 (List.mem_of_getElem? (i := 139) (by decide +kernel)) (by decide +kernel)
theorem q3_140 : Cond.code yX9_append prog_11_method_2_code 2 none ∈ lw_all := lw_in3 (List.mem_of_getElem? (i := 140) (by decide +kernel)) (by decide +kernel)
theorem q3_141 : Cond.methodLink RL 121 yL_hits ∈ lw_all := lw_in3 (List.mem_of_getElem? (i := 141) (by decide +kernel)) (by decide +kernel)
theorem q3_142 : Cond.static yL_hits ∈ lw_all := lw_in3 (List.mem_of_getElem? (i := 142) (by decide +kernel)) (by decide +kernel)
theorem q3_143 : Cond.code yL_hits method_5_code 21 (Option.some FieldType.boolean) ∈ lw_all := lw_in3 (List.mem_of_getElem? (i := 143) (by decide +kernel)) (by decide +kernel)
theorem q3_144 : Cond.constantLong RL 85 (lZ (27720)) ∈ lw_all := lw_in3 (List.mem_of_getElem? (i := 144) (by decide +kernel)) (by decide +kernel)
theorem q3_145 : Cond.methodLink RL 124 yL_heard ∈ lw_all := lw_in3 (List.mem_of_getElem? (i := 145) (by decide +kernel)) (by decide +kernel)
theorem q3_146 : Cond.static yL_heard ∈ lw_all := lw_in3 (List.mem_of_getElem? (i := 146) (by decide +kernel)) (by decide +kernel)
theorem q3_147 : Cond.code yL_heard method_6_code 8 (Option.some FieldType.boolean) ∈ lw_all := lw_in3 (List.mem_of_getElem? (i := 147) (by decide +kernel)) (by decide +kernel)
theorem q3_148 : Cond.constantLong RL 94 (lZ (-100009)) ∈ lw_all := lw_in3 (List.mem_of_getElem? (i := 148) (by decide +kernel)) (by decide +kernel)
theorem q3_149 : Cond.methodLink RL 127 yL_chords ∈ lw_all := lw_in3 (List.mem_of_getElem? (i := 149) (by decide +kernel)) (by decide +kernel)
theorem q3_150 : Cond.static yL_chords ∈ lw_all := lw_in3 (List.mem_of_getElem? (i := 150) (by decide +kernel)) (by decide +kernel)
theorem q3_151 : Cond.code yL_chords method_7_code 5 (Option.some FieldType.boolean) ∈ lw_all := lw_in3 (List.mem_of_getElem? (i := 151) (by decide +kernel)) (by decide +kernel)
theorem q3_152 : Cond.methodLink RL 130 yL_aims ∈ lw_all := lw_in3 (List.mem_of_getElem? (i := 152) (by decide +kernel)) (by decide +kernel)
theorem q3_153 : Cond.static yL_aims ∈ lw_all := lw_in3 (List.mem_of_getElem? (i := 153) (by decide +kernel)) (by decide +kernel)
theorem q3_154 : Cond.code yL_aims method_8_code 6 (Option.some FieldType.boolean) ∈ lw_all := lw_in3 (List.mem_of_getElem? (i := 154) (by decide +kernel)) (by decide +kernel)
theorem q3_155 : Cond.methodLink RL 117 yL_step ∈ lw_all := lw_in3 (List.mem_of_getElem? (i := 155) (by decide +kernel)) (by decide +kernel)
theorem q3_156 : Cond.static yL_step ∈ lw_all := lw_in3 (List.mem_of_getElem? (i := 156) (by decide +kernel)) (by decide +kernel)
theorem q3_157 : Cond.code yL_step method_9_code 2 (Option.some FieldType.int) ∈ lw_all := lw_in3 (List.mem_of_getElem? (i := 157) (by decide +kernel)) (by decide +kernel)
theorem q3_158 : Cond.constant RL 120 (iZ (1000000)) ∈ lw_all := lw_in3 (List.mem_of_getElem? (i := 158) (by decide +kernel)) (by decide +kernel)
def nestW : List Cond := [Cond.methodLinkNest RX11 9 yX10_init "GalleryRays", Cond.methodLinkNest RX10 9 yX4_init "GalleryRays", Cond.fieldLinkNest RX11 48 "GalleryRays$Parts" "count" "I" "GalleryRays", Cond.fieldLinkNest RX8 124 "GalleryRays$Parts" "count" "I" "GalleryRays", Cond.fieldLinkNest RX11 44 "GalleryRays$Wall" "parts" "LGalleryRays$Parts;" "GalleryRays", Cond.fieldLinkNest RX8 120 "GalleryRays$Wall" "parts" "LGalleryRays$Parts;" "GalleryRays", Cond.fieldLinkNest RX8 112 "GalleryRays$Wall" "loss" "I" "GalleryRays", Cond.fieldLinkNest RX11 73 "GalleryRays$Wall" "loss" "I" "GalleryRays", Cond.fieldLinkNest RX8 140 "GalleryRays$Wall" "threshold" "I" "GalleryRays", Cond.fieldLinkNest RX11 77 "GalleryRays$Wall" "threshold" "I" "GalleryRays", Cond.methodLinkNest RX2 17 yX10_init "GalleryRays", Cond.fieldLinkNest RX11 174 "GalleryRays$History" "count" "I" "GalleryRays", Cond.methodLinkNest RX11 25 yX9_init "GalleryRays", Cond.methodLinkNest RX9 17 yX4_init "GalleryRays", Cond.fieldLinkNest RX11 80 "GalleryRays$Text" "length" "I" "GalleryRays", Cond.methodLinkNest RX8 19 yX3_init "GalleryRays", Cond.fieldLinkNest RX11 113 "GalleryRays$HitLog" "count" "I" "GalleryRays", Cond.methodLinkNest RX8 26 yX6_init "GalleryRays", Cond.fieldLinkNest RX11 126 "GalleryRays$PlaceMarks" "count" "I" "GalleryRays", Cond.methodLinkNest RX8 40 yX5_init "GalleryRays", Cond.fieldLinkNest RX3 30 "GalleryRays$Ray" "number" "I" "GalleryRays", Cond.fieldLinkNest RX8 106 "GalleryRays$Ray" "number" "I" "GalleryRays", Cond.fieldLinkNest RX3 35 "GalleryRays$Ray" "place" "I" "GalleryRays", Cond.fieldLinkNest RX8 89 "GalleryRays$Ray" "place" "I" "GalleryRays", Cond.fieldLinkNest RX3 44 "GalleryRays$Ray" "step" "I" "GalleryRays", Cond.fieldLinkNest RX8 92 "GalleryRays$Ray" "step" "I" "GalleryRays", Cond.fieldLinkNest RX1 26 "GalleryRays$Ray" "energy" "I" "GalleryRays", Cond.fieldLinkNest RX3 41 "GalleryRays$Ray" "energy" "I" "GalleryRays", Cond.fieldLinkNest RX8 137 "GalleryRays$Ray" "energy" "I" "GalleryRays", Cond.fieldLinkNest RX1 20 "GalleryRays$Ray" "arrival" "J" "GalleryRays", Cond.fieldLinkNest RX3 38 "GalleryRays$Ray" "arrival" "J" "GalleryRays", Cond.fieldLinkNest RX8 85 "GalleryRays$Ray" "arrival" "J" "GalleryRays", Cond.fieldLinkNest RX8 81 "GalleryRays$Ray" "going" "Z" "GalleryRays", Cond.fieldLinkNest RX11 109 "GalleryRays$Shot" "log" "LGalleryRays$HitLog;" "GalleryRays", Cond.fieldLinkNest RX11 122 "GalleryRays$Shot" "marks" "LGalleryRays$PlaceMarks;" "GalleryRays", Cond.fieldLinkNest RX11 132 "GalleryRays$Shot" "ears" "LGalleryRays$Ears;" "GalleryRays", Cond.fieldLinkNest RX11 147 "GalleryRays$Shot" "path" "LGalleryRays$Path;" "GalleryRays", Cond.fieldLinkNest RX11 119 "GalleryRays$Shot" "rayCount" "I" "GalleryRays"]
def isNest : Cond → Bool
  | .fieldLinkNest .. => true
  | .methodLinkNest .. => true
  | _ => false
theorem nestW_ok : ∀ w ∈ nestW, isNest w = true := by decide +kernel
theorem nestW_in : ∀ w ∈ nestW, w ∈ lw_tbl := by
  have e : nestW = ([26, 32, 37, 38, 47, 48, 50, 51, 53, 54, 70, 73, 81, 86, 90, 115, 122, 139, 145, 168, 185, 186, 188, 189, 191, 192, 194, 195, 196, 198, 199, 200, 202, 218, 220, 222, 224, 226] : List Nat).filterMap (fun i => tables_1[i]?) := by decide +kernel
  intro w hw
  rw [e] at hw
  obtain ⟨i, -, hi⟩ := List.mem_filterMap.mp hw
  exact List.mem_append_right _ (List.mem_of_getElem? hi)
theorem q1_26 : Cond.methodLinkNest RX11 9 yX10_init "GalleryRays" ∈ nestW := List.mem_of_getElem? (i := 0) rfl
theorem q1_32 : Cond.methodLinkNest RX10 9 yX4_init "GalleryRays" ∈ nestW := List.mem_of_getElem? (i := 1) rfl
theorem q1_37 : Cond.fieldLinkNest RX11 48 "GalleryRays$Parts" "count" "I" "GalleryRays" ∈ nestW := List.mem_of_getElem? (i := 2) rfl
theorem q1_38 : Cond.fieldLinkNest RX8 124 "GalleryRays$Parts" "count" "I" "GalleryRays" ∈ nestW := List.mem_of_getElem? (i := 3) rfl
theorem q1_47 : Cond.fieldLinkNest RX11 44 "GalleryRays$Wall" "parts" "LGalleryRays$Parts;" "GalleryRays" ∈ nestW := List.mem_of_getElem? (i := 4) rfl
theorem q1_48 : Cond.fieldLinkNest RX8 120 "GalleryRays$Wall" "parts" "LGalleryRays$Parts;" "GalleryRays" ∈ nestW := List.mem_of_getElem? (i := 5) rfl
theorem q1_50 : Cond.fieldLinkNest RX8 112 "GalleryRays$Wall" "loss" "I" "GalleryRays" ∈ nestW := List.mem_of_getElem? (i := 6) rfl
theorem q1_51 : Cond.fieldLinkNest RX11 73 "GalleryRays$Wall" "loss" "I" "GalleryRays" ∈ nestW := List.mem_of_getElem? (i := 7) rfl
theorem q1_53 : Cond.fieldLinkNest RX8 140 "GalleryRays$Wall" "threshold" "I" "GalleryRays" ∈ nestW := List.mem_of_getElem? (i := 8) rfl
theorem q1_54 : Cond.fieldLinkNest RX11 77 "GalleryRays$Wall" "threshold" "I" "GalleryRays" ∈ nestW := List.mem_of_getElem? (i := 9) rfl
theorem q1_70 : Cond.methodLinkNest RX2 17 yX10_init "GalleryRays" ∈ nestW := List.mem_of_getElem? (i := 10) rfl
theorem q1_73 : Cond.fieldLinkNest RX11 174 "GalleryRays$History" "count" "I" "GalleryRays" ∈ nestW := List.mem_of_getElem? (i := 11) rfl
theorem q1_81 : Cond.methodLinkNest RX11 25 yX9_init "GalleryRays" ∈ nestW := List.mem_of_getElem? (i := 12) rfl
theorem q1_86 : Cond.methodLinkNest RX9 17 yX4_init "GalleryRays" ∈ nestW := List.mem_of_getElem? (i := 13) rfl
theorem q1_90 : Cond.fieldLinkNest RX11 80 "GalleryRays$Text" "length" "I" "GalleryRays" ∈ nestW := List.mem_of_getElem? (i := 14) rfl
theorem q1_115 : Cond.methodLinkNest RX8 19 yX3_init "GalleryRays" ∈ nestW := List.mem_of_getElem? (i := 15) rfl
theorem q1_122 : Cond.fieldLinkNest RX11 113 "GalleryRays$HitLog" "count" "I" "GalleryRays" ∈ nestW := List.mem_of_getElem? (i := 16) rfl
theorem q1_139 : Cond.methodLinkNest RX8 26 yX6_init "GalleryRays" ∈ nestW := List.mem_of_getElem? (i := 17) rfl
theorem q1_145 : Cond.fieldLinkNest RX11 126 "GalleryRays$PlaceMarks" "count" "I" "GalleryRays" ∈ nestW := List.mem_of_getElem? (i := 18) rfl
theorem q1_168 : Cond.methodLinkNest RX8 40 yX5_init "GalleryRays" ∈ nestW := List.mem_of_getElem? (i := 19) rfl
theorem q1_185 : Cond.fieldLinkNest RX3 30 "GalleryRays$Ray" "number" "I" "GalleryRays" ∈ nestW := List.mem_of_getElem? (i := 20) rfl
theorem q1_186 : Cond.fieldLinkNest RX8 106 "GalleryRays$Ray" "number" "I" "GalleryRays" ∈ nestW := List.mem_of_getElem? (i := 21) rfl
theorem q1_188 : Cond.fieldLinkNest RX3 35 "GalleryRays$Ray" "place" "I" "GalleryRays" ∈ nestW := List.mem_of_getElem? (i := 22) rfl
theorem q1_189 : Cond.fieldLinkNest RX8 89 "GalleryRays$Ray" "place" "I" "GalleryRays" ∈ nestW := List.mem_of_getElem? (i := 23) rfl
theorem q1_191 : Cond.fieldLinkNest RX3 44 "GalleryRays$Ray" "step" "I" "GalleryRays" ∈ nestW := List.mem_of_getElem? (i := 24) rfl
theorem q1_192 : Cond.fieldLinkNest RX8 92 "GalleryRays$Ray" "step" "I" "GalleryRays" ∈ nestW := List.mem_of_getElem? (i := 25) rfl
theorem q1_194 : Cond.fieldLinkNest RX1 26 "GalleryRays$Ray" "energy" "I" "GalleryRays" ∈ nestW := List.mem_of_getElem? (i := 26) rfl
theorem q1_195 : Cond.fieldLinkNest RX3 41 "GalleryRays$Ray" "energy" "I" "GalleryRays" ∈ nestW := List.mem_of_getElem? (i := 27) rfl
theorem q1_196 : Cond.fieldLinkNest RX8 137 "GalleryRays$Ray" "energy" "I" "GalleryRays" ∈ nestW := List.mem_of_getElem? (i := 28) rfl
theorem q1_198 : Cond.fieldLinkNest RX1 20 "GalleryRays$Ray" "arrival" "J" "GalleryRays" ∈ nestW := List.mem_of_getElem? (i := 29) rfl
theorem q1_199 : Cond.fieldLinkNest RX3 38 "GalleryRays$Ray" "arrival" "J" "GalleryRays" ∈ nestW := List.mem_of_getElem? (i := 30) rfl
theorem q1_200 : Cond.fieldLinkNest RX8 85 "GalleryRays$Ray" "arrival" "J" "GalleryRays" ∈ nestW := List.mem_of_getElem? (i := 31) rfl
theorem q1_202 : Cond.fieldLinkNest RX8 81 "GalleryRays$Ray" "going" "Z" "GalleryRays" ∈ nestW := List.mem_of_getElem? (i := 32) rfl
theorem q1_218 : Cond.fieldLinkNest RX11 109 "GalleryRays$Shot" "log" "LGalleryRays$HitLog;" "GalleryRays" ∈ nestW := List.mem_of_getElem? (i := 33) rfl
theorem q1_220 : Cond.fieldLinkNest RX11 122 "GalleryRays$Shot" "marks" "LGalleryRays$PlaceMarks;" "GalleryRays" ∈ nestW := List.mem_of_getElem? (i := 34) rfl
theorem q1_222 : Cond.fieldLinkNest RX11 132 "GalleryRays$Shot" "ears" "LGalleryRays$Ears;" "GalleryRays" ∈ nestW := List.mem_of_getElem? (i := 35) rfl
theorem q1_224 : Cond.fieldLinkNest RX11 147 "GalleryRays$Shot" "path" "LGalleryRays$Path;" "GalleryRays" ∈ nestW := List.mem_of_getElem? (i := 36) rfl
theorem q1_226 : Cond.fieldLinkNest RX11 119 "GalleryRays$Shot" "rayCount" "I" "GalleryRays" ∈ nestW := List.mem_of_getElem? (i := 37) rfl
theorem qp_0 : Cond.selects RX2 yX2_dropOldest yX2_dropOldest ∈ lw_all := lw_inP (i := 0) (by decide +kernel)
theorem qp_1 : Cond.selects RX8 yX8_begin yX8_begin ∈ lw_all := lw_inP (i := 1) (by decide +kernel)
theorem qp_2 : Cond.selects RX8 yX8_earliest yX8_earliest ∈ lw_all := lw_inP (i := 2) (by decide +kernel)
theorem qp_3 : Cond.selects RX8 yX8_meet yX8_meet ∈ lw_all := lw_inP (i := 3) (by decide +kernel)
theorem qp_4 : Cond.selects RX8 yX8_act yX8_act ∈ lw_all := lw_inP (i := 4) (by decide +kernel)
theorem qp_5 : Cond.selects RX8 yX8_split yX8_split ∈ lw_all := lw_inP (i := 5) (by decide +kernel)
theorem inX0 : ∀ w ∈ u_ws RX0 TX0 0, w ∈ lw_all := fun _ h => absurd h List.not_mem_nil
theorem inX1 : ∀ w ∈ u_ws RX1 TX1 1, w ∈ lw_all := by
  have e : u_ws RX1 TX1 1 = [Cond.laysFinal "GalleryRays$Ears" "GalleryRays$Ears" "numbers" "[J"] := by decide +kernel
  rw [e]
  exact List.forall_mem_cons.mpr ⟨q1_163, fun _ h => absurd h List.not_mem_nil⟩
theorem inX2 : ∀ w ∈ u_ws RX2 TX2 2, w ∈ lw_all := by
  have e : u_ws RX2 TX2 2 = [Cond.laysFinal "GalleryRays$History" "GalleryRays$History" "states" "[LGalleryRays$Wall;", Cond.lays "GalleryRays$History" "GalleryRays$History" "count" "I"] := by decide +kernel
  rw [e]
  exact List.forall_mem_cons.mpr ⟨q1_74, List.forall_mem_cons.mpr ⟨q1_76, fun _ h => absurd h List.not_mem_nil⟩⟩
theorem inX3 : ∀ w ∈ u_ws RX3 TX3 5, w ∈ lw_all := by
  have e : u_ws RX3 TX3 5 = [Cond.laysFinal "GalleryRays$HitLog" "GalleryRays$HitLog" "numbers" "[J", Cond.laysFinal "GalleryRays$HitLog" "GalleryRays$HitLog" "echoes" "[I", Cond.lays "GalleryRays$HitLog" "GalleryRays$HitLog" "count" "I", Cond.lays "GalleryRays$HitLog" "GalleryRays$HitLog" "echoCount" "I", Cond.lays "GalleryRays$HitLog" "GalleryRays$HitLog" "energySum" "J"] := by decide +kernel
  rw [e]
  exact List.forall_mem_cons.mpr ⟨q1_125, List.forall_mem_cons.mpr ⟨q1_127, List.forall_mem_cons.mpr ⟨q1_129, List.forall_mem_cons.mpr ⟨q1_131, List.forall_mem_cons.mpr ⟨q1_133, fun _ h => absurd h List.not_mem_nil⟩⟩⟩⟩⟩
theorem inX4 : ∀ w ∈ u_ws RX4 TX4 2, w ∈ lw_all := by
  have e : u_ws RX4 TX4 2 = [Cond.laysFinal "GalleryRays$Parts" "GalleryRays$Parts" "numbers" "[I", Cond.lays "GalleryRays$Parts" "GalleryRays$Parts" "count" "I"] := by decide +kernel
  rw [e]
  exact List.forall_mem_cons.mpr ⟨q1_40, List.forall_mem_cons.mpr ⟨q1_42, fun _ h => absurd h List.not_mem_nil⟩⟩
theorem inX5 : ∀ w ∈ u_ws RX5 TX5 2, w ∈ lw_all := by
  have e : u_ws RX5 TX5 2 = [Cond.laysFinal "GalleryRays$Path" "GalleryRays$Path" "corners" "[I", Cond.lays "GalleryRays$Path" "GalleryRays$Path" "count" "I"] := by decide +kernel
  rw [e]
  exact List.forall_mem_cons.mpr ⟨q1_174, List.forall_mem_cons.mpr ⟨q1_176, fun _ h => absurd h List.not_mem_nil⟩⟩
theorem inX6 : ∀ w ∈ u_ws RX6 TX6 2, w ∈ lw_all := by
  have e : u_ws RX6 TX6 2 = [Cond.laysFinal "GalleryRays$PlaceMarks" "GalleryRays$PlaceMarks" "words" "[J", Cond.lays "GalleryRays$PlaceMarks" "GalleryRays$PlaceMarks" "count" "I"] := by decide +kernel
  rw [e]
  exact List.forall_mem_cons.mpr ⟨q1_146, List.forall_mem_cons.mpr ⟨q1_148, fun _ h => absurd h List.not_mem_nil⟩⟩
theorem inX7 : ∀ w ∈ u_ws RX7 TX7 6, w ∈ lw_all := by
  have e : u_ws RX7 TX7 6 = [Cond.laysFinal "GalleryRays$Ray" "GalleryRays$Ray" "number" "I", Cond.lays "GalleryRays$Ray" "GalleryRays$Ray" "place" "I", Cond.lays "GalleryRays$Ray" "GalleryRays$Ray" "step" "I", Cond.lays "GalleryRays$Ray" "GalleryRays$Ray" "energy" "I", Cond.lays "GalleryRays$Ray" "GalleryRays$Ray" "arrival" "J", Cond.lays "GalleryRays$Ray" "GalleryRays$Ray" "going" "Z"] := by decide +kernel
  rw [e]
  exact List.forall_mem_cons.mpr ⟨q1_203, List.forall_mem_cons.mpr ⟨q1_205, List.forall_mem_cons.mpr ⟨q1_207, List.forall_mem_cons.mpr ⟨q1_209, List.forall_mem_cons.mpr ⟨q1_211, List.forall_mem_cons.mpr ⟨q1_213, fun _ h => absurd h List.not_mem_nil⟩⟩⟩⟩⟩⟩
theorem inX8 : ∀ w ∈ u_ws RX8 TX8 6, w ∈ lw_all := by
  have e : u_ws RX8 TX8 6 = [Cond.laysFinal "GalleryRays$Shot" "GalleryRays$Shot" "rays" "[LGalleryRays$Ray;", Cond.laysFinal "GalleryRays$Shot" "GalleryRays$Shot" "log" "LGalleryRays$HitLog;", Cond.laysFinal "GalleryRays$Shot" "GalleryRays$Shot" "marks" "LGalleryRays$PlaceMarks;", Cond.laysFinal "GalleryRays$Shot" "GalleryRays$Shot" "ears" "LGalleryRays$Ears;", Cond.laysFinal "GalleryRays$Shot" "GalleryRays$Shot" "path" "LGalleryRays$Path;", Cond.lays "GalleryRays$Shot" "GalleryRays$Shot" "rayCount" "I"] := by decide +kernel
  rw [e]
  exact List.forall_mem_cons.mpr ⟨q1_227, List.forall_mem_cons.mpr ⟨q1_229, List.forall_mem_cons.mpr ⟨q1_231, List.forall_mem_cons.mpr ⟨q1_233, List.forall_mem_cons.mpr ⟨q1_235, List.forall_mem_cons.mpr ⟨q1_237, fun _ h => absurd h List.not_mem_nil⟩⟩⟩⟩⟩⟩
theorem inX9 : ∀ w ∈ u_ws RX9 TX9 6, w ∈ lw_all := by
  have e : u_ws RX9 TX9 6 = [Cond.laysFinal "GalleryRays$Text" "GalleryRays$Text" "signs" "[C", Cond.laysFinal "GalleryRays$Text" "GalleryRays$Text" "found" "LGalleryRays$Parts;", Cond.lays "GalleryRays$Text" "GalleryRays$Text" "length" "I", Cond.lays "GalleryRays$Text" "GalleryRays$Text" "at" "I", Cond.lays "GalleryRays$Text" "GalleryRays$Text" "broken" "Z", Cond.lays "GalleryRays$Text" "GalleryRays$Text" "outOfRange" "I"] := by decide +kernel
  rw [e]
  exact List.forall_mem_cons.mpr ⟨q1_91, List.forall_mem_cons.mpr ⟨q1_93, List.forall_mem_cons.mpr ⟨q1_95, List.forall_mem_cons.mpr ⟨q1_97, List.forall_mem_cons.mpr ⟨q1_99, List.forall_mem_cons.mpr ⟨q1_101, fun _ h => absurd h List.not_mem_nil⟩⟩⟩⟩⟩⟩
theorem inX10 : ∀ w ∈ u_ws RX10 TX10 3, w ∈ lw_all := by
  have e : u_ws RX10 TX10 3 = [Cond.laysFinal "GalleryRays$Wall" "GalleryRays$Wall" "parts" "LGalleryRays$Parts;", Cond.lays "GalleryRays$Wall" "GalleryRays$Wall" "loss" "I", Cond.lays "GalleryRays$Wall" "GalleryRays$Wall" "threshold" "I"] := by decide +kernel
  rw [e]
  exact List.forall_mem_cons.mpr ⟨q1_55, List.forall_mem_cons.mpr ⟨q1_57, List.forall_mem_cons.mpr ⟨q1_59, fun _ h => absurd h List.not_mem_nil⟩⟩⟩
theorem inX11 : ∀ w ∈ u_ws RX11 TX11 4, w ∈ lw_all := by
  have e : u_ws RX11 TX11 4 = [Cond.laysFinal "GalleryRays" "GalleryRays" "wall" "LGalleryRays$Wall;", Cond.laysFinal "GalleryRays" "GalleryRays" "history" "LGalleryRays$History;", Cond.laysFinal "GalleryRays" "GalleryRays" "text" "LGalleryRays$Text;", Cond.laysFinal "GalleryRays" "GalleryRays" "shot" "LGalleryRays$Shot;"] := by decide +kernel
  rw [e]
  exact List.forall_mem_cons.mpr ⟨q2_4, List.forall_mem_cons.mpr ⟨q2_6, List.forall_mem_cons.mpr ⟨q2_8, List.forall_mem_cons.mpr ⟨q2_10, fun _ h => absurd h List.not_mem_nil⟩⟩⟩⟩
theorem inX12 : ∀ w ∈ u_ws RX12 TX12 0, w ∈ lw_all := fun _ h => absurd h List.not_mem_nil
theorem inJ13 : ∀ w ∈ u_ws RJ13 TJ13 0, w ∈ lw_all := fun _ h => absurd h List.not_mem_nil
theorem inJ9 : ∀ w ∈ u_ws RJ9 TJ9 0, w ∈ lw_all := fun _ h => absurd h List.not_mem_nil
theorem inJ10 : ∀ w ∈ u_ws RJ10 TJ10 0, w ∈ lw_all := fun _ h => absurd h List.not_mem_nil
def mOk (y : MethodName) (n : Nat) : Prop := y.cls ≠ "java/lang/invoke/MethodHandle" ∧ y.cls ≠ "java/lang/invoke/VarHandle" ∧ (parseMethodDescriptor y.desc).map (fun d => d.parameters.length) = some n
def CIs (own : String) (idx : Nat) (y : MethodName) (cy : ByteArray) (nLy : Nat) (rt : Option FieldType) (n : Nat) : Prop := GoodIn lw_all (va_wsS own idx y (.code y cy nLy rt :: lw_all)) ∧ mOk y n
def CIv (own : String) (idx : Nat) (y : MethodName) (cy : ByteArray) (nLy : Nat) (rt : Option FieldType) (n : Nat) : Prop := GoodIn lw_all (wsV own idx y.cls y (.code y cy nLy rt :: lw_all)) ∧ mOk y n
def CIi (own : String) (idx : Nat) (y : MethodName) (cy : ByteArray) (nLy n : Nat) : Prop := GoodIn lw_all (.code y cy nLy none :: lw_all) ∧ (Cond.initialized y.cls ∈ lw_all) ∧ (Cond.methodLink own idx y ∈ lw_all) ∧ (Cond.instanceMethod y ∈ lw_all) ∧ y.name = "<init>" ∧ mOk y n
def CIn (own : String) (idx : Nat) (y : MethodName) (cy : ByteArray) (nLy n : Nat) : Prop := GoodIn lw_all (.code y cy nLy none :: lw_all) ∧ (Cond.initialized y.cls ∈ lw_all) ∧ (∃ host, Cond.methodLinkNest own idx y host ∈ nestW) ∧ (Cond.instanceMethod y ∈ lw_all) ∧ y.name = "<init>" ∧ mOk y n
theorem fm_n : ∀ w ∈ lw_all, w ∈ lw_all := fun _ h => h
theorem CIs_of {own : String} {idx : Nat} {y : MethodName} {cy : ByteArray} {nLy : Nat} {rt : Option FieldType} {n : Nat} (h1 : Cond.methodLink own idx y ∈ lw_all) (h2 : Cond.static y ∈ lw_all) (h3 : Cond.initialized y.cls ∈ lw_all) (h4 : Cond.code y cy nLy rt ∈ lw_all) (h : mOk y n) : CIs own idx y cy nLy rt n :=
  ⟨gi_of (List.forall_mem_cons.mpr ⟨h1, List.forall_mem_cons.mpr ⟨h2, List.forall_mem_cons.mpr ⟨h3, List.forall_mem_cons.mpr ⟨h4, fm_n⟩⟩⟩⟩), h⟩
theorem CIv_of {own : String} {idx : Nat} {y : MethodName} {cy : ByteArray} {nLy : Nat} {rt : Option FieldType} {n : Nat} (h1 : Cond.methodLink own idx y ∈ lw_all) (h2 : Cond.instanceMethod y ∈ lw_all) (h5 : Cond.selects y.cls y y ∈ lw_all) (h3 : Cond.initialized y.cls ∈ lw_all) (h4 : Cond.code y cy nLy rt ∈ lw_all) (h : mOk y n) : CIv own idx y cy nLy rt n :=
  ⟨gi_of (List.forall_mem_cons.mpr ⟨h1, List.forall_mem_cons.mpr ⟨h2, List.forall_mem_cons.mpr ⟨h5, List.forall_mem_cons.mpr ⟨h3, List.forall_mem_cons.mpr ⟨h4, fm_n⟩⟩⟩⟩⟩), h⟩
theorem ci_X0_9 : CIs RX0 9 yJ9_floorMod_7cf53 cJ9_floorMod_7cf53 3 (Option.some FieldType.int) 2 := CIs_of q2_131 q2_132 q1_14 q2_133 ⟨by decide +kernel, by decide +kernel, by decide +kernel⟩
theorem ci_X0_22 : CIs RX0 22 yJ9_abs_0f7a4 cJ9_abs_0f7a4 1 (Option.some FieldType.int) 1 := CIs_of q2_103 q2_104 q1_14 q2_105 ⟨by decide +kernel, by decide +kernel, by decide +kernel⟩
theorem ci_X0_26 : CIs RX0 26 yX0_sine cX0_sine 4 (Option.some FieldType.int) 2 := CIs_of q2_106 q2_107 q1_15 q2_108 ⟨by decide +kernel, by decide +kernel, by decide +kernel⟩
theorem ci_X0_32 : CIs RX0 32 yX0_isStep cX0_isStep 1 (Option.some FieldType.boolean) 1 := CIs_of q3_124 q2_76 q1_15 q2_77 ⟨by decide +kernel, by decide +kernel, by decide +kernel⟩
theorem ci_X0_36 : CIs RX0 36 yX0_isBetter cX0_isBetter 4 (Option.some FieldType.boolean) 2 := CIs_of q3_125 q3_126 q1_15 q3_127 ⟨by decide +kernel, by decide +kernel, by decide +kernel⟩
theorem ci_X1_15 : CIv RX1 15 yX1_forget cX1_forget 3 none 0 := CIv_of q1_157 q1_158 q1_159 q1_9 q1_160 ⟨by decide +kernel, by decide +kernel, by decide +kernel⟩
theorem ci_X1_30 : CIs RX1 30 yJ9_max_f86c9 cJ9_max_f86c9 4 (Option.some FieldType.long) 2 := CIs_of q2_183 q2_184 q1_14 q2_185 ⟨by decide +kernel, by decide +kernel, by decide +kernel⟩
theorem ci_X2_17 : CIn RX2 17 yX10_init cX10_init 1 0 := ⟨gi_of (List.forall_mem_cons.mpr ⟨q1_28, fm_n⟩), q1_2, ⟨_, q1_70⟩, q1_27, rfl, ⟨by decide +kernel, by decide +kernel, by decide +kernel⟩⟩
theorem ci_X2_22 : CIv RX2 22 yX2_dropOldest cX2_dropOldest 3 none 0 := CIv_of q2_38 q2_40 qp_0 q1_4 q2_41 ⟨by decide +kernel, by decide +kernel, by decide +kernel⟩
theorem ci_X2_25 : CIv RX2 25 yX10_copyFrom cX10_copyFrom 2 none 1 := CIv_of q2_42 q2_43 q2_44 q1_2 q2_45 ⟨by decide +kernel, by decide +kernel, by decide +kernel⟩
theorem ci_X4_15 : CIs RX4 15 yX0_isPlace cX0_isPlace 1 (Option.some FieldType.boolean) 1 := CIs_of q2_20 q2_21 q1_15 q2_22 ⟨by decide +kernel, by decide +kernel, by decide +kernel⟩
theorem ci_X4_21 : CIs RX4 21 yX4_leastBy cX4_leastBy 1 (Option.some FieldType.int) 1 := CIs_of q2_23 q2_24 q1_3 q2_25 ⟨by decide +kernel, by decide +kernel, by decide +kernel⟩
theorem ci_X4_25 : CIs RX4 25 yX4_mostBy cX4_mostBy 1 (Option.some FieldType.int) 1 := CIs_of q2_29 q2_30 q1_3 q2_31 ⟨by decide +kernel, by decide +kernel, by decide +kernel⟩
theorem ci_X4_28 : CIs RX4 28 yX4_mayBeNegative cX4_mayBeNegative 1 (Option.some FieldType.boolean) 1 := CIs_of q2_26 q2_27 q1_3 q2_28 ⟨by decide +kernel, by decide +kernel, by decide +kernel⟩
theorem ci_X4_45 : CIv RX4 45 yX4_has cX4_has 2 (Option.some FieldType.boolean) 1 := CIv_of q2_156 q2_157 q2_158 q1_3 q2_159 ⟨by decide +kernel, by decide +kernel, by decide +kernel⟩
theorem ci_X4_49 : CIv RX4 49 yX4_numberOf cX4_numberOf 3 (Option.some FieldType.int) 2 := CIv_of q2_152 q2_153 q2_154 q1_3 q2_155 ⟨by decide +kernel, by decide +kernel, by decide +kernel⟩
theorem ci_X4_53 : CIs RX4 53 yJ9_floorMod_7cf53 cJ9_floorMod_7cf53 3 (Option.some FieldType.int) 2 := CIs_of q2_161 q2_132 q1_14 q2_133 ⟨by decide +kernel, by decide +kernel, by decide +kernel⟩
theorem ci_X5_19 : CIv RX5 19 yX5_goTo cX5_goTo 2 none 1 := CIv_of q2_95 q2_96 q2_97 q1_10 q2_98 ⟨by decide +kernel, by decide +kernel, by decide +kernel⟩
theorem ci_X5_23 : CIs RX5 23 yJ9_min_7cf53 cJ9_min_7cf53 2 (Option.some FieldType.int) 2 := CIs_of q2_238 q2_239 q1_14 q3_0 ⟨by decide +kernel, by decide +kernel, by decide +kernel⟩
theorem ci_X5_29 : CIs RX5 29 yX5_cross cX5_cross 6 (Option.some FieldType.boolean) 4 := CIs_of q3_1 q3_2 q1_10 q3_3 ⟨by decide +kernel, by decide +kernel, by decide +kernel⟩
theorem ci_X5_33 : CIs RX5 33 yJ9_max_7cf53 cJ9_max_7cf53 2 (Option.some FieldType.int) 2 := CIs_of q3_4 q2_220 q1_14 q2_221 ⟨by decide +kernel, by decide +kernel, by decide +kernel⟩
theorem ci_X5_36 : CIs RX5 36 yX5_isBetween cX5_isBetween 3 (Option.some FieldType.boolean) 3 := CIs_of q3_5 q3_6 q1_10 q3_7 ⟨by decide +kernel, by decide +kernel, by decide +kernel⟩
theorem ci_X5_40 : CIs RX5 40 yX5_isBeyond cX5_isBeyond 3 (Option.some FieldType.boolean) 3 := CIs_of q3_8 q3_9 q1_10 q3_10 ⟨by decide +kernel, by decide +kernel, by decide +kernel⟩
theorem ci_X6_19 : CIs RX6 19 yX0_isPlace cX0_isPlace 1 (Option.some FieldType.boolean) 1 := CIs_of q2_142 q2_21 q1_15 q2_22 ⟨by decide +kernel, by decide +kernel, by decide +kernel⟩
theorem ci_X6_25 : CIs RX6 25 yJ13_bitCount_95d88 cJ13_bitCount_95d88 2 (Option.some FieldType.int) 1 := CIs_of q2_213 q2_214 q1_13 q2_215 ⟨by decide +kernel, by decide +kernel, by decide +kernel⟩
theorem ci_X6_31 : CIs RX6 31 yX6_lowestBit cX6_lowestBit 2 (Option.some FieldType.int) 1 := CIs_of q2_210 q2_211 q1_8 q2_212 ⟨by decide +kernel, by decide +kernel, by decide +kernel⟩
theorem ci_X6_34 : CIs RX6 34 yJ9_max_7cf53 cJ9_max_7cf53 2 (Option.some FieldType.int) 2 := CIs_of q2_219 q2_220 q1_14 q2_221 ⟨by decide +kernel, by decide +kernel, by decide +kernel⟩
theorem ci_X7_30 : CIs RX7 30 yX0_tilted cX0_tilted 3 (Option.some FieldType.int) 2 := CIs_of q2_171 q2_172 q1_15 q2_173 ⟨by decide +kernel, by decide +kernel, by decide +kernel⟩
theorem ci_X8_19 : CIn RX8 19 yX3_init cX3_init 1 0 := ⟨gi_of (List.forall_mem_cons.mpr ⟨q1_117, fm_n⟩), q1_7, ⟨_, q1_115⟩, q1_116, rfl, ⟨by decide +kernel, by decide +kernel, by decide +kernel⟩⟩
theorem ci_X8_26 : CIn RX8 26 yX6_init cX6_init 1 0 := ⟨gi_of (List.forall_mem_cons.mpr ⟨q1_141, fm_n⟩), q1_8, ⟨_, q1_139⟩, q1_140, rfl, ⟨by decide +kernel, by decide +kernel, by decide +kernel⟩⟩
theorem ci_X8_33 : CIi RX8 33 yX1_init cX1_init 1 0 := ⟨gi_of (List.forall_mem_cons.mpr ⟨q1_155, fm_n⟩), q1_9, q1_153, q1_154, rfl, ⟨by decide +kernel, by decide +kernel, by decide +kernel⟩⟩
theorem ci_X8_40 : CIn RX8 40 yX5_init cX5_init 1 0 := ⟨gi_of (List.forall_mem_cons.mpr ⟨q1_170, fm_n⟩), q1_10, ⟨_, q1_168⟩, q1_169, rfl, ⟨by decide +kernel, by decide +kernel, by decide +kernel⟩⟩
theorem ci_X8_45 : CIi RX8 45 yX7_init cX7_init 2 1 := ⟨gi_of (List.forall_mem_cons.mpr ⟨q1_182, fm_n⟩), q1_11, q1_180, q1_181, rfl, ⟨by decide +kernel, by decide +kernel, by decide +kernel⟩⟩
theorem ci_X8_48 : CIv RX8 48 yX3_forget cX3_forget 1 none 0 := CIv_of q2_82 q2_83 q2_84 q1_7 q2_85 ⟨by decide +kernel, by decide +kernel, by decide +kernel⟩
theorem ci_X8_51 : CIv RX8 51 yX6_forget cX6_forget 2 none 0 := CIv_of q2_86 q2_87 q2_88 q1_8 q2_89 ⟨by decide +kernel, by decide +kernel, by decide +kernel⟩
theorem ci_X8_52 : CIv RX8 52 yX1_forget cX1_forget 3 none 0 := CIv_of q2_90 q1_158 q1_159 q1_9 q1_160 ⟨by decide +kernel, by decide +kernel, by decide +kernel⟩
theorem ci_X8_53 : CIv RX8 53 yX5_startAt cX5_startAt 2 none 1 := CIv_of q2_91 q2_92 q2_93 q1_10 q2_94 ⟨by decide +kernel, by decide +kernel, by decide +kernel⟩
theorem ci_X8_60 : CIs RX8 60 yX0_chordTime cX0_chordTime 1 (Option.some FieldType.int) 1 := CIs_of q2_99 q2_100 q1_15 q2_101 ⟨by decide +kernel, by decide +kernel, by decide +kernel⟩
theorem ci_X8_66 : CIv RX8 66 yX8_begin cX8_begin 6 none 4 := CIv_of q2_112 q2_114 qp_1 q1_6 q2_115 ⟨by decide +kernel, by decide +kernel, by decide +kernel⟩
theorem ci_X8_70 : CIv RX8 70 yX8_earliest cX8_earliest 4 (Option.some (FieldType.object "GalleryRays$Ray")) 0 := CIv_of q2_120 q2_122 qp_2 q1_6 q2_123 ⟨by decide +kernel, by decide +kernel, by decide +kernel⟩
theorem ci_X8_74 : CIv RX8 74 yX8_meet cX8_meet 4 none 2 := CIv_of q2_124 q2_126 qp_3 q1_6 q2_127 ⟨by decide +kernel, by decide +kernel, by decide +kernel⟩
theorem ci_X8_78 : CIv RX8 78 yX7_start cX7_start 6 none 4 := CIv_of q2_116 q2_117 q2_118 q1_11 q2_119 ⟨by decide +kernel, by decide +kernel, by decide +kernel⟩
theorem ci_X8_95 : CIs RX8 95 yX0_placeAfter cX0_placeAfter 2 (Option.some FieldType.int) 2 := CIs_of q2_128 q2_129 q1_15 q2_130 ⟨by decide +kernel, by decide +kernel, by decide +kernel⟩
theorem ci_X8_99 : CIv RX8 99 yX3_note cX3_note 3 none 1 := CIv_of q2_134 q2_135 q2_136 q1_7 q2_137 ⟨by decide +kernel, by decide +kernel, by decide +kernel⟩
theorem ci_X8_103 : CIv RX8 103 yX6_mark cX6_mark 4 none 1 := CIv_of q2_138 q2_139 q2_140 q1_8 q2_141 ⟨by decide +kernel, by decide +kernel, by decide +kernel⟩
theorem ci_X8_109 : CIv RX8 109 yX5_goTo cX5_goTo 2 none 1 := CIv_of q2_143 q2_96 q2_97 q1_10 q2_98 ⟨by decide +kernel, by decide +kernel, by decide +kernel⟩
theorem ci_X8_117 : CIv RX8 117 yX7_lose cX7_lose 2 none 1 := CIv_of q2_144 q2_145 q2_146 q1_11 q2_147 ⟨by decide +kernel, by decide +kernel, by decide +kernel⟩
theorem ci_X8_129 : CIv RX8 129 yX4_covers cX4_covers 3 (Option.some FieldType.boolean) 2 := CIv_of q2_148 q2_149 q2_150 q1_3 q2_151 ⟨by decide +kernel, by decide +kernel, by decide +kernel⟩
theorem ci_X8_133 : CIv RX8 133 yX8_act cX8_act 5 none 3 := CIv_of q2_162 q2_164 qp_4 q1_6 q2_165 ⟨by decide +kernel, by decide +kernel, by decide +kernel⟩
theorem ci_X8_143 : CIv RX8 143 yX4_numberOf cX4_numberOf 3 (Option.some FieldType.int) 2 := CIv_of q2_166 q2_153 q2_154 q1_3 q2_155 ⟨by decide +kernel, by decide +kernel, by decide +kernel⟩
theorem ci_X8_146 : CIv RX8 146 yX7_tilt cX7_tilt 3 none 1 := CIv_of q2_167 q2_168 q2_169 q1_11 q2_170 ⟨by decide +kernel, by decide +kernel, by decide +kernel⟩
theorem ci_X8_149 : CIv RX8 149 yX8_split cX8_split 6 none 3 := CIv_of q2_174 q2_176 qp_5 q1_6 q2_177 ⟨by decide +kernel, by decide +kernel, by decide +kernel⟩
theorem ci_X8_153 : CIv RX8 153 yX1_hear cX1_hear 4 none 2 := CIv_of q2_179 q2_180 q2_181 q1_9 q2_182 ⟨by decide +kernel, by decide +kernel, by decide +kernel⟩
theorem ci_X8_157 : CIv RX8 157 yX3_noteEcho cX3_noteEcho 2 none 0 := CIv_of q2_186 q2_187 q2_188 q1_7 q2_189 ⟨by decide +kernel, by decide +kernel, by decide +kernel⟩
theorem ci_X8_160 : CIs RX8 160 yX0_tilted cX0_tilted 3 (Option.some FieldType.int) 2 := CIs_of q2_178 q2_172 q1_15 q2_173 ⟨by decide +kernel, by decide +kernel, by decide +kernel⟩
theorem ci_X9_17 : CIn RX9 17 yX4_init cX4_init 1 0 := ⟨gi_of (List.forall_mem_cons.mpr ⟨q1_34, fm_n⟩), q1_3, ⟨_, q1_86⟩, q1_33, rfl, ⟨by decide +kernel, by decide +kernel, by decide +kernel⟩⟩
theorem ci_X10_9 : CIn RX10 9 yX4_init cX4_init 1 0 := ⟨gi_of (List.forall_mem_cons.mpr ⟨q1_34, fm_n⟩), q1_3, ⟨_, q1_32⟩, q1_33, rfl, ⟨by decide +kernel, by decide +kernel, by decide +kernel⟩⟩
theorem ci_X10_23 : CIv RX10 23 yX4_copyFrom cX4_copyFrom 2 none 1 := CIv_of q2_46 q2_47 q2_48 q1_3 q2_49 ⟨by decide +kernel, by decide +kernel, by decide +kernel⟩
theorem ci_X11_9 : CIn RX11 9 yX10_init cX10_init 1 0 := ⟨gi_of (List.forall_mem_cons.mpr ⟨q1_28, fm_n⟩), q1_2, ⟨_, q1_26⟩, q1_27, rfl, ⟨by decide +kernel, by decide +kernel, by decide +kernel⟩⟩
theorem ci_X11_18 : CIi RX11 18 yX2_init cX2_init 2 0 := ⟨gi_of (List.forall_mem_cons.mpr ⟨q1_66, fm_n⟩), q1_4, q1_64, q1_65, rfl, ⟨by decide +kernel, by decide +kernel, by decide +kernel⟩⟩
theorem ci_X11_25 : CIn RX11 25 yX9_init cX9_init 1 0 := ⟨gi_of (List.forall_mem_cons.mpr ⟨q1_83, fm_n⟩), q1_5, ⟨_, q1_81⟩, q1_82, rfl, ⟨by decide +kernel, by decide +kernel, by decide +kernel⟩⟩
theorem ci_X11_32 : CIi RX11 32 yX8_init cX8_init 2 0 := ⟨gi_of (List.forall_mem_cons.mpr ⟨q1_109, fm_n⟩), q1_6, q1_107, q1_108, rfl, ⟨by decide +kernel, by decide +kernel, by decide +kernel⟩⟩
theorem ci_X11_37 : CIs RX11 37 yX4_isAllowed cX4_isAllowed 4 (Option.some FieldType.boolean) 4 := CIs_of q2_17 q2_18 q1_3 q2_19 ⟨by decide +kernel, by decide +kernel, by decide +kernel⟩
theorem ci_X11_53 : CIv RX11 53 yX2_keep cX2_keep 2 none 1 := CIv_of q2_34 q2_35 q2_36 q1_4 q2_37 ⟨by decide +kernel, by decide +kernel, by decide +kernel⟩
theorem ci_X11_57 : CIv RX11 57 yX4_append cX4_append 6 none 4 := CIv_of q2_53 q2_54 q2_55 q1_3 q2_56 ⟨by decide +kernel, by decide +kernel, by decide +kernel⟩
theorem ci_X11_61 : CIv RX11 61 yX4_has cX4_has 2 (Option.some FieldType.boolean) 1 := CIv_of q3_72 q2_157 q2_158 q1_3 q2_159 ⟨by decide +kernel, by decide +kernel, by decide +kernel⟩
theorem ci_X11_65 : CIv RX11 65 yX4_takeOut cX4_takeOut 4 none 1 := CIv_of q3_73 q3_74 q3_75 q1_3 q3_76 ⟨by decide +kernel, by decide +kernel, by decide +kernel⟩
theorem ci_X11_69 : CIv RX11 69 yX4_numberOf cX4_numberOf 3 (Option.some FieldType.int) 2 := CIv_of q3_34 q2_153 q2_154 q1_3 q2_155 ⟨by decide +kernel, by decide +kernel, by decide +kernel⟩
theorem ci_X11_83 : CIv RX11 83 yX9_append cX9_append 2 none 1 := CIv_of q3_137 q3_138 q3_139 q1_5 q3_140 ⟨by decide +kernel, by decide +kernel, by decide +kernel⟩
theorem ci_X11_97 : CIs RX11 97 yX0_isPlace cX0_isPlace 1 (Option.some FieldType.boolean) 1 := CIs_of q2_74 q2_21 q1_15 q2_22 ⟨by decide +kernel, by decide +kernel, by decide +kernel⟩
theorem ci_X11_102 : CIs RX11 102 yX0_isStep cX0_isStep 1 (Option.some FieldType.boolean) 1 := CIs_of q2_75 q2_76 q1_15 q2_77 ⟨by decide +kernel, by decide +kernel, by decide +kernel⟩
theorem ci_X11_105 : CIv RX11 105 yX8_run cX8_run 7 none 4 := CIv_of q2_78 q2_79 q2_80 q1_6 q2_81 ⟨by decide +kernel, by decide +kernel, by decide +kernel⟩
theorem ci_X11_116 : CIv RX11 116 yX3_numberOf cX3_numberOf 3 (Option.some FieldType.long) 2 := CIv_of q3_42 q3_43 q3_44 q1_7 q3_45 ⟨by decide +kernel, by decide +kernel, by decide +kernel⟩
theorem ci_X11_129 : CIv RX11 129 yX6_longestGap cX6_longestGap 9 (Option.some FieldType.int) 0 := CIv_of q2_206 q2_207 q2_208 q1_8 q2_209 ⟨by decide +kernel, by decide +kernel, by decide +kernel⟩
theorem ci_X11_136 : CIv RX11 136 yX1_numberOf cX1_numberOf 3 (Option.some FieldType.long) 2 := CIv_of q3_51 q3_52 q3_53 q1_9 q3_54 ⟨by decide +kernel, by decide +kernel, by decide +kernel⟩
theorem ci_X11_139 : CIv RX11 139 yX3_echoAt cX3_echoAt 2 (Option.some FieldType.int) 1 := CIv_of q3_85 q3_86 q3_87 q1_7 q3_88 ⟨by decide +kernel, by decide +kernel, by decide +kernel⟩
theorem ci_X11_143 : CIv RX11 143 yX3_meanEnergy cX3_meanEnergy 1 (Option.some FieldType.float) 0 := CIv_of q2_226 q2_227 q2_228 q1_7 q2_229 ⟨by decide +kernel, by decide +kernel, by decide +kernel⟩
theorem ci_X11_151 : CIv RX11 151 yX5_crossingPairs cX5_crossingPairs 6 (Option.some FieldType.int) 1 := CIv_of q2_234 q2_235 q2_236 q1_10 q2_237 ⟨by decide +kernel, by decide +kernel, by decide +kernel⟩
theorem ci_X11_156 : CIs RX11 156 yX0_chordTime cX0_chordTime 1 (Option.some FieldType.int) 1 := CIs_of q3_96 q2_100 q1_15 q2_101 ⟨by decide +kernel, by decide +kernel, by decide +kernel⟩
theorem ci_X11_159 : CIs RX11 159 yX0_causticRadius cX0_causticRadius 1 (Option.some FieldType.int) 1 := CIs_of q3_101 q3_102 q1_15 q3_103 ⟨by decide +kernel, by decide +kernel, by decide +kernel⟩
theorem ci_X11_162 : CIs RX11 162 yX0_sharedDivisor cX0_sharedDivisor 5 (Option.some FieldType.int) 1 := CIs_of q3_109 q3_110 q1_15 q3_111 ⟨by decide +kernel, by decide +kernel, by decide +kernel⟩
theorem ci_X11_165 : CIs RX11 165 yJ9_abs_0f7a4 cJ9_abs_0f7a4 1 (Option.some FieldType.int) 1 := CIs_of q3_116 q2_104 q1_14 q2_105 ⟨by decide +kernel, by decide +kernel, by decide +kernel⟩
theorem ci_X11_170 : CIs RX11 170 yX0_smallestStep cX0_smallestStep 5 (Option.some FieldType.int) 2 := CIs_of q3_121 q3_122 q1_15 q3_123 ⟨by decide +kernel, by decide +kernel, by decide +kernel⟩
theorem ci_X11_175 : CIv RX11 175 yX2_restore cX2_restore 2 none 1 := CIv_of q3_16 q3_17 q3_18 q1_4 q3_19 ⟨by decide +kernel, by decide +kernel, by decide +kernel⟩
theorem ci_X11_180 : CIv RX11 180 yX11_parts cX11_parts 1 (Option.some FieldType.int) 0 := CIv_of q3_25 q2_58 q2_59 q1_1 q2_60 ⟨by decide +kernel, by decide +kernel, by decide +kernel⟩
theorem ci_X11_182 : CIs RX11 182 yX11_mixed cX11_mixed 4 (Option.some FieldType.long) 2 := CIs_of q3_26 q3_27 q1_1 q3_28 ⟨by decide +kernel, by decide +kernel, by decide +kernel⟩
theorem ci_X11_186 : CIv RX11 186 yX11_part cX11_part 3 (Option.some FieldType.int) 2 := CIv_of q3_30 q3_31 q3_32 q1_1 q3_33 ⟨by decide +kernel, by decide +kernel, by decide +kernel⟩
theorem ci_X11_189 : CIv RX11 189 yX11_hits cX11_hits 1 (Option.some FieldType.int) 0 := CIv_of q3_35 q2_191 q2_192 q1_1 q2_193 ⟨by decide +kernel, by decide +kernel, by decide +kernel⟩
theorem ci_X11_192 : CIv RX11 192 yX11_rays cX11_rays 1 (Option.some FieldType.int) 0 := CIv_of q3_36 q2_195 q2_196 q1_1 q2_197 ⟨by decide +kernel, by decide +kernel, by decide +kernel⟩
theorem ci_X11_195 : CIv RX11 195 yX11_coverage cX11_coverage 1 (Option.some FieldType.int) 0 := CIv_of q3_37 q2_199 q2_200 q1_1 q2_201 ⟨by decide +kernel, by decide +kernel, by decide +kernel⟩
theorem ci_X11_198 : CIv RX11 198 yX11_hit cX11_hit 3 (Option.some FieldType.long) 2 := CIv_of q3_38 q3_39 q3_40 q1_1 q3_41 ⟨by decide +kernel, by decide +kernel, by decide +kernel⟩
theorem ci_X11_201 : CIv RX11 201 yX11_heard cX11_heard 3 (Option.some FieldType.long) 2 := CIv_of q3_47 q3_48 q3_49 q1_1 q3_50 ⟨by decide +kernel, by decide +kernel, by decide +kernel⟩
theorem ci_L_9 : CIv RL 9 yX11_fingerprint cX11_fingerprint 5 (Option.some FieldType.long) 0 := CIv_of q3_20 q3_21 q3_22 q1_1 q3_23 ⟨by decide +kernel, by decide +kernel, by decide +kernel⟩
theorem ci_L_15 : CIv RL 15 yX11_add cX11_add 5 (Option.some FieldType.int) 4 := CIv_of q2_13 q2_14 q2_15 q1_1 q2_16 ⟨by decide +kernel, by decide +kernel, by decide +kernel⟩
theorem ci_L_22 : CIv RL 22 yX11_parts cX11_parts 1 (Option.some FieldType.int) 0 := CIv_of q2_57 q2_58 q2_59 q1_1 q2_60 ⟨by decide +kernel, by decide +kernel, by decide +kernel⟩
theorem ci_L_26 : CIv RL 26 yX11_remove cX11_remove 2 (Option.some FieldType.int) 1 := CIv_of q3_68 q3_69 q3_70 q1_1 q3_71 ⟨by decide +kernel, by decide +kernel, by decide +kernel⟩
theorem ci_L_30 : CIv RL 30 yX11_part cX11_part 3 (Option.some FieldType.int) 2 := CIv_of q3_77 q3_31 q3_32 q1_1 q3_33 ⟨by decide +kernel, by decide +kernel, by decide +kernel⟩
theorem ci_L_34 : CIv RL 34 yX11_setLoss cX11_setLoss 3 (Option.some FieldType.int) 1 := CIv_of q2_61 q2_62 q2_63 q1_1 q2_64 ⟨by decide +kernel, by decide +kernel, by decide +kernel⟩
theorem ci_L_37 : CIv RL 37 yX11_setThreshold cX11_setThreshold 3 (Option.some FieldType.int) 1 := CIv_of q2_65 q2_66 q2_67 q1_1 q2_68 ⟨by decide +kernel, by decide +kernel, by decide +kernel⟩
theorem ci_L_40 : CIv RL 40 yX11_shoot cX11_shoot 4 (Option.some FieldType.int) 3 := CIv_of q2_70 q2_71 q2_72 q1_1 q2_73 ⟨by decide +kernel, by decide +kernel, by decide +kernel⟩
theorem ci_L_44 : CIv RL 44 yX11_hits cX11_hits 1 (Option.some FieldType.int) 0 := CIv_of q2_190 q2_191 q2_192 q1_1 q2_193 ⟨by decide +kernel, by decide +kernel, by decide +kernel⟩
theorem ci_L_47 : CIv RL 47 yX11_hit cX11_hit 3 (Option.some FieldType.long) 2 := CIv_of q3_78 q3_39 q3_40 q1_1 q3_41 ⟨by decide +kernel, by decide +kernel, by decide +kernel⟩
theorem ci_L_53 : CIv RL 53 yX11_heard cX11_heard 3 (Option.some FieldType.long) 2 := CIv_of q3_80 q3_48 q3_49 q1_1 q3_50 ⟨by decide +kernel, by decide +kernel, by decide +kernel⟩
theorem ci_L_56 : CIv RL 56 yX11_echo cX11_echo 2 (Option.some FieldType.int) 1 := CIv_of q3_81 q3_82 q3_83 q1_1 q3_84 ⟨by decide +kernel, by decide +kernel, by decide +kernel⟩
theorem ci_L_60 : CIv RL 60 yX11_crossings cX11_crossings 2 (Option.some FieldType.int) 1 := CIv_of q2_230 q2_231 q2_232 q1_1 q2_233 ⟨by decide +kernel, by decide +kernel, by decide +kernel⟩
theorem ci_L_63 : CIv RL 63 yX11_time cX11_time 2 (Option.some FieldType.int) 1 := CIv_of q3_92 q3_93 q3_94 q1_1 q3_95 ⟨by decide +kernel, by decide +kernel, by decide +kernel⟩
theorem ci_L_66 : CIv RL 66 yX11_caustic cX11_caustic 2 (Option.some FieldType.int) 1 := CIv_of q3_97 q3_98 q3_99 q1_1 q3_100 ⟨by decide +kernel, by decide +kernel, by decide +kernel⟩
theorem ci_L_69 : CIv RL 69 yX11_order cX11_order 2 (Option.some FieldType.int) 1 := CIv_of q3_105 q3_106 q3_107 q1_1 q3_108 ⟨by decide +kernel, by decide +kernel, by decide +kernel⟩
theorem ci_L_72 : CIv RL 72 yX11_turns cX11_turns 2 (Option.some FieldType.int) 1 := CIv_of q3_112 q3_113 q3_114 q1_1 q3_115 ⟨by decide +kernel, by decide +kernel, by decide +kernel⟩
theorem ci_L_75 : CIv RL 75 yX11_aim cX11_aim 5 (Option.some FieldType.int) 3 := CIv_of q3_117 q3_118 q3_119 q1_1 q3_120 ⟨by decide +kernel, by decide +kernel, by decide +kernel⟩
theorem ci_L_79 : CIv RL 79 yX11_widest cX11_widest 2 (Option.some FieldType.int) 1 := CIv_of q3_129 q3_130 q3_131 q1_1 q3_132 ⟨by decide +kernel, by decide +kernel, by decide +kernel⟩
theorem ci_L_82 : CIv RL 82 yX11_type cX11_type 2 (Option.some FieldType.int) 1 := CIv_of q3_133 q3_134 q3_135 q1_1 q3_136 ⟨by decide +kernel, by decide +kernel, by decide +kernel⟩
theorem ci_L_87 : CIv RL 87 yX11_rays cX11_rays 1 (Option.some FieldType.int) 0 := CIv_of q2_194 q2_195 q2_196 q1_1 q2_197 ⟨by decide +kernel, by decide +kernel, by decide +kernel⟩
theorem ci_L_90 : CIv RL 90 yX11_mean cX11_mean 1 (Option.some FieldType.float) 0 := CIv_of q2_222 q2_223 q2_224 q1_1 q2_225 ⟨by decide +kernel, by decide +kernel, by decide +kernel⟩
theorem ci_L_96 : CIi RL 96 yX11_init cX11_init 1 0 := ⟨gi_of (List.forall_mem_cons.mpr ⟨q1_20, fm_n⟩), q1_1, q1_18, q1_19, rfl, ⟨by decide +kernel, by decide +kernel, by decide +kernel⟩⟩
theorem ci_L_97 : CIv RL 97 yX11_coverage cX11_coverage 1 (Option.some FieldType.int) 0 := CIv_of q2_198 q2_199 q2_200 q1_1 q2_201 ⟨by decide +kernel, by decide +kernel, by decide +kernel⟩
theorem ci_L_100 : CIv RL 100 yX11_gap cX11_gap 1 (Option.some FieldType.int) 0 := CIv_of q2_202 q2_203 q2_204 q1_1 q2_205 ⟨by decide +kernel, by decide +kernel, by decide +kernel⟩
theorem ci_L_103 : CIs RL 103 yL_up cL_up 2 (Option.some FieldType.int) 2 := CIs_of q3_60 q3_61 q1_0 q3_62 ⟨by decide +kernel, by decide +kernel, by decide +kernel⟩
theorem ci_L_106 : CIv RL 106 yX11_undo cX11_undo 1 (Option.some FieldType.int) 0 := CIv_of q3_11 q3_12 q3_13 q1_1 q3_14 ⟨by decide +kernel, by decide +kernel, by decide +kernel⟩
theorem ci_L_109 : CIs RL 109 yL_fails cL_fails 4 (Option.some FieldType.boolean) 1 := CIs_of q3_64 q3_65 q1_0 q3_66 ⟨by decide +kernel, by decide +kernel, by decide +kernel⟩
theorem ci_L_113 : CIs RL 113 yL_cell cL_cell 2 (Option.some FieldType.int) 2 := CIs_of q3_56 q3_57 q1_0 q3_58 ⟨by decide +kernel, by decide +kernel, by decide +kernel⟩
theorem ci_L_117 : CIs RL 117 yL_step cL_step 2 (Option.some FieldType.int) 1 := CIs_of q3_155 q3_156 q1_0 q3_157 ⟨by decide +kernel, by decide +kernel, by decide +kernel⟩
theorem ci_L_121 : CIs RL 121 yL_hits cL_hits 21 (Option.some FieldType.boolean) 4 := CIs_of q3_141 q3_142 q1_0 q3_143 ⟨by decide +kernel, by decide +kernel, by decide +kernel⟩
theorem ci_L_124 : CIs RL 124 yL_heard cL_heard 8 (Option.some FieldType.boolean) 2 := CIs_of q3_145 q3_146 q1_0 q3_147 ⟨by decide +kernel, by decide +kernel, by decide +kernel⟩
theorem ci_L_127 : CIs RL 127 yL_chords cL_chords 5 (Option.some FieldType.boolean) 2 := CIs_of q3_149 q3_150 q1_0 q3_151 ⟨by decide +kernel, by decide +kernel, by decide +kernel⟩
theorem ci_L_130 : CIs RL 130 yL_aims cL_aims 6 (Option.some FieldType.boolean) 3 := CIs_of q3_152 q3_153 q1_0 q3_154 ⟨by decide +kernel, by decide +kernel, by decide +kernel⟩
def FLk (own : String) (idx ci k : Nat) (C : String) (T : u_T) (N : Nat) : Prop := (∀ w ∈ u_ws C T N, w ∈ lw_all) ∧ vwCl[ci]? = some (C, T, N) ∧ k < N ∧ (Cond.fieldLink own idx (T k).1 (T k).2.1 (T k).2.2.1 ∈ lw_all ∨ ∃ host, Cond.fieldLinkNest own idx (T k).1 (T k).2.1 (T k).2.2.1 host ∈ nestW)
def PFk (own : String) (idx ci k : Nat) (C : String) (T : u_T) (N : Nat) (ty : FieldType) (fin : Bool) : Prop := FLk own idx ci k C T N ∧ (∃ ty0 : Nat → FieldType, ∀ k, k < N → parseFieldDescriptor (T k).2.2.1 = some (ty0 k)) ∧ (∀ a, a < N → ∀ b, b < N → a ≠ b → (T a).2.1 ≠ (T b).2.1) ∧ (T k).2.2.2 = fin ∧ parseFieldDescriptor (T k).2.2.1 = some ty ∧ (fin = true → (T k).1 = own)
theorem fl_X4_9 : FLk RX4 9 3 0 RX4 TX4 2 := ⟨inX4, rfl, by decide, Or.inl q1_36⟩
theorem pf_X4_9 : PFk RX4 9 3 0 RX4 TX4 2 (.array .int) true := ⟨fl_X4_9, ⟨tyX4, tyX4_ok⟩, nmX4, rfl, by decide +kernel, fun _ => by decide +kernel⟩
theorem fl_X11_48 : FLk RX11 48 3 1 RX4 TX4 2 := ⟨inX4, rfl, by decide, Or.inr ⟨_, q1_37⟩⟩
theorem pf_X11_48 : PFk RX11 48 3 1 RX4 TX4 2 .int false := ⟨fl_X11_48, ⟨tyX4, tyX4_ok⟩, nmX4, rfl, by decide +kernel, fun h => absurd h (by decide)⟩
theorem fl_X8_124 : FLk RX8 124 3 1 RX4 TX4 2 := ⟨inX4, rfl, by decide, Or.inr ⟨_, q1_38⟩⟩
theorem pf_X8_124 : PFk RX8 124 3 1 RX4 TX4 2 .int false := ⟨fl_X8_124, ⟨tyX4, tyX4_ok⟩, nmX4, rfl, by decide +kernel, fun h => absurd h (by decide)⟩
theorem fl_X4_41 : FLk RX4 41 3 1 RX4 TX4 2 := ⟨inX4, rfl, by decide, Or.inl q1_39⟩
theorem pf_X4_41 : PFk RX4 41 3 1 RX4 TX4 2 .int false := ⟨fl_X4_41, ⟨tyX4, tyX4_ok⟩, nmX4, rfl, by decide +kernel, fun h => absurd h (by decide)⟩
theorem fl_X10_10 : FLk RX10 10 9 0 RX10 TX10 3 := ⟨inX10, rfl, by decide, Or.inl q1_46⟩
theorem pf_X10_10 : PFk RX10 10 9 0 RX10 TX10 3 (.object "GalleryRays$Parts") true := ⟨fl_X10_10, ⟨tyX10, tyX10_ok⟩, nmX10, rfl, by decide +kernel, fun _ => by decide +kernel⟩
theorem fl_X11_44 : FLk RX11 44 9 0 RX10 TX10 3 := ⟨inX10, rfl, by decide, Or.inr ⟨_, q1_47⟩⟩
theorem fl_X8_120 : FLk RX8 120 9 0 RX10 TX10 3 := ⟨inX10, rfl, by decide, Or.inr ⟨_, q1_48⟩⟩
theorem fl_X10_16 : FLk RX10 16 9 1 RX10 TX10 3 := ⟨inX10, rfl, by decide, Or.inl q1_49⟩
theorem pf_X10_16 : PFk RX10 16 9 1 RX10 TX10 3 .int false := ⟨fl_X10_16, ⟨tyX10, tyX10_ok⟩, nmX10, rfl, by decide +kernel, fun h => absurd h (by decide)⟩
theorem fl_X8_112 : FLk RX8 112 9 1 RX10 TX10 3 := ⟨inX10, rfl, by decide, Or.inr ⟨_, q1_50⟩⟩
theorem pf_X8_112 : PFk RX8 112 9 1 RX10 TX10 3 .int false := ⟨fl_X8_112, ⟨tyX10, tyX10_ok⟩, nmX10, rfl, by decide +kernel, fun h => absurd h (by decide)⟩
theorem fl_X11_73 : FLk RX11 73 9 1 RX10 TX10 3 := ⟨inX10, rfl, by decide, Or.inr ⟨_, q1_51⟩⟩
theorem pf_X11_73 : PFk RX11 73 9 1 RX10 TX10 3 .int false := ⟨fl_X11_73, ⟨tyX10, tyX10_ok⟩, nmX10, rfl, by decide +kernel, fun h => absurd h (by decide)⟩
theorem fl_X10_20 : FLk RX10 20 9 2 RX10 TX10 3 := ⟨inX10, rfl, by decide, Or.inl q1_52⟩
theorem pf_X10_20 : PFk RX10 20 9 2 RX10 TX10 3 .int false := ⟨fl_X10_20, ⟨tyX10, tyX10_ok⟩, nmX10, rfl, by decide +kernel, fun h => absurd h (by decide)⟩
theorem fl_X8_140 : FLk RX8 140 9 2 RX10 TX10 3 := ⟨inX10, rfl, by decide, Or.inr ⟨_, q1_53⟩⟩
theorem pf_X8_140 : PFk RX8 140 9 2 RX10 TX10 3 .int false := ⟨fl_X8_140, ⟨tyX10, tyX10_ok⟩, nmX10, rfl, by decide +kernel, fun h => absurd h (by decide)⟩
theorem fl_X11_77 : FLk RX11 77 9 2 RX10 TX10 3 := ⟨inX10, rfl, by decide, Or.inr ⟨_, q1_54⟩⟩
theorem pf_X11_77 : PFk RX11 77 9 2 RX10 TX10 3 .int false := ⟨fl_X11_77, ⟨tyX10, tyX10_ok⟩, nmX10, rfl, by decide +kernel, fun h => absurd h (by decide)⟩
theorem fl_X2_11 : FLk RX2 11 1 0 RX2 TX2 2 := ⟨inX2, rfl, by decide, Or.inl q1_71⟩
theorem pf_X2_11 : PFk RX2 11 1 0 RX2 TX2 2 (.array (.object "GalleryRays$Wall")) true := ⟨fl_X2_11, ⟨tyX2, tyX2_ok⟩, nmX2, rfl, by decide +kernel, fun _ => by decide +kernel⟩
theorem fl_X2_18 : FLk RX2 18 1 1 RX2 TX2 2 := ⟨inX2, rfl, by decide, Or.inl q1_72⟩
theorem pf_X2_18 : PFk RX2 18 1 1 RX2 TX2 2 .int false := ⟨fl_X2_18, ⟨tyX2, tyX2_ok⟩, nmX2, rfl, by decide +kernel, fun h => absurd h (by decide)⟩
theorem fl_X11_174 : FLk RX11 174 1 1 RX2 TX2 2 := ⟨inX2, rfl, by decide, Or.inr ⟨_, q1_73⟩⟩
theorem pf_X11_174 : PFk RX11 174 1 1 RX2 TX2 2 .int false := ⟨fl_X11_174, ⟨tyX2, tyX2_ok⟩, nmX2, rfl, by decide +kernel, fun h => absurd h (by decide)⟩
theorem fl_X9_9 : FLk RX9 9 8 0 RX9 TX9 6 := ⟨inX9, rfl, by decide, Or.inl q1_87⟩
theorem pf_X9_9 : PFk RX9 9 8 0 RX9 TX9 6 (.array .char) true := ⟨fl_X9_9, ⟨tyX9, tyX9_ok⟩, nmX9, rfl, by decide +kernel, fun _ => by decide +kernel⟩
theorem fl_X9_18 : FLk RX9 18 8 1 RX9 TX9 6 := ⟨inX9, rfl, by decide, Or.inl q1_88⟩
theorem pf_X9_18 : PFk RX9 18 8 1 RX9 TX9 6 (.object "GalleryRays$Parts") true := ⟨fl_X9_18, ⟨tyX9, tyX9_ok⟩, nmX9, rfl, by decide +kernel, fun _ => by decide +kernel⟩
theorem fl_X9_22 : FLk RX9 22 8 2 RX9 TX9 6 := ⟨inX9, rfl, by decide, Or.inl q1_89⟩
theorem pf_X9_22 : PFk RX9 22 8 2 RX9 TX9 6 .int false := ⟨fl_X9_22, ⟨tyX9, tyX9_ok⟩, nmX9, rfl, by decide +kernel, fun h => absurd h (by decide)⟩
theorem fl_X11_80 : FLk RX11 80 8 2 RX9 TX9 6 := ⟨inX9, rfl, by decide, Or.inr ⟨_, q1_90⟩⟩
theorem pf_X11_80 : PFk RX11 80 8 2 RX9 TX9 6 .int false := ⟨fl_X11_80, ⟨tyX9, tyX9_ok⟩, nmX9, rfl, by decide +kernel, fun h => absurd h (by decide)⟩
theorem fl_X3_9 : FLk RX3 9 2 0 RX3 TX3 5 := ⟨inX3, rfl, by decide, Or.inl q1_119⟩
theorem pf_X3_9 : PFk RX3 9 2 0 RX3 TX3 5 (.array .long) true := ⟨fl_X3_9, ⟨tyX3, tyX3_ok⟩, nmX3, rfl, by decide +kernel, fun _ => by decide +kernel⟩
theorem fl_X3_15 : FLk RX3 15 2 1 RX3 TX3 5 := ⟨inX3, rfl, by decide, Or.inl q1_120⟩
theorem pf_X3_15 : PFk RX3 15 2 1 RX3 TX3 5 (.array .int) true := ⟨fl_X3_15, ⟨tyX3, tyX3_ok⟩, nmX3, rfl, by decide +kernel, fun _ => by decide +kernel⟩
theorem fl_X3_19 : FLk RX3 19 2 2 RX3 TX3 5 := ⟨inX3, rfl, by decide, Or.inl q1_121⟩
theorem pf_X3_19 : PFk RX3 19 2 2 RX3 TX3 5 .int false := ⟨fl_X3_19, ⟨tyX3, tyX3_ok⟩, nmX3, rfl, by decide +kernel, fun h => absurd h (by decide)⟩
theorem fl_X11_113 : FLk RX11 113 2 2 RX3 TX3 5 := ⟨inX3, rfl, by decide, Or.inr ⟨_, q1_122⟩⟩
theorem pf_X11_113 : PFk RX11 113 2 2 RX3 TX3 5 .int false := ⟨fl_X11_113, ⟨tyX3, tyX3_ok⟩, nmX3, rfl, by decide +kernel, fun h => absurd h (by decide)⟩
theorem fl_X3_23 : FLk RX3 23 2 3 RX3 TX3 5 := ⟨inX3, rfl, by decide, Or.inl q1_123⟩
theorem pf_X3_23 : PFk RX3 23 2 3 RX3 TX3 5 .int false := ⟨fl_X3_23, ⟨tyX3, tyX3_ok⟩, nmX3, rfl, by decide +kernel, fun h => absurd h (by decide)⟩
theorem fl_X3_26 : FLk RX3 26 2 4 RX3 TX3 5 := ⟨inX3, rfl, by decide, Or.inl q1_124⟩
theorem pf_X3_26 : PFk RX3 26 2 4 RX3 TX3 5 .long false := ⟨fl_X3_26, ⟨tyX3, tyX3_ok⟩, nmX3, rfl, by decide +kernel, fun h => absurd h (by decide)⟩
theorem fl_X6_9 : FLk RX6 9 5 0 RX6 TX6 2 := ⟨inX6, rfl, by decide, Or.inl q1_143⟩
theorem pf_X6_9 : PFk RX6 9 5 0 RX6 TX6 2 (.array .long) true := ⟨fl_X6_9, ⟨tyX6, tyX6_ok⟩, nmX6, rfl, by decide +kernel, fun _ => by decide +kernel⟩
theorem fl_X6_15 : FLk RX6 15 5 1 RX6 TX6 2 := ⟨inX6, rfl, by decide, Or.inl q1_144⟩
theorem pf_X6_15 : PFk RX6 15 5 1 RX6 TX6 2 .int false := ⟨fl_X6_15, ⟨tyX6, tyX6_ok⟩, nmX6, rfl, by decide +kernel, fun h => absurd h (by decide)⟩
theorem fl_X11_126 : FLk RX11 126 5 1 RX6 TX6 2 := ⟨inX6, rfl, by decide, Or.inr ⟨_, q1_145⟩⟩
theorem pf_X11_126 : PFk RX11 126 5 1 RX6 TX6 2 .int false := ⟨fl_X11_126, ⟨tyX6, tyX6_ok⟩, nmX6, rfl, by decide +kernel, fun h => absurd h (by decide)⟩
theorem fl_X1_9 : FLk RX1 9 0 0 RX1 TX1 1 := ⟨inX1, rfl, by decide, Or.inl q1_162⟩
theorem pf_X1_9 : PFk RX1 9 0 0 RX1 TX1 1 (.array .long) true := ⟨fl_X1_9, ⟨tyX1, tyX1_ok⟩, nmX1, rfl, by decide +kernel, fun _ => by decide +kernel⟩
theorem fl_X5_9 : FLk RX5 9 4 0 RX5 TX5 2 := ⟨inX5, rfl, by decide, Or.inl q1_172⟩
theorem pf_X5_9 : PFk RX5 9 4 0 RX5 TX5 2 (.array .int) true := ⟨fl_X5_9, ⟨tyX5, tyX5_ok⟩, nmX5, rfl, by decide +kernel, fun _ => by decide +kernel⟩
theorem fl_X5_15 : FLk RX5 15 4 1 RX5 TX5 2 := ⟨inX5, rfl, by decide, Or.inl q1_173⟩
theorem pf_X5_15 : PFk RX5 15 4 1 RX5 TX5 2 .int false := ⟨fl_X5_15, ⟨tyX5, tyX5_ok⟩, nmX5, rfl, by decide +kernel, fun h => absurd h (by decide)⟩
theorem fl_X7_7 : FLk RX7 7 6 0 RX7 TX7 6 := ⟨inX7, rfl, by decide, Or.inl q1_184⟩
theorem pf_X7_7 : PFk RX7 7 6 0 RX7 TX7 6 .int true := ⟨fl_X7_7, ⟨tyX7, tyX7_ok⟩, nmX7, rfl, by decide +kernel, fun _ => by decide +kernel⟩
theorem fl_X3_30 : FLk RX3 30 6 0 RX7 TX7 6 := ⟨inX7, rfl, by decide, Or.inr ⟨_, q1_185⟩⟩
theorem fl_X8_106 : FLk RX8 106 6 0 RX7 TX7 6 := ⟨inX7, rfl, by decide, Or.inr ⟨_, q1_186⟩⟩
theorem fl_X7_13 : FLk RX7 13 6 1 RX7 TX7 6 := ⟨inX7, rfl, by decide, Or.inl q1_187⟩
theorem pf_X7_13 : PFk RX7 13 6 1 RX7 TX7 6 .int false := ⟨fl_X7_13, ⟨tyX7, tyX7_ok⟩, nmX7, rfl, by decide +kernel, fun h => absurd h (by decide)⟩
theorem fl_X3_35 : FLk RX3 35 6 1 RX7 TX7 6 := ⟨inX7, rfl, by decide, Or.inr ⟨_, q1_188⟩⟩
theorem pf_X3_35 : PFk RX3 35 6 1 RX7 TX7 6 .int false := ⟨fl_X3_35, ⟨tyX7, tyX7_ok⟩, nmX7, rfl, by decide +kernel, fun h => absurd h (by decide)⟩
theorem fl_X8_89 : FLk RX8 89 6 1 RX7 TX7 6 := ⟨inX7, rfl, by decide, Or.inr ⟨_, q1_189⟩⟩
theorem pf_X8_89 : PFk RX8 89 6 1 RX7 TX7 6 .int false := ⟨fl_X8_89, ⟨tyX7, tyX7_ok⟩, nmX7, rfl, by decide +kernel, fun h => absurd h (by decide)⟩
theorem fl_X7_16 : FLk RX7 16 6 2 RX7 TX7 6 := ⟨inX7, rfl, by decide, Or.inl q1_190⟩
theorem pf_X7_16 : PFk RX7 16 6 2 RX7 TX7 6 .int false := ⟨fl_X7_16, ⟨tyX7, tyX7_ok⟩, nmX7, rfl, by decide +kernel, fun h => absurd h (by decide)⟩
theorem fl_X3_44 : FLk RX3 44 6 2 RX7 TX7 6 := ⟨inX7, rfl, by decide, Or.inr ⟨_, q1_191⟩⟩
theorem pf_X3_44 : PFk RX3 44 6 2 RX7 TX7 6 .int false := ⟨fl_X3_44, ⟨tyX7, tyX7_ok⟩, nmX7, rfl, by decide +kernel, fun h => absurd h (by decide)⟩
theorem fl_X8_92 : FLk RX8 92 6 2 RX7 TX7 6 := ⟨inX7, rfl, by decide, Or.inr ⟨_, q1_192⟩⟩
theorem pf_X8_92 : PFk RX8 92 6 2 RX7 TX7 6 .int false := ⟨fl_X8_92, ⟨tyX7, tyX7_ok⟩, nmX7, rfl, by decide +kernel, fun h => absurd h (by decide)⟩
theorem fl_X7_19 : FLk RX7 19 6 3 RX7 TX7 6 := ⟨inX7, rfl, by decide, Or.inl q1_193⟩
theorem pf_X7_19 : PFk RX7 19 6 3 RX7 TX7 6 .int false := ⟨fl_X7_19, ⟨tyX7, tyX7_ok⟩, nmX7, rfl, by decide +kernel, fun h => absurd h (by decide)⟩
theorem fl_X1_26 : FLk RX1 26 6 3 RX7 TX7 6 := ⟨inX7, rfl, by decide, Or.inr ⟨_, q1_194⟩⟩
theorem pf_X1_26 : PFk RX1 26 6 3 RX7 TX7 6 .int false := ⟨fl_X1_26, ⟨tyX7, tyX7_ok⟩, nmX7, rfl, by decide +kernel, fun h => absurd h (by decide)⟩
theorem fl_X3_41 : FLk RX3 41 6 3 RX7 TX7 6 := ⟨inX7, rfl, by decide, Or.inr ⟨_, q1_195⟩⟩
theorem pf_X3_41 : PFk RX3 41 6 3 RX7 TX7 6 .int false := ⟨fl_X3_41, ⟨tyX7, tyX7_ok⟩, nmX7, rfl, by decide +kernel, fun h => absurd h (by decide)⟩
theorem fl_X8_137 : FLk RX8 137 6 3 RX7 TX7 6 := ⟨inX7, rfl, by decide, Or.inr ⟨_, q1_196⟩⟩
theorem pf_X8_137 : PFk RX8 137 6 3 RX7 TX7 6 .int false := ⟨fl_X8_137, ⟨tyX7, tyX7_ok⟩, nmX7, rfl, by decide +kernel, fun h => absurd h (by decide)⟩
theorem fl_X7_22 : FLk RX7 22 6 4 RX7 TX7 6 := ⟨inX7, rfl, by decide, Or.inl q1_197⟩
theorem pf_X7_22 : PFk RX7 22 6 4 RX7 TX7 6 .long false := ⟨fl_X7_22, ⟨tyX7, tyX7_ok⟩, nmX7, rfl, by decide +kernel, fun h => absurd h (by decide)⟩
theorem fl_X1_20 : FLk RX1 20 6 4 RX7 TX7 6 := ⟨inX7, rfl, by decide, Or.inr ⟨_, q1_198⟩⟩
theorem pf_X1_20 : PFk RX1 20 6 4 RX7 TX7 6 .long false := ⟨fl_X1_20, ⟨tyX7, tyX7_ok⟩, nmX7, rfl, by decide +kernel, fun h => absurd h (by decide)⟩
theorem fl_X3_38 : FLk RX3 38 6 4 RX7 TX7 6 := ⟨inX7, rfl, by decide, Or.inr ⟨_, q1_199⟩⟩
theorem pf_X3_38 : PFk RX3 38 6 4 RX7 TX7 6 .long false := ⟨fl_X3_38, ⟨tyX7, tyX7_ok⟩, nmX7, rfl, by decide +kernel, fun h => absurd h (by decide)⟩
theorem fl_X8_85 : FLk RX8 85 6 4 RX7 TX7 6 := ⟨inX7, rfl, by decide, Or.inr ⟨_, q1_200⟩⟩
theorem pf_X8_85 : PFk RX8 85 6 4 RX7 TX7 6 .long false := ⟨fl_X8_85, ⟨tyX7, tyX7_ok⟩, nmX7, rfl, by decide +kernel, fun h => absurd h (by decide)⟩
theorem fl_X7_26 : FLk RX7 26 6 5 RX7 TX7 6 := ⟨inX7, rfl, by decide, Or.inl q1_201⟩
theorem pf_X7_26 : PFk RX7 26 6 5 RX7 TX7 6 .boolean false := ⟨fl_X7_26, ⟨tyX7, tyX7_ok⟩, nmX7, rfl, by decide +kernel, fun h => absurd h (by decide)⟩
theorem fl_X8_81 : FLk RX8 81 6 5 RX7 TX7 6 := ⟨inX7, rfl, by decide, Or.inr ⟨_, q1_202⟩⟩
theorem pf_X8_81 : PFk RX8 81 6 5 RX7 TX7 6 .boolean false := ⟨fl_X8_81, ⟨tyX7, tyX7_ok⟩, nmX7, rfl, by decide +kernel, fun h => absurd h (by decide)⟩
theorem fl_X8_11 : FLk RX8 11 7 0 RX8 TX8 6 := ⟨inX8, rfl, by decide, Or.inl q1_216⟩
theorem pf_X8_11 : PFk RX8 11 7 0 RX8 TX8 6 (.array (.object "GalleryRays$Ray")) true := ⟨fl_X8_11, ⟨tyX8, tyX8_ok⟩, nmX8, rfl, by decide +kernel, fun _ => by decide +kernel⟩
theorem fl_X8_20 : FLk RX8 20 7 1 RX8 TX8 6 := ⟨inX8, rfl, by decide, Or.inl q1_217⟩
theorem pf_X8_20 : PFk RX8 20 7 1 RX8 TX8 6 (.object "GalleryRays$HitLog") true := ⟨fl_X8_20, ⟨tyX8, tyX8_ok⟩, nmX8, rfl, by decide +kernel, fun _ => by decide +kernel⟩
theorem fl_X11_109 : FLk RX11 109 7 1 RX8 TX8 6 := ⟨inX8, rfl, by decide, Or.inr ⟨_, q1_218⟩⟩
theorem fl_X8_27 : FLk RX8 27 7 2 RX8 TX8 6 := ⟨inX8, rfl, by decide, Or.inl q1_219⟩
theorem pf_X8_27 : PFk RX8 27 7 2 RX8 TX8 6 (.object "GalleryRays$PlaceMarks") true := ⟨fl_X8_27, ⟨tyX8, tyX8_ok⟩, nmX8, rfl, by decide +kernel, fun _ => by decide +kernel⟩
theorem fl_X11_122 : FLk RX11 122 7 2 RX8 TX8 6 := ⟨inX8, rfl, by decide, Or.inr ⟨_, q1_220⟩⟩
theorem fl_X8_34 : FLk RX8 34 7 3 RX8 TX8 6 := ⟨inX8, rfl, by decide, Or.inl q1_221⟩
theorem pf_X8_34 : PFk RX8 34 7 3 RX8 TX8 6 (.object "GalleryRays$Ears") true := ⟨fl_X8_34, ⟨tyX8, tyX8_ok⟩, nmX8, rfl, by decide +kernel, fun _ => by decide +kernel⟩
theorem fl_X11_132 : FLk RX11 132 7 3 RX8 TX8 6 := ⟨inX8, rfl, by decide, Or.inr ⟨_, q1_222⟩⟩
theorem fl_X8_41 : FLk RX8 41 7 4 RX8 TX8 6 := ⟨inX8, rfl, by decide, Or.inl q1_223⟩
theorem pf_X8_41 : PFk RX8 41 7 4 RX8 TX8 6 (.object "GalleryRays$Path") true := ⟨fl_X8_41, ⟨tyX8, tyX8_ok⟩, nmX8, rfl, by decide +kernel, fun _ => by decide +kernel⟩
theorem fl_X11_147 : FLk RX11 147 7 4 RX8 TX8 6 := ⟨inX8, rfl, by decide, Or.inr ⟨_, q1_224⟩⟩
theorem fl_X8_56 : FLk RX8 56 7 5 RX8 TX8 6 := ⟨inX8, rfl, by decide, Or.inl q1_225⟩
theorem pf_X8_56 : PFk RX8 56 7 5 RX8 TX8 6 .int false := ⟨fl_X8_56, ⟨tyX8, tyX8_ok⟩, nmX8, rfl, by decide +kernel, fun h => absurd h (by decide)⟩
theorem fl_X11_119 : FLk RX11 119 7 5 RX8 TX8 6 := ⟨inX8, rfl, by decide, Or.inr ⟨_, q1_226⟩⟩
theorem pf_X11_119 : PFk RX11 119 7 5 RX8 TX8 6 .int false := ⟨fl_X11_119, ⟨tyX8, tyX8_ok⟩, nmX8, rfl, by decide +kernel, fun h => absurd h (by decide)⟩
theorem fl_X11_10 : FLk RX11 10 10 0 RX11 TX11 4 := ⟨inX11, rfl, by decide, Or.inl q2_0⟩
theorem pf_X11_10 : PFk RX11 10 10 0 RX11 TX11 4 (.object "GalleryRays$Wall") true := ⟨fl_X11_10, ⟨tyX11, tyX11_ok⟩, nmX11, rfl, by decide +kernel, fun _ => by decide +kernel⟩
theorem fl_X11_19 : FLk RX11 19 10 1 RX11 TX11 4 := ⟨inX11, rfl, by decide, Or.inl q2_1⟩
theorem pf_X11_19 : PFk RX11 19 10 1 RX11 TX11 4 (.object "GalleryRays$History") true := ⟨fl_X11_19, ⟨tyX11, tyX11_ok⟩, nmX11, rfl, by decide +kernel, fun _ => by decide +kernel⟩
theorem fl_X11_26 : FLk RX11 26 10 2 RX11 TX11 4 := ⟨inX11, rfl, by decide, Or.inl q2_2⟩
theorem pf_X11_26 : PFk RX11 26 10 2 RX11 TX11 4 (.object "GalleryRays$Text") true := ⟨fl_X11_26, ⟨tyX11, tyX11_ok⟩, nmX11, rfl, by decide +kernel, fun _ => by decide +kernel⟩
theorem fl_X11_33 : FLk RX11 33 10 3 RX11 TX11 4 := ⟨inX11, rfl, by decide, Or.inl q2_3⟩
theorem pf_X11_33 : PFk RX11 33 10 3 RX11 TX11 4 (.object "GalleryRays$Shot") true := ⟨fl_X11_33, ⟨tyX11, tyX11_ok⟩, nmX11, rfl, by decide +kernel, fun _ => by decide +kernel⟩
