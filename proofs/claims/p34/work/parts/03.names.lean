def RX0 : String := "EchoGauge$1"
def TX0 : u_T := fun k => match k with
  | _ => ("", "", "", false)
def tyX0 : Nat → FieldType := fun k => match k with
  | _ => .int
abbrev wsX00 : List Cond := u_ws RX0 TX0 0
theorem nmX0 : ∀ a, a < 0 → ∀ b, b < 0 → a ≠ b → (TX0 a).2.1 ≠ (TX0 b).2.1 := by decide +kernel
theorem tyX0_ok : ∀ k, k < 0 → parseFieldDescriptor (TX0 k).2.2.1 = some (tyX0 k) := by decide +kernel
def RX1 : String := "EchoGauge$CommandText"
def TX1 : u_T := fun k => match k with
  | 0 => ("EchoGauge$CommandText", "length", "I", false)
  | 1 => ("EchoGauge$CommandText", "bytes", "[B", true)
  | 2 => ("EchoGauge$CommandText", "position", "I", false)
  | 3 => ("EchoGauge$CommandText", "word", "LEchoGauge$Word;", false)
  | _ => ("EchoGauge$CommandText", "numbers", "[I", true)
def tyX1 : Nat → FieldType := fun k => match k with
  | 0 => .int
  | 1 => .array .byte
  | 2 => .int
  | 3 => .object "EchoGauge$Word"
  | _ => .array .int
abbrev wsX10 : List Cond := u_ws RX1 TX1 5
theorem nmX1 : ∀ a, a < 5 → ∀ b, b < 5 → a ≠ b → (TX1 a).2.1 ≠ (TX1 b).2.1 := by decide +kernel
theorem tyX1_ok : ∀ k, k < 5 → parseFieldDescriptor (TX1 k).2.2.1 = some (tyX1 k) := by decide +kernel
abbrev cX1_init : ByteArray := prog_3_method_1_code
def yX1_init : MethodName := ⟨RX1, "<init>", "()V"⟩
def RX2 : String := "EchoGauge$Distances"
def TX2 : u_T := fun k => match k with
  | 0 => ("EchoGauge$Distances", "count", "I", false)
  | _ => ("EchoGauge$Distances", "row", "[I", true)
def tyX2 : Nat → FieldType := fun k => match k with
  | 0 => .int
  | _ => .array .int
abbrev wsX20 : List Cond := u_ws RX2 TX2 2
theorem nmX2 : ∀ a, a < 2 → ∀ b, b < 2 → a ≠ b → (TX2 a).2.1 ≠ (TX2 b).2.1 := by decide +kernel
theorem tyX2_ok : ∀ k, k < 2 → parseFieldDescriptor (TX2 k).2.2.1 = some (tyX2 k) := by decide +kernel
abbrev cX2_init : ByteArray := prog_4_method_1_code
def yX2_init : MethodName := ⟨RX2, "<init>", "()V"⟩
abbrev cX2_reset : ByteArray := prog_4_method_2_code
def yX2_reset : MethodName := ⟨RX2, "reset", "()V"⟩
abbrev cX2_copyFrom : ByteArray := prog_4_method_3_code
def yX2_copyFrom : MethodName := ⟨RX2, "copyFrom", "(LEchoGauge$Distances;)V"⟩
abbrev cX2_takeCandidates : ByteArray := prog_4_method_4_code
def yX2_takeCandidates : MethodName := ⟨RX2, "takeCandidates", "(LEchoGauge$Echoes;)V"⟩
abbrev cX2_hasNear : ByteArray := prog_4_method_5_code
def yX2_hasNear : MethodName := ⟨RX2, "hasNear", "(I)Z"⟩
def RX3 : String := "EchoGauge$Echoes"
def TX3 : u_T := fun k => match k with
  | 0 => ("EchoGauge$Echoes", "count", "I", false)
  | 1 => ("EchoGauge$Echoes", "kinds", "[I", true)
  | 2 => ("EchoGauge$Echoes", "distances", "[I", true)
  | 3 => ("EchoGauge$Echoes", "strengths", "[I", true)
  | _ => ("EchoGauge$Echoes", "marks", "[I", true)
def tyX3 : Nat → FieldType := fun k => match k with
  | 0 => .int
  | 1 => .array .int
  | 2 => .array .int
  | 3 => .array .int
  | _ => .array .int
abbrev wsX30 : List Cond := u_ws RX3 TX3 5
theorem nmX3 : ∀ a, a < 5 → ∀ b, b < 5 → a ≠ b → (TX3 a).2.1 ≠ (TX3 b).2.1 := by decide +kernel
theorem tyX3_ok : ∀ k, k < 5 → parseFieldDescriptor (TX3 k).2.2.1 = some (tyX3 k) := by decide +kernel
abbrev cX3_init : ByteArray := prog_5_method_1_code
def yX3_init : MethodName := ⟨RX3, "<init>", "()V"⟩
abbrev cX3_reset : ByteArray := prog_5_method_2_code
def yX3_reset : MethodName := ⟨RX3, "reset", "()V"⟩
abbrev cX3_copyFrom : ByteArray := prog_5_method_3_code
def yX3_copyFrom : MethodName := ⟨RX3, "copyFrom", "(LEchoGauge$Echoes;)V"⟩
abbrev cX3_has : ByteArray := prog_5_method_4_code
def yX3_has : MethodName := ⟨RX3, "has", "(I)Z"⟩
abbrev cX3_kind : ByteArray := prog_5_method_5_code
def yX3_kind : MethodName := ⟨RX3, "kind", "(I)I"⟩
abbrev cX3_distance : ByteArray := prog_5_method_6_code
def yX3_distance : MethodName := ⟨RX3, "distance", "(I)I"⟩
abbrev cX3_strength : ByteArray := prog_5_method_7_code
def yX3_strength : MethodName := ⟨RX3, "strength", "(I)I"⟩
abbrev cX3_isMarked : ByteArray := prog_5_method_8_code
def yX3_isMarked : MethodName := ⟨RX3, "isMarked", "(II)Z"⟩
abbrev cX3_mark : ByteArray := prog_5_method_9_code
def yX3_mark : MethodName := ⟨RX3, "mark", "(II)V"⟩
abbrev cX3_append : ByteArray := prog_5_method_10_code
def yX3_append : MethodName := ⟨RX3, "append", "(III)V"⟩
abbrev cX3_put : ByteArray := prog_5_method_11_code
def yX3_put : MethodName := ⟨RX3, "put", "(IIII)V"⟩
abbrev cX3_meetChance : ByteArray := prog_5_method_12_code
def yX3_meetChance : MethodName := ⟨RX3, "meetChance", "(LEchoGauge$Tank;II)V"⟩
abbrev cX3_insert : ByteArray := prog_5_method_13_code
def yX3_insert : MethodName := ⟨RX3, "insert", "(III)V"⟩
abbrev cX3_comesBefore : ByteArray := prog_5_method_14_code
def yX3_comesBefore : MethodName := ⟨RX3, "comesBefore", "(IIII)Z"⟩
abbrev cX3_bestOf : ByteArray := prog_5_method_15_code
def yX3_bestOf : MethodName := ⟨RX3, "bestOf", "(II)I"⟩
abbrev cX3_isBetter : ByteArray := prog_5_method_16_code
def yX3_isBetter : MethodName := ⟨RX3, "isBetter", "(IIII)Z"⟩
abbrev cX3_value : ByteArray := prog_5_method_17_code
def yX3_value : MethodName := ⟨RX3, "value", "(II)I"⟩
abbrev cX3_addToDigest : ByteArray := prog_5_method_18_code
def yX3_addToDigest : MethodName := ⟨RX3, "addToDigest", "(J)J"⟩
def RX4 : String := "EchoGauge$History"
def TX4 : u_T := fun k => match k with
  | 0 => ("EchoGauge$History", "picks", "[I", true)
  | 1 => ("EchoGauge$History", "count", "I", false)
  | 2 => ("EchoGauge$History", "told", "I", false)
  | 3 => ("EchoGauge$History", "misses", "I", false)
  | 4 => ("EchoGauge$History", "alarm", "I", false)
  | 5 => ("EchoGauge$History", "shots", "I", false)
  | 6 => ("EchoGauge$History", "pickedShots", "I", false)
  | 7 => ("EchoGauge$History", "drops", "I", false)
  | _ => ("EchoGauge$History", "alarms", "I", false)
def tyX4 : Nat → FieldType := fun k => match k with
  | 0 => .array .int
  | 1 => .int
  | 2 => .int
  | 3 => .int
  | 4 => .int
  | 5 => .int
  | 6 => .int
  | 7 => .int
  | _ => .int
abbrev wsX40 : List Cond := u_ws RX4 TX4 9
theorem nmX4 : ∀ a, a < 9 → ∀ b, b < 9 → a ≠ b → (TX4 a).2.1 ≠ (TX4 b).2.1 := by decide +kernel
theorem tyX4_ok : ∀ k, k < 9 → parseFieldDescriptor (TX4 k).2.2.1 = some (tyX4 k) := by decide +kernel
abbrev cX4_init : ByteArray := prog_6_method_1_code
def yX4_init : MethodName := ⟨RX4, "<init>", "()V"⟩
abbrev cX4_reset : ByteArray := prog_6_method_2_code
def yX4_reset : MethodName := ⟨RX4, "reset", "()V"⟩
abbrev cX4_copyFrom : ByteArray := prog_6_method_3_code
def yX4_copyFrom : MethodName := ⟨RX4, "copyFrom", "(LEchoGauge$History;)V"⟩
abbrev cX4_shorten : ByteArray := prog_6_method_4_code
def yX4_shorten : MethodName := ⟨RX4, "shorten", "(I)V"⟩
abbrev cX4_pickAt : ByteArray := prog_6_method_5_code
def yX4_pickAt : MethodName := ⟨RX4, "pickAt", "(I)I"⟩
abbrev cX4_pickCount : ByteArray := prog_6_method_6_code
def yX4_pickCount : MethodName := ⟨RX4, "pickCount", "()I"⟩
abbrev cX4_median : ByteArray := prog_6_method_8_code
def yX4_median : MethodName := ⟨RX4, "median", "(I)I"⟩
abbrev cX4_pickOfRank : ByteArray := prog_6_method_9_code
def yX4_pickOfRank : MethodName := ⟨RX4, "pickOfRank", "(I)I"⟩
abbrev cX4_picksBelow : ByteArray := prog_6_method_10_code
def yX4_picksBelow : MethodName := ⟨RX4, "picksBelow", "(I)I"⟩
abbrev cX4_toldLevel : ByteArray := prog_6_method_11_code
def yX4_toldLevel : MethodName := ⟨RX4, "toldLevel", "(I)I"⟩
abbrev cX4_enter : ByteArray := prog_6_method_12_code
def yX4_enter : MethodName := ⟨RX4, "enter", "(ILEchoGauge$Settings;I)V"⟩
abbrev cX4_push : ByteArray := prog_6_method_13_code
def yX4_push : MethodName := ⟨RX4, "push", "(II)V"⟩
abbrev cX4_follow : ByteArray := prog_6_method_14_code
def yX4_follow : MethodName := ⟨RX4, "follow", "(II)V"⟩
abbrev cX4_miss : ByteArray := prog_6_method_15_code
def yX4_miss : MethodName := ⟨RX4, "miss", "(I)V"⟩
abbrev cX4_judgeAlarm : ByteArray := prog_6_method_16_code
def yX4_judgeAlarm : MethodName := ⟨RX4, "judgeAlarm", "(ILEchoGauge$Settings;)V"⟩
def RX5 : String := "EchoGauge$Masks"
def TX5 : u_T := fun k => match k with
  | 0 => ("EchoGauge$Masks", "rows", "[J", true)
  | _ => ("EchoGauge$Masks", "count", "I", false)
def tyX5 : Nat → FieldType := fun k => match k with
  | 0 => .array .long
  | _ => .int
abbrev wsX50 : List Cond := u_ws RX5 TX5 2
theorem nmX5 : ∀ a, a < 2 → ∀ b, b < 2 → a ≠ b → (TX5 a).2.1 ≠ (TX5 b).2.1 := by decide +kernel
theorem tyX5_ok : ∀ k, k < 2 → parseFieldDescriptor (TX5 k).2.2.1 = some (tyX5 k) := by decide +kernel
abbrev cX5_init : ByteArray := prog_7_method_1_code
def yX5_init : MethodName := ⟨RX5, "<init>", "()V"⟩
abbrev cX5_reset : ByteArray := prog_7_method_2_code
def yX5_reset : MethodName := ⟨RX5, "reset", "()V"⟩
abbrev cX5_copyFrom : ByteArray := prog_7_method_3_code
def yX5_copyFrom : MethodName := ⟨RX5, "copyFrom", "(LEchoGauge$Masks;)V"⟩
abbrev cX5_covers : ByteArray := prog_7_method_4_code
def yX5_covers : MethodName := ⟨RX5, "covers", "(I)Z"⟩
abbrev cX5_hasBin : ByteArray := prog_7_method_5_code
def yX5_hasBin : MethodName := ⟨RX5, "hasBin", "(I)Z"⟩
abbrev cX5_put : ByteArray := prog_7_method_6_code
def yX5_put : MethodName := ⟨RX5, "put", "(IZ)V"⟩
abbrev cX5_bit : ByteArray := prog_7_method_7_code
def yX5_bit : MethodName := ⟨RX5, "bit", "(I)J"⟩
abbrev cX5_addToDigest : ByteArray := prog_7_method_8_code
def yX5_addToDigest : MethodName := ⟨RX5, "addToDigest", "(J)J"⟩
def RX6 : String := "EchoGauge$Settings"
def TX6 : u_T := fun k => match k with
  | _ => ("EchoGauge$Settings", "values", "[I", true)
def tyX6 : Nat → FieldType := fun k => match k with
  | _ => .array .int
abbrev wsX60 : List Cond := u_ws RX6 TX6 1
theorem nmX6 : ∀ a, a < 1 → ∀ b, b < 1 → a ≠ b → (TX6 a).2.1 ≠ (TX6 b).2.1 := by decide +kernel
theorem tyX6_ok : ∀ k, k < 1 → parseFieldDescriptor (TX6 k).2.2.1 = some (tyX6 k) := by decide +kernel
abbrev cX6_init : ByteArray := prog_8_method_1_code
def yX6_init : MethodName := ⟨RX6, "<init>", "()V"⟩
abbrev cX6_reset : ByteArray := prog_8_method_2_code
def yX6_reset : MethodName := ⟨RX6, "reset", "()V"⟩
abbrev cX6_copyFrom : ByteArray := prog_8_method_3_code
def yX6_copyFrom : MethodName := ⟨RX6, "copyFrom", "(LEchoGauge$Settings;)V"⟩
abbrev cX6_has : ByteArray := prog_8_method_4_code
def yX6_has : MethodName := ⟨RX6, "has", "(I)Z"⟩
abbrev cX6_allows : ByteArray := prog_8_method_5_code
def yX6_allows : MethodName := ⟨RX6, "allows", "(II)Z"⟩
abbrev cX6_value : ByteArray := prog_8_method_6_code
def yX6_value : MethodName := ⟨RX6, "value", "(I)I"⟩
abbrev cX6_put : ByteArray := prog_8_method_7_code
def yX6_put : MethodName := ⟨RX6, "put", "(II)V"⟩
abbrev cX6_needAt : ByteArray := prog_8_method_8_code
def yX6_needAt : MethodName := ⟨RX6, "needAt", "(I)I"⟩
def RX7 : String := "EchoGauge$State"
def TX7 : u_T := fun k => match k with
  | 0 => ("EchoGauge$State", "tank", "LEchoGauge$Tank;", true)
  | 1 => ("EchoGauge$State", "settings", "LEchoGauge$Settings;", true)
  | 2 => ("EchoGauge$State", "masks", "LEchoGauge$Masks;", true)
  | 3 => ("EchoGauge$State", "echoes", "LEchoGauge$Echoes;", true)
  | 4 => ("EchoGauge$State", "history", "LEchoGauge$History;", true)
  | 5 => ("EchoGauge$State", "latest", "LEchoGauge$Distances;", true)
  | _ => ("EchoGauge$State", "earlier", "LEchoGauge$Distances;", true)
def tyX7 : Nat → FieldType := fun k => match k with
  | 0 => .object "EchoGauge$Tank"
  | 1 => .object "EchoGauge$Settings"
  | 2 => .object "EchoGauge$Masks"
  | 3 => .object "EchoGauge$Echoes"
  | 4 => .object "EchoGauge$History"
  | 5 => .object "EchoGauge$Distances"
  | _ => .object "EchoGauge$Distances"
abbrev wsX70 : List Cond := u_ws RX7 TX7 7
theorem nmX7 : ∀ a, a < 7 → ∀ b, b < 7 → a ≠ b → (TX7 a).2.1 ≠ (TX7 b).2.1 := by decide +kernel
theorem tyX7_ok : ∀ k, k < 7 → parseFieldDescriptor (TX7 k).2.2.1 = some (tyX7 k) := by decide +kernel
abbrev cX7_init : ByteArray := prog_9_method_1_code
def yX7_init : MethodName := ⟨RX7, "<init>", "()V"⟩
abbrev cX7_copyFrom : ByteArray := prog_9_method_2_code
def yX7_copyFrom : MethodName := ⟨RX7, "copyFrom", "(LEchoGauge$State;)V"⟩
abbrev cX7_startAgain : ByteArray := prog_9_method_3_code
def yX7_startAgain : MethodName := ⟨RX7, "startAgain", "(I)V"⟩
abbrev cX7_change : ByteArray := prog_9_method_4_code
def yX7_change : MethodName := ⟨RX7, "change", "(II)V"⟩
abbrev cX7_takeShots : ByteArray := prog_9_method_5_code
def yX7_takeShots : MethodName := ⟨RX7, "takeShots", "(I)V"⟩
abbrev cX7_learnFalseEchoes : ByteArray := prog_9_method_6_code
def yX7_learnFalseEchoes : MethodName := ⟨RX7, "learnFalseEchoes", "(I)V"⟩
abbrev cX7_send : ByteArray := prog_9_method_7_code
def yX7_send : MethodName := ⟨RX7, "send", "()V"⟩
abbrev cX7_sendBlades : ByteArray := prog_9_method_8_code
def yX7_sendBlades : MethodName := ⟨RX7, "sendBlades", "(I)Z"⟩
abbrev cX7_findCandidates : ByteArray := prog_9_method_9_code
def yX7_findCandidates : MethodName := ⟨RX7, "findCandidates", "()V"⟩
abbrev cX7_dropBlades : ByteArray := prog_9_method_10_code
def yX7_dropBlades : MethodName := ⟨RX7, "dropBlades", "()V"⟩
def RX8 : String := "EchoGauge$Tank"
def TX8 : u_T := fun k => match k with
  | 0 => ("EchoGauge$Tank", "depth", "I", false)
  | 1 => ("EchoGauge$Tank", "level", "I", false)
  | 2 => ("EchoGauge$Tank", "flow", "I", false)
  | 3 => ("EchoGauge$Tank", "foam", "I", false)
  | 4 => ("EchoGauge$Tank", "things", "I", false)
  | 5 => ("EchoGauge$Tank", "distances", "[I", true)
  | 6 => ("EchoGauge$Tank", "strengths", "[I", true)
  | 7 => ("EchoGauge$Tank", "blades", "I", false)
  | 8 => ("EchoGauge$Tank", "upper", "I", false)
  | 9 => ("EchoGauge$Tank", "lower", "I", false)
  | 10 => ("EchoGauge$Tank", "phase", "I", false)
  | 11 => ("EchoGauge$Tank", "speed", "I", false)
  | 12 => ("EchoGauge$Tank", "beam", "I", false)
  | _ => ("EchoGauge$Tank", "s", "I", false)
def tyX8 : Nat → FieldType := fun k => match k with
  | 0 => .int
  | 1 => .int
  | 2 => .int
  | 3 => .int
  | 4 => .int
  | 5 => .array .int
  | 6 => .array .int
  | 7 => .int
  | 8 => .int
  | 9 => .int
  | 10 => .int
  | 11 => .int
  | 12 => .int
  | _ => .int
abbrev wsX80 : List Cond := u_ws RX8 TX8 14
theorem nmX8 : ∀ a, a < 14 → ∀ b, b < 14 → a ≠ b → (TX8 a).2.1 ≠ (TX8 b).2.1 := by decide +kernel
theorem tyX8_ok : ∀ k, k < 14 → parseFieldDescriptor (TX8 k).2.2.1 = some (tyX8 k) := by decide +kernel
abbrev cX8_init : ByteArray := prog_10_method_1_code
def yX8_init : MethodName := ⟨RX8, "<init>", "()V"⟩
abbrev cX8_reset : ByteArray := prog_10_method_2_code
def yX8_reset : MethodName := ⟨RX8, "reset", "()V"⟩
abbrev cX8_copyFrom : ByteArray := prog_10_method_3_code
def yX8_copyFrom : MethodName := ⟨RX8, "copyFrom", "(LEchoGauge$Tank;)V"⟩
abbrev cX8_allowsDepth : ByteArray := prog_10_method_4_code
def yX8_allowsDepth : MethodName := ⟨RX8, "allowsDepth", "(I)Z"⟩
abbrev cX8_allowsLevel : ByteArray := prog_10_method_5_code
def yX8_allowsLevel : MethodName := ⟨RX8, "allowsLevel", "(I)Z"⟩
abbrev cX8_allowsFlow : ByteArray := prog_10_method_6_code
def yX8_allowsFlow : MethodName := ⟨RX8, "allowsFlow", "(I)Z"⟩
abbrev cX8_allowsFoam : ByteArray := prog_10_method_7_code
def yX8_allowsFoam : MethodName := ⟨RX8, "allowsFoam", "(I)Z"⟩
abbrev cX8_allowsThing : ByteArray := prog_10_method_8_code
def yX8_allowsThing : MethodName := ⟨RX8, "allowsThing", "(II)Z"⟩
abbrev cX8_allowsStirrer : ByteArray := prog_10_method_9_code
def yX8_allowsStirrer : MethodName := ⟨RX8, "allowsStirrer", "(IIIII)Z"⟩
abbrev cX8_hasPlaceForThing : ByteArray := prog_10_method_10_code
def yX8_hasPlaceForThing : MethodName := ⟨RX8, "hasPlaceForThing", "()Z"⟩
abbrev cX8_hasThing : ByteArray := prog_10_method_11_code
def yX8_hasThing : MethodName := ⟨RX8, "hasThing", "(I)Z"⟩
abbrev cX8_putThing : ByteArray := prog_10_method_12_code
def yX8_putThing : MethodName := ⟨RX8, "putThing", "(II)V"⟩
abbrev cX8_dropThing : ByteArray := prog_10_method_13_code
def yX8_dropThing : MethodName := ⟨RX8, "dropThing", "(I)V"⟩
abbrev cX8_thingDistance : ByteArray := prog_10_method_14_code
def yX8_thingDistance : MethodName := ⟨RX8, "thingDistance", "(I)I"⟩
abbrev cX8_thingStrength : ByteArray := prog_10_method_15_code
def yX8_thingStrength : MethodName := ⟨RX8, "thingStrength", "(I)I"⟩
abbrev cX8_putStirrer : ByteArray := prog_10_method_16_code
def yX8_putStirrer : MethodName := ⟨RX8, "putStirrer", "(IIIII)V"⟩
abbrev cX8_moveOn : ByteArray := prog_10_method_17_code
def yX8_moveOn : MethodName := ⟨RX8, "moveOn", "()V"⟩
abbrev cX8_bladeAngle : ByteArray := prog_10_method_18_code
def yX8_bladeAngle : MethodName := ⟨RX8, "bladeAngle", "(I)I"⟩
abbrev cX8_isInBeam : ByteArray := prog_10_method_19_code
def yX8_isInBeam : MethodName := ⟨RX8, "isInBeam", "(I)Z"⟩
abbrev cX8_draw : ByteArray := prog_10_method_20_code
def yX8_draw : MethodName := ⟨RX8, "draw", "(I)I"⟩
abbrev cX8_addToDigest : ByteArray := prog_10_method_21_code
def yX8_addToDigest : MethodName := ⟨RX8, "addToDigest", "(J)J"⟩
def RX9 : String := "EchoGauge$Word"
def TX9 : u_T := fun k => match k with
  | _ => ("", "", "", false)
def tyX9 : Nat → FieldType := fun k => match k with
  | _ => .int
abbrev wsX90 : List Cond := u_ws RX9 TX9 0
theorem nmX9 : ∀ a, a < 0 → ∀ b, b < 0 → a ≠ b → (TX9 a).2.1 ≠ (TX9 b).2.1 := by decide +kernel
theorem tyX9_ok : ∀ k, k < 0 → parseFieldDescriptor (TX9 k).2.2.1 = some (tyX9 k) := by decide +kernel
def RX10 : String := "EchoGauge"
def TX10 : u_T := fun k => match k with
  | 0 => ("EchoGauge", "state", "LEchoGauge$State;", true)
  | 1 => ("EchoGauge", "trial", "LEchoGauge$State;", true)
  | 2 => ("EchoGauge", "saved", "[LEchoGauge$State;", true)
  | 3 => ("EchoGauge", "newestSaved", "I", false)
  | 4 => ("EchoGauge", "savedCount", "I", false)
  | _ => ("EchoGauge", "commands", "LEchoGauge$CommandText;", true)
def tyX10 : Nat → FieldType := fun k => match k with
  | 0 => .object "EchoGauge$State"
  | 1 => .object "EchoGauge$State"
  | 2 => .array (.object "EchoGauge$State")
  | 3 => .int
  | 4 => .int
  | _ => .object "EchoGauge$CommandText"
abbrev wsX100 : List Cond := u_ws RX10 TX10 6
theorem nmX10 : ∀ a, a < 6 → ∀ b, b < 6 → a ≠ b → (TX10 a).2.1 ≠ (TX10 b).2.1 := by decide +kernel
theorem tyX10_ok : ∀ k, k < 6 → parseFieldDescriptor (TX10 k).2.2.1 = some (tyX10 k) := by decide +kernel
abbrev cX10_init : ByteArray := prog_1_method_1_code
def yX10_init : MethodName := ⟨RX10, "<init>", "()V"⟩
abbrev cX10_begin : ByteArray := prog_1_method_2_code
def yX10_begin : MethodName := ⟨RX10, "begin", "(I)I"⟩
abbrev cX10_setLevel : ByteArray := prog_1_method_3_code
def yX10_setLevel : MethodName := ⟨RX10, "setLevel", "(I)I"⟩
abbrev cX10_setFlow : ByteArray := prog_1_method_4_code
def yX10_setFlow : MethodName := ⟨RX10, "setFlow", "(I)I"⟩
abbrev cX10_setFoam : ByteArray := prog_1_method_5_code
def yX10_setFoam : MethodName := ⟨RX10, "setFoam", "(I)I"⟩
abbrev cX10_addThing : ByteArray := prog_1_method_6_code
def yX10_addThing : MethodName := ⟨RX10, "addThing", "(II)I"⟩
abbrev cX10_removeThing : ByteArray := prog_1_method_7_code
def yX10_removeThing : MethodName := ⟨RX10, "removeThing", "(I)I"⟩
abbrev cX10_setStirrer : ByteArray := prog_1_method_8_code
def yX10_setStirrer : MethodName := ⟨RX10, "setStirrer", "(IIIII)I"⟩
abbrev cX10_set : ByteArray := prog_1_method_9_code
def yX10_set : MethodName := ⟨RX10, "set", "(II)I"⟩
abbrev cX10_setS : ByteArray := prog_1_method_10_code
def yX10_setS : MethodName := ⟨RX10, "setS", "(I)I"⟩
abbrev cX10_mask : ByteArray := prog_1_method_11_code
def yX10_mask : MethodName := ⟨RX10, "mask", "(IZ)I"⟩
abbrev cX10_learn : ByteArray := prog_1_method_12_code
def yX10_learn : MethodName := ⟨RX10, "learn", "(I)I"⟩
abbrev cX10_forget : ByteArray := prog_1_method_13_code
def yX10_forget : MethodName := ⟨RX10, "forget", "()I"⟩
abbrev cX10_shoot : ByteArray := prog_1_method_14_code
def yX10_shoot : MethodName := ⟨RX10, "shoot", "(I)I"⟩
abbrev cX10_echo : ByteArray := prog_1_method_15_code
def yX10_echo : MethodName := ⟨RX10, "echo", "(II)I"⟩
abbrev cX10_pick : ByteArray := prog_1_method_16_code
def yX10_pick : MethodName := ⟨RX10, "pick", "(I)I"⟩
abbrev cX10_isMasked : ByteArray := prog_1_method_17_code
def yX10_isMasked : MethodName := ⟨RX10, "isMasked", "(I)Z"⟩
abbrev cX10_need : ByteArray := prog_1_method_18_code
def yX10_need : MethodName := ⟨RX10, "need", "(I)I"⟩
abbrev cX10_tank : ByteArray := prog_1_method_21_code
def yX10_tank : MethodName := ⟨RX10, "tank", "(I)I"⟩
abbrev cX10_setting : ByteArray := prog_1_method_22_code
def yX10_setting : MethodName := ⟨RX10, "setting", "(I)I"⟩
abbrev cX10_gauge : ByteArray := prog_1_method_23_code
def yX10_gauge : MethodName := ⟨RX10, "gauge", "(I)I"⟩
abbrev cX10_undo : ByteArray := prog_1_method_31_code
def yX10_undo : MethodName := ⟨RX10, "undo", "()I"⟩
abbrev cX10_digest : ByteArray := prog_1_method_32_code
def yX10_digest : MethodName := ⟨RX10, "digest", "()J"⟩
abbrev cX10_allowsDistance : ByteArray := prog_1_method_33_code
def yX10_allowsDistance : MethodName := ⟨RX10, "allowsDistance", "(I)Z"⟩
abbrev cX10_allowsShooting : ByteArray := prog_1_method_34_code
def yX10_allowsShooting : MethodName := ⟨RX10, "allowsShooting", "(I)Z"⟩
abbrev cX10_allowsLearning : ByteArray := prog_1_method_35_code
def yX10_allowsLearning : MethodName := ⟨RX10, "allowsLearning", "(I)Z"⟩
abbrev cX10_copyRow : ByteArray := prog_1_method_37_code
def yX10_copyRow : MethodName := ⟨RX10, "copyRow", "([I[I)V"⟩
abbrev cX10_copyIfThere : ByteArray := prog_1_method_38_code
def yX10_copyIfThere : MethodName := ⟨RX10, "copyIfThere", "(LEchoGauge$State;LEchoGauge$State;)V"⟩
abbrev cX10_savedAt : ByteArray := prog_1_method_39_code
def yX10_savedAt : MethodName := ⟨RX10, "savedAt", "(I)LEchoGauge$State;"⟩
abbrev cX10_save : ByteArray := prog_1_method_40_code
def yX10_save : MethodName := ⟨RX10, "save", "()V"⟩
def RX11 : String := "EchoGaugeModel"
def TX11 : u_T := fun k => match k with
  | _ => ("", "", "", false)
def tyX11 : Nat → FieldType := fun k => match k with
  | _ => .int
abbrev wsX110 : List Cond := u_ws RX11 TX11 0
theorem nmX11 : ∀ a, a < 0 → ∀ b, b < 0 → a ≠ b → (TX11 a).2.1 ≠ (TX11 b).2.1 := by decide +kernel
theorem tyX11_ok : ∀ k, k < 0 → parseFieldDescriptor (TX11 k).2.2.1 = some (tyX11 k) := by decide +kernel
def RJ9 : String := "java/lang/Math"
def TJ9 : u_T := fun k => match k with
  | _ => ("", "", "", false)
def tyJ9 : Nat → FieldType := fun k => match k with
  | _ => .int
abbrev wsJ90 : List Cond := u_ws RJ9 TJ9 0
theorem nmJ9 : ∀ a, a < 0 → ∀ b, b < 0 → a ≠ b → (TJ9 a).2.1 ≠ (TJ9 b).2.1 := by decide +kernel
theorem tyJ9_ok : ∀ k, k < 0 → parseFieldDescriptor (TJ9 k).2.2.1 = some (tyJ9 k) := by decide +kernel
abbrev cJ9_abs_0f7a4 : ByteArray := prog_18_method_59_code
def yJ9_abs_0f7a4 : MethodName := ⟨RJ9, "abs", "(I)I"⟩
abbrev cJ9_max_7cf53 : ByteArray := prog_18_method_65_code
def yJ9_max_7cf53 : MethodName := ⟨RJ9, "max", "(II)I"⟩
abbrev cJ9_min_7cf53 : ByteArray := prog_18_method_69_code
def yJ9_min_7cf53 : MethodName := ⟨RJ9, "min", "(II)I"⟩
def RJ0 : String := "java/lang/String"
def TJ0 : u_T := fun k => match k with
  | _ => ("", "", "", false)
def tyJ0 : Nat → FieldType := fun k => match k with
  | _ => .int
abbrev wsJ00 : List Cond := u_ws RJ0 TJ0 0
theorem nmJ0 : ∀ a, a < 0 → ∀ b, b < 0 → a ≠ b → (TJ0 a).2.1 ≠ (TJ0 b).2.1 := by decide +kernel
theorem tyJ0_ok : ∀ k, k < 0 → parseFieldDescriptor (TJ0 k).2.2.1 = some (tyJ0 k) := by decide +kernel
def RJ10 : String := "java/lang/System"
def TJ10 : u_T := fun k => match k with
  | _ => ("", "", "", false)
def tyJ10 : Nat → FieldType := fun k => match k with
  | _ => .int
abbrev wsJ100 : List Cond := u_ws RJ10 TJ10 0
theorem nmJ10 : ∀ a, a < 0 → ∀ b, b < 0 → a ≠ b → (TJ10 a).2.1 ≠ (TJ10 b).2.1 := by decide +kernel
theorem tyJ10_ok : ∀ k, k < 0 → parseFieldDescriptor (TJ10 k).2.2.1 = some (tyJ10 k) := by decide +kernel
def RL : String := "EchoGaugeLaw"
abbrev cL_cell : ByteArray := method_2_code
def yL_cell : MethodName := ⟨RL, "cell", "([II)I"⟩
abbrev cL_low : ByteArray := method_3_code
def yL_low : MethodName := ⟨RL, "low", "(II)I"⟩
abbrev cL_does : ByteArray := method_4_code
def yL_does : MethodName := ⟨RL, "does", "(LEchoGauge;I)I"⟩
abbrev cL_law : ByteArray := code
def yL_law : MethodName := ⟨RL, "law", "([I)Z"⟩
abbrev vwCl : List vw_C := [(RX1, TX1, 5), (RX2, TX2, 2), (RX3, TX3, 5), (RX4, TX4, 9), (RX5, TX5, 2), (RX6, TX6, 1), (RX7, TX7, 7), (RX8, TX8, 14), (RX10, TX10, 6)]
