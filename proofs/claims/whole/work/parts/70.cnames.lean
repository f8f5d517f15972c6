def RX0 : String := "AskNext$Back"
def TX0 : u_T := fun k => match k with
  | _ => ("AskNext$Rule", "figure", "I", true)
def tyX0 : Nat → FieldType := fun k => match k with
  | _ => .int
abbrev wsX00 : List Cond := u_ws RX0 TX0 1
theorem nmX0 : ∀ a, a < 1 → ∀ b, b < 1 → a ≠ b → (TX0 a).2.1 ≠ (TX0 b).2.1 := by decide +kernel
theorem tyX0_ok : ∀ k, k < 1 → parseFieldDescriptor (TX0 k).2.2.1 = some (tyX0 k) := by decide +kernel
abbrev cX0_init : ByteArray := prog_2_method_1_code
def yX0_init : MethodName := ⟨RX0, "<init>", "(I)V"⟩
abbrev cX0_heaviness : ByteArray := prog_2_method_2_code
def yX0_heaviness : MethodName := ⟨RX0, "heaviness", "()I"⟩
abbrev cX0_asksOnComing : ByteArray := prog_2_method_3_code
def yX0_asksOnComing : MethodName := ⟨RX0, "asksOnComing", "(LAskNext$Thought;)Z"⟩
abbrev cX0_fail : ByteArray := prog_2_method_4_code
def yX0_fail : MethodName := ⟨RX0, "fail", "()V"⟩
def RX1 : String := "AskNext$First"
def TX1 : u_T := fun k => match k with
  | _ => ("AskNext$Rule", "figure", "I", true)
def tyX1 : Nat → FieldType := fun k => match k with
  | _ => .int
abbrev wsX10 : List Cond := u_ws RX1 TX1 1
theorem nmX1 : ∀ a, a < 1 → ∀ b, b < 1 → a ≠ b → (TX1 a).2.1 ≠ (TX1 b).2.1 := by decide +kernel
theorem tyX1_ok : ∀ k, k < 1 → parseFieldDescriptor (TX1 k).2.2.1 = some (tyX1 k) := by decide +kernel
abbrev cX1_init : ByteArray := prog_3_method_1_code
def yX1_init : MethodName := ⟨RX1, "<init>", "(I)V"⟩
abbrev cX1_heaviness : ByteArray := prog_3_method_2_code
def yX1_heaviness : MethodName := ⟨RX1, "heaviness", "()I"⟩
abbrev cX1_asksAtStart : ByteArray := prog_3_method_3_code
def yX1_asksAtStart : MethodName := ⟨RX1, "asksAtStart", "()I"⟩
abbrev cX1_hasSecondThoughts : ByteArray := prog_3_method_4_code
def yX1_hasSecondThoughts : MethodName := ⟨RX1, "hasSecondThoughts", "()Z"⟩
def RX2 : String := "AskNext$Land"
def TX2 : u_T := fun k => match k with
  | 0 => ("AskNext$Land", "roads", "I", false)
  | 1 => ("AskNext$Land", "firstEnd", "[I", true)
  | 2 => ("AskNext$Land", "secondEnd", "[I", true)
  | 3 => ("AskNext$Land", "minutes", "[I", true)
  | 4 => ("AskNext$Land", "worlds", "I", false)
  | 5 => ("AskNext$Land", "chances", "[I", true)
  | 6 => ("AskNext$Land", "goals", "[I", true)
  | 7 => ("AskNext$Land", "shut", "[I", true)
  | 8 => ("AskNext$Land", "sorts", "I", false)
  | 9 => ("AskNext$Land", "kinds", "[I", true)
  | 10 => ("AskNext$Land", "figures", "[I", true)
  | 11 => ("AskNext$Land", "metHere", "[[I", true)
  | 12 => ("AskNext$Land", "start", "I", false)
  | 13 => ("AskNext$Land", "asking", "I", false)
  | 14 => ("AskNext$Land", "ways", "[[I", true)
  | 15 => ("AskNext$Land", "nextRoads", "[[I", true)
  | 16 => ("AskNext$Land", "pleasing", "[I", true)
  | _ => ("AskNext$Land", "odds", "[[I", true)
def tyX2 : Nat → FieldType := fun k => match k with
  | 0 => .int
  | 1 => .array .int
  | 2 => .array .int
  | 3 => .array .int
  | 4 => .int
  | 5 => .array .int
  | 6 => .array .int
  | 7 => .array .int
  | 8 => .int
  | 9 => .array .int
  | 10 => .array .int
  | 11 => .array (.array .int)
  | 12 => .int
  | 13 => .int
  | 14 => .array (.array .int)
  | 15 => .array (.array .int)
  | 16 => .array .int
  | _ => .array (.array .int)
abbrev wsX20 : List Cond := u_ws RX2 TX2 18
theorem nmX2 : ∀ a, a < 18 → ∀ b, b < 18 → a ≠ b → (TX2 a).2.1 ≠ (TX2 b).2.1 := by decide +kernel
theorem tyX2_ok : ∀ k, k < 18 → parseFieldDescriptor (TX2 k).2.2.1 = some (tyX2 k) := by decide +kernel
abbrev cX2_init : ByteArray := prog_4_method_1_code
def yX2_init : MethodName := ⟨RX2, "<init>", "()V"⟩
abbrev cX2_hasRoad : ByteArray := prog_4_method_2_code
def yX2_hasRoad : MethodName := ⟨RX2, "hasRoad", "(I)Z"⟩
abbrev cX2_hasWorld : ByteArray := prog_4_method_3_code
def yX2_hasWorld : MethodName := ⟨RX2, "hasWorld", "(I)Z"⟩
abbrev cX2_hasSort : ByteArray := prog_4_method_4_code
def yX2_hasSort : MethodName := ⟨RX2, "hasSort", "(I)Z"⟩
abbrev cX2_isReady : ByteArray := prog_4_method_5_code
def yX2_isReady : MethodName := ⟨RX2, "isReady", "()Z"⟩
abbrev cX2_chancesTogether : ByteArray := prog_4_method_6_code
def yX2_chancesTogether : MethodName := ⟨RX2, "chancesTogether", "()I"⟩
abbrev cX2_minutesTogether : ByteArray := prog_4_method_7_code
def yX2_minutesTogether : MethodName := ⟨RX2, "minutesTogether", "()I"⟩
abbrev cX2_becomeLike : ByteArray := prog_4_method_8_code
def yX2_becomeLike : MethodName := ⟨RX2, "becomeLike", "(LAskNext$Land;)V"⟩
abbrev cX2_addRoad : ByteArray := prog_4_method_9_code
def yX2_addRoad : MethodName := ⟨RX2, "addRoad", "(III)Z"⟩
abbrev cX2_addWorld : ByteArray := prog_4_method_10_code
def yX2_addWorld : MethodName := ⟨RX2, "addWorld", "(III)Z"⟩
abbrev cX2_addSort : ByteArray := prog_4_method_11_code
def yX2_addSort : MethodName := ⟨RX2, "addSort", "(II)Z"⟩
abbrev cX2_meet : ByteArray := prog_4_method_12_code
def yX2_meet : MethodName := ⟨RX2, "meet", "(III)Z"⟩
abbrev cX2_metTogether : ByteArray := prog_4_method_13_code
def yX2_metTogether : MethodName := ⟨RX2, "metTogether", "(I)I"⟩
abbrev cX2_beginAt : ByteArray := prog_4_method_14_code
def yX2_beginAt : MethodName := ⟨RX2, "beginAt", "(I)Z"⟩
abbrev cX2_askFor : ByteArray := prog_4_method_15_code
def yX2_askFor : MethodName := ⟨RX2, "askFor", "(I)Z"⟩
abbrev cX2_isShut : ByteArray := prog_4_method_16_code
def yX2_isShut : MethodName := ⟨RX2, "isShut", "(II)Z"⟩
abbrev cX2_otherEnd : ByteArray := prog_4_method_17_code
def yX2_otherEnd : MethodName := ⟨RX2, "otherEnd", "(II)I"⟩
abbrev cX2_saidBy : ByteArray := prog_4_method_18_code
def yX2_saidBy : MethodName := ⟨RX2, "saidBy", "(III)I"⟩
abbrev cX2_metWith : ByteArray := prog_4_method_19_code
def yX2_metWith : MethodName := ⟨RX2, "metWith", "(II)I"⟩
abbrev cX2_oddsPlace : ByteArray := prog_4_method_20_code
def yX2_oddsPlace : MethodName := ⟨RX2, "oddsPlace", "(II)I"⟩
abbrev cX2_workOut : ByteArray := prog_4_method_21_code
def yX2_workOut : MethodName := ⟨RX2, "workOut", "()V"⟩
abbrev cX2_workOutWays : ByteArray := prog_4_method_22_code
def yX2_workOutWays : MethodName := ⟨RX2, "workOutWays", "(I)V"⟩
abbrev cX2_shorten : ByteArray := prog_4_method_23_code
def yX2_shorten : MethodName := ⟨RX2, "shorten", "([IIII)V"⟩
abbrev cX2_searchNext : ByteArray := prog_4_method_24_code
def yX2_searchNext : MethodName := ⟨RX2, "searchNext", "(II)I"⟩
abbrev cX2_searchPleasing : ByteArray := prog_4_method_25_code
def yX2_searchPleasing : MethodName := ⟨RX2, "searchPleasing", "(I)I"⟩
abbrev cX2_workOutOdds : ByteArray := prog_4_method_26_code
def yX2_workOutOdds : MethodName := ⟨RX2, "workOutOdds", "(I)V"⟩
def RX3 : String := "AskNext$Most"
def TX3 : u_T := fun k => match k with
  | _ => ("AskNext$Rule", "figure", "I", true)
def tyX3 : Nat → FieldType := fun k => match k with
  | _ => .int
abbrev wsX30 : List Cond := u_ws RX3 TX3 1
theorem nmX3 : ∀ a, a < 1 → ∀ b, b < 1 → a ≠ b → (TX3 a).2.1 ≠ (TX3 b).2.1 := by decide +kernel
theorem tyX3_ok : ∀ k, k < 1 → parseFieldDescriptor (TX3 k).2.2.1 = some (tyX3 k) := by decide +kernel
abbrev cX3_init : ByteArray := prog_5_method_1_code
def yX3_init : MethodName := ⟨RX3, "<init>", "(I)V"⟩
abbrev cX3_heaviness : ByteArray := prog_5_method_2_code
def yX3_heaviness : MethodName := ⟨RX3, "heaviness", "()I"⟩
abbrev cX3_asksAtStart : ByteArray := prog_5_method_3_code
def yX3_asksAtStart : MethodName := ⟨RX3, "asksAtStart", "()I"⟩
abbrev cX3_fail : ByteArray := prog_5_method_4_code
def yX3_fail : MethodName := ⟨RX3, "fail", "()V"⟩
def RX4 : String := "AskNext$Reader"
def TX4 : u_T := fun k => match k with
  | 0 => ("AskNext$Reader", "bytes", "[I", false)
  | _ => ("AskNext$Reader", "told", "[I", true)
def tyX4 : Nat → FieldType := fun k => match k with
  | 0 => .array .int
  | _ => .array .int
abbrev wsX40 : List Cond := u_ws RX4 TX4 2
theorem nmX4 : ∀ a, a < 2 → ∀ b, b < 2 → a ≠ b → (TX4 a).2.1 ≠ (TX4 b).2.1 := by decide +kernel
theorem tyX4_ok : ∀ k, k < 2 → parseFieldDescriptor (TX4 k).2.2.1 = some (tyX4 k) := by decide +kernel
abbrev cX4_init : ByteArray := prog_6_method_1_code
def yX4_init : MethodName := ⟨RX4, "<init>", "()V"⟩
abbrev cX4_readInto : ByteArray := prog_6_method_2_code
def yX4_readInto : MethodName := ⟨RX4, "readInto", "(LAskNext$Row;LAskNext$Land;)I"⟩
abbrev cX4_statementsInForm : ByteArray := prog_6_method_3_code
def yX4_statementsInForm : MethodName := ⟨RX4, "statementsInForm", "()I"⟩
abbrev cX4_tellTo : ByteArray := prog_6_method_4_code
def yX4_tellTo : MethodName := ⟨RX4, "tellTo", "(LAskNext$Land;I)I"⟩
abbrev cX4_placeBehind : ByteArray := prog_6_method_5_code
def yX4_placeBehind : MethodName := ⟨RX4, "placeBehind", "(I)I"⟩
abbrev cX4_lengthAt : ByteArray := prog_6_method_6_code
def yX4_lengthAt : MethodName := ⟨RX4, "lengthAt", "(II)I"⟩
abbrev cX4_formOf : ByteArray := prog_6_method_7_code
def yX4_formOf : MethodName := ⟨RX4, "formOf", "(I)Ljava/lang/String;"⟩
abbrev cX4_byteAt : ByteArray := prog_6_method_8_code
def yX4_byteAt : MethodName := ⟨RX4, "byteAt", "(I)I"⟩
abbrev cX4_digitsAt : ByteArray := prog_6_method_9_code
def yX4_digitsAt : MethodName := ⟨RX4, "digitsAt", "(II)I"⟩
abbrev cX4_isDigit : ByteArray := prog_6_method_10_code
def yX4_isDigit : MethodName := ⟨RX4, "isDigit", "(I)Z"⟩
abbrev cX4_numberAt : ByteArray := prog_6_method_11_code
def yX4_numberAt : MethodName := ⟨RX4, "numberAt", "(II)I"⟩
abbrev cX4_isTold : ByteArray := prog_6_method_12_code
def yX4_isTold : MethodName := ⟨RX4, "isTold", "(ILAskNext$Land;)Z"⟩
def RX5 : String := "AskNext$Row"
def TX5 : u_T := fun k => match k with
  | 0 => ("AskNext$Row", "sort", "I", true)
  | _ => ("AskNext$Row", "elements", "[I", true)
def tyX5 : Nat → FieldType := fun k => match k with
  | 0 => .int
  | _ => .array .int
abbrev wsX50 : List Cond := u_ws RX5 TX5 2
theorem nmX5 : ∀ a, a < 2 → ∀ b, b < 2 → a ≠ b → (TX5 a).2.1 ≠ (TX5 b).2.1 := by decide +kernel
theorem tyX5_ok : ∀ k, k < 2 → parseFieldDescriptor (TX5 k).2.2.1 = some (tyX5 k) := by decide +kernel
abbrev cX5_init : ByteArray := prog_7_method_1_code
def yX5_init : MethodName := ⟨RX5, "<init>", "(II)V"⟩
abbrev cX5_hasPlace : ByteArray := prog_7_method_2_code
def yX5_hasPlace : MethodName := ⟨RX5, "hasPlace", "(I)Z"⟩
abbrev cX5_hasPlaces : ByteArray := prog_7_method_3_code
def yX5_hasPlaces : MethodName := ⟨RX5, "hasPlaces", "(II)Z"⟩
abbrev cX5_lowestBits : ByteArray := prog_7_method_4_code
def yX5_lowestBits : MethodName := ⟨RX5, "lowestBits", "(I)I"⟩
abbrev cX5_leastNumber : ByteArray := prog_7_method_5_code
def yX5_leastNumber : MethodName := ⟨RX5, "leastNumber", "()I"⟩
def RX6 : String := "AskNext$Rule"
def TX6 : u_T := fun k => match k with
  | _ => ("AskNext$Rule", "figure", "I", true)
def tyX6 : Nat → FieldType := fun k => match k with
  | _ => .int
abbrev wsX60 : List Cond := u_ws RX6 TX6 1
theorem nmX6 : ∀ a, a < 1 → ∀ b, b < 1 → a ≠ b → (TX6 a).2.1 ≠ (TX6 b).2.1 := by decide +kernel
theorem tyX6_ok : ∀ k, k < 1 → parseFieldDescriptor (TX6 k).2.2.1 = some (tyX6 k) := by decide +kernel
abbrev cX6_init : ByteArray := prog_8_method_1_code
def yX6_init : MethodName := ⟨RX6, "<init>", "(I)V"⟩
abbrev cX6_heaviness : ByteArray := prog_8_method_2_code
def yX6_heaviness : MethodName := ⟨RX6, "heaviness", "()I"⟩
abbrev cX6_asksAtStart : ByteArray := prog_8_method_3_code
def yX6_asksAtStart : MethodName := ⟨RX6, "asksAtStart", "()I"⟩
abbrev cX6_asksOnComing : ByteArray := prog_8_method_4_code
def yX6_asksOnComing : MethodName := ⟨RX6, "asksOnComing", "(LAskNext$Thought;)Z"⟩
abbrev cX6_toldWorld : ByteArray := prog_8_method_5_code
def yX6_toldWorld : MethodName := ⟨RX6, "toldWorld", "()I"⟩
abbrev cX6_hasSecondThoughts : ByteArray := prog_8_method_6_code
def yX6_hasSecondThoughts : MethodName := ⟨RX6, "hasSecondThoughts", "()Z"⟩
abbrev cX6_fail : ByteArray := prog_8_method_7_code
def yX6_fail : MethodName := ⟨RX6, "fail", "()V"⟩
def RX7 : String := "AskNext$Think"
def TX7 : u_T := fun k => match k with
  | _ => ("AskNext$Rule", "figure", "I", true)
def tyX7 : Nat → FieldType := fun k => match k with
  | _ => .int
abbrev wsX70 : List Cond := u_ws RX7 TX7 1
theorem nmX7 : ∀ a, a < 1 → ∀ b, b < 1 → a ≠ b → (TX7 a).2.1 ≠ (TX7 b).2.1 := by decide +kernel
theorem tyX7_ok : ∀ k, k < 1 → parseFieldDescriptor (TX7 k).2.2.1 = some (tyX7 k) := by decide +kernel
abbrev cX7_init : ByteArray := prog_9_method_1_code
def yX7_init : MethodName := ⟨RX7, "<init>", "(I)V"⟩
abbrev cX7_heaviness : ByteArray := prog_9_method_2_code
def yX7_heaviness : MethodName := ⟨RX7, "heaviness", "()I"⟩
abbrev cX7_asksOnComing : ByteArray := prog_9_method_3_code
def yX7_asksOnComing : MethodName := ⟨RX7, "asksOnComing", "(LAskNext$Thought;)Z"⟩
def RX8 : String := "AskNext$Thought"
def TX8 : u_T := fun k => match k with
  | 0 => ("AskNext$Thought", "weights", "[J", true)
  | _ => ("AskNext$Thought", "fresh", "[J", true)
def tyX8 : Nat → FieldType := fun k => match k with
  | 0 => .array .long
  | _ => .array .long
abbrev wsX80 : List Cond := u_ws RX8 TX8 2
theorem nmX8 : ∀ a, a < 2 → ∀ b, b < 2 → a ≠ b → (TX8 a).2.1 ≠ (TX8 b).2.1 := by decide +kernel
theorem tyX8_ok : ∀ k, k < 2 → parseFieldDescriptor (TX8 k).2.2.1 = some (tyX8 k) := by decide +kernel
abbrev cX8_init : ByteArray := prog_10_method_1_code
def yX8_init : MethodName := ⟨RX8, "<init>", "()V"⟩
abbrev cX8_becomeChances : ByteArray := prog_10_method_2_code
def yX8_becomeChances : MethodName := ⟨RX8, "becomeChances", "(LAskNext$Land;)V"⟩
abbrev cX8_becomeLike : ByteArray := prog_10_method_3_code
def yX8_becomeLike : MethodName := ⟨RX8, "becomeLike", "(LAskNext$Thought;)V"⟩
abbrev cX8_all : ByteArray := prog_10_method_4_code
def yX8_all : MethodName := ⟨RX8, "all", "()J"⟩
abbrev cX8_likeliest : ByteArray := prog_10_method_5_code
def yX8_likeliest : MethodName := ⟨RX8, "likeliest", "()I"⟩
abbrev cX8_hundredthsOf : ByteArray := prog_10_method_6_code
def yX8_hundredthsOf : MethodName := ⟨RX8, "hundredthsOf", "(I)J"⟩
abbrev cX8_hear : ByteArray := prog_10_method_7_code
def yX8_hear : MethodName := ⟨RX8, "hear", "(LAskNext$Land;II)V"⟩
abbrev cX8_hearTwice : ByteArray := prog_10_method_8_code
def yX8_hearTwice : MethodName := ⟨RX8, "hearTwice", "(LAskNext$Land;III)V"⟩
abbrev cX8_findRoad : ByteArray := prog_10_method_9_code
def yX8_findRoad : MethodName := ⟨RX8, "findRoad", "(LAskNext$Land;IZ)V"⟩
abbrev cX8_findNoGoal : ByteArray := prog_10_method_10_code
def yX8_findNoGoal : MethodName := ⟨RX8, "findNoGoal", "(LAskNext$Land;I)V"⟩
abbrev cX8_giveUp : ByteArray := prog_10_method_11_code
def yX8_giveUp : MethodName := ⟨RX8, "giveUp", "(I)V"⟩
abbrev cX8_believe : ByteArray := prog_10_method_12_code
def yX8_believe : MethodName := ⟨RX8, "believe", "(I)V"⟩
abbrev cX8_settles : ByteArray := prog_10_method_13_code
def yX8_settles : MethodName := ⟨RX8, "settles", "()Z"⟩
abbrev cX8_halve : ByteArray := prog_10_method_14_code
def yX8_halve : MethodName := ⟨RX8, "halve", "()V"⟩
abbrev cX8_greatestDivisor : ByteArray := prog_10_method_15_code
def yX8_greatestDivisor : MethodName := ⟨RX8, "greatestDivisor", "(JJ)J"⟩
def RX9 : String := "AskNext$Told"
def TX9 : u_T := fun k => match k with
  | _ => ("AskNext$Rule", "figure", "I", true)
def tyX9 : Nat → FieldType := fun k => match k with
  | _ => .int
abbrev wsX90 : List Cond := u_ws RX9 TX9 1
theorem nmX9 : ∀ a, a < 1 → ∀ b, b < 1 → a ≠ b → (TX9 a).2.1 ≠ (TX9 b).2.1 := by decide +kernel
theorem tyX9_ok : ∀ k, k < 1 → parseFieldDescriptor (TX9 k).2.2.1 = some (tyX9 k) := by decide +kernel
abbrev cX9_init : ByteArray := prog_11_method_1_code
def yX9_init : MethodName := ⟨RX9, "<init>", "(I)V"⟩
abbrev cX9_heaviness : ByteArray := prog_11_method_2_code
def yX9_heaviness : MethodName := ⟨RX9, "heaviness", "()I"⟩
abbrev cX9_toldWorld : ByteArray := prog_11_method_3_code
def yX9_toldWorld : MethodName := ⟨RX9, "toldWorld", "()I"⟩
abbrev cX9_hasSecondThoughts : ByteArray := prog_11_method_4_code
def yX9_hasSecondThoughts : MethodName := ⟨RX9, "hasSecondThoughts", "()Z"⟩
abbrev cX9_fail : ByteArray := prog_11_method_5_code
def yX9_fail : MethodName := ⟨RX9, "fail", "()V"⟩
def RX10 : String := "AskNext$Walker"
def TX10 : u_T := fun k => match k with
  | 0 => ("AskNext$Walker", "land", "LAskNext$Land;", true)
  | 1 => ("AskNext$Walker", "mind", "LAskNext$Thought;", true)
  | 2 => ("AskNext$Walker", "votes", "[I", true)
  | 3 => ("AskNext$Walker", "rule", "LAskNext$Rule;", false)
  | 4 => ("AskNext$Walker", "world", "I", false)
  | 5 => ("AskNext$Walker", "z", "I", false)
  | 6 => ("AskNext$Walker", "post", "I", false)
  | 7 => ("AskNext$Walker", "at", "I", false)
  | 8 => ("AskNext$Walker", "minutes", "I", false)
  | 9 => ("AskNext$Walker", "renewed", "Z", false)
  | 10 => ("AskNext$Walker", "asked", "I", false)
  | _ => ("AskNext$Walker", "gone", "I", false)
def tyX10 : Nat → FieldType := fun k => match k with
  | 0 => .object "AskNext$Land"
  | 1 => .object "AskNext$Thought"
  | 2 => .array .int
  | 3 => .object "AskNext$Rule"
  | 4 => .int
  | 5 => .int
  | 6 => .int
  | 7 => .int
  | 8 => .int
  | 9 => .boolean
  | 10 => .int
  | _ => .int
abbrev wsX100 : List Cond := u_ws RX10 TX10 12
theorem nmX10 : ∀ a, a < 12 → ∀ b, b < 12 → a ≠ b → (TX10 a).2.1 ≠ (TX10 b).2.1 := by decide +kernel
theorem tyX10_ok : ∀ k, k < 12 → parseFieldDescriptor (TX10 k).2.2.1 = some (tyX10 k) := by decide +kernel
abbrev cX10_init : ByteArray := prog_12_method_1_code
def yX10_init : MethodName := ⟨RX10, "<init>", "()V"⟩
abbrev cX10_setOutByMind : ByteArray := prog_12_method_2_code
def yX10_setOutByMind : MethodName := ⟨RX10, "setOutByMind", "(LAskNext$Rule;LAskNext$Thought;II)V"⟩
abbrev cX10_setOutByRule : ByteArray := prog_12_method_3_code
def yX10_setOutByRule : MethodName := ⟨RX10, "setOutByRule", "(LAskNext$Rule;III)V"⟩
abbrev cX10_setOut : ByteArray := prog_12_method_4_code
def yX10_setOut : MethodName := ⟨RX10, "setOut", "(LAskNext$Rule;III)V"⟩
abbrev cX10_isThere : ByteArray := prog_12_method_5_code
def yX10_isThere : MethodName := ⟨RX10, "isThere", "()Z"⟩
abbrev cX10_minutesThere : ByteArray := prog_12_method_6_code
def yX10_minutesThere : MethodName := ⟨RX10, "minutesThere", "()I"⟩
abbrev cX10_comeHere : ByteArray := prog_12_method_7_code
def yX10_comeHere : MethodName := ⟨RX10, "comeHere", "()V"⟩
abbrev cX10_stepOn : ByteArray := prog_12_method_8_code
def yX10_stepOn : MethodName := ⟨RX10, "stepOn", "()V"⟩
abbrev cX10_beginsAgain : ByteArray := prog_12_method_9_code
def yX10_beginsAgain : MethodName := ⟨RX10, "beginsAgain", "()Z"⟩
abbrev cX10_believeAtStart : ByteArray := prog_12_method_10_code
def yX10_believeAtStart : MethodName := ⟨RX10, "believeAtStart", "()V"⟩
abbrev cX10_mostSaid : ByteArray := prog_12_method_11_code
def yX10_mostSaid : MethodName := ⟨RX10, "mostSaid", "(I)I"⟩
abbrev cX10_askOnce : ByteArray := prog_12_method_12_code
def yX10_askOnce : MethodName := ⟨RX10, "askOnce", "()I"⟩
def RX11 : String := "AskNext"
def TX11 : u_T := fun k => match k with
  | 0 => ("AskNext", "walker", "LAskNext$Walker;", true)
  | 1 => ("AskNext", "now", "LAskNext$Land;", true)
  | 2 => ("AskNext", "imaged", "LAskNext$Land;", true)
  | 3 => ("AskNext", "trial", "LAskNext$Land;", true)
  | 4 => ("AskNext", "thought", "LAskNext$Thought;", true)
  | 5 => ("AskNext", "imagedThought", "LAskNext$Thought;", true)
  | 6 => ("AskNext", "afterAnswer", "LAskNext$Thought;", true)
  | 7 => ("AskNext", "reader", "LAskNext$Reader;", true)
  | 8 => ("AskNext", "plain", "LAskNext$Rule;", true)
  | 9 => ("AskNext", "thinking", "LAskNext$Rule;", true)
  | 10 => ("AskNext", "rules", "[LAskNext$Rule;", true)
  | 11 => ("AskNext", "rows", "[LAskNext$Row;", true)
  | _ => ("AskNext", "hasImage", "Z", false)
def tyX11 : Nat → FieldType := fun k => match k with
  | 0 => .object "AskNext$Walker"
  | 1 => .object "AskNext$Land"
  | 2 => .object "AskNext$Land"
  | 3 => .object "AskNext$Land"
  | 4 => .object "AskNext$Thought"
  | 5 => .object "AskNext$Thought"
  | 6 => .object "AskNext$Thought"
  | 7 => .object "AskNext$Reader"
  | 8 => .object "AskNext$Rule"
  | 9 => .object "AskNext$Rule"
  | 10 => .array (.object "AskNext$Rule")
  | 11 => .array (.object "AskNext$Row")
  | _ => .boolean
abbrev wsX110 : List Cond := u_ws RX11 TX11 13
theorem nmX11 : ∀ a, a < 13 → ∀ b, b < 13 → a ≠ b → (TX11 a).2.1 ≠ (TX11 b).2.1 := by decide +kernel
theorem tyX11_ok : ∀ k, k < 13 → parseFieldDescriptor (TX11 k).2.2.1 = some (tyX11 k) := by decide +kernel
abbrev cX11_init : ByteArray := prog_1_method_1_code
def yX11_init : MethodName := ⟨RX11, "<init>", "()V"⟩
abbrev cX11_land : ByteArray := prog_1_method_2_code
def yX11_land : MethodName := ⟨RX11, "land", "(I)I"⟩
abbrev cX11_road : ByteArray := prog_1_method_3_code
def yX11_road : MethodName := ⟨RX11, "road", "(II)I"⟩
abbrev cX11_world : ByteArray := prog_1_method_4_code
def yX11_world : MethodName := ⟨RX11, "world", "(II)I"⟩
abbrev cX11_met : ByteArray := prog_1_method_5_code
def yX11_met : MethodName := ⟨RX11, "met", "(II)I"⟩
abbrev cX11_set : ByteArray := prog_1_method_6_code
def yX11_set : MethodName := ⟨RX11, "set", "(II)I"⟩
abbrev cX11_way : ByteArray := prog_1_method_7_code
def yX11_way : MethodName := ⟨RX11, "way", "(II)I"⟩
abbrev cX11_next : ByteArray := prog_1_method_8_code
def yX11_next : MethodName := ⟨RX11, "next", "(II)I"⟩
abbrev cX11_says : ByteArray := prog_1_method_9_code
def yX11_says : MethodName := ⟨RX11, "says", "(III)I"⟩
abbrev cX11_chance : ByteArray := prog_1_method_10_code
def yX11_chance : MethodName := ⟨RX11, "chance", "(III)I"⟩
abbrev cX11_anew : ByteArray := prog_1_method_11_code
def yX11_anew : MethodName := ⟨RX11, "anew", "()I"⟩
abbrev cX11_answer : ByteArray := prog_1_method_12_code
def yX11_answer : MethodName := ⟨RX11, "answer", "(II)I"⟩
abbrev cX11_found : ByteArray := prog_1_method_13_code
def yX11_found : MethodName := ⟨RX11, "found", "(IZ)I"⟩
abbrev cX11_same : ByteArray := prog_1_method_14_code
def yX11_same : MethodName := ⟨RX11, "same", "(III)I"⟩
abbrev cX11_likeliestAfterwards : ByteArray := prog_1_method_15_code
def yX11_likeliestAfterwards : MethodName := ⟨RX11, "likeliestAfterwards", "()I"⟩
abbrev cX11_think : ByteArray := prog_1_method_16_code
def yX11_think : MethodName := ⟨RX11, "think", "(II)J"⟩
abbrev cX11_judge : ByteArray := prog_1_method_17_code
def yX11_judge : MethodName := ⟨RX11, "judge", "(I)I"⟩
abbrev cX11_firstMisjudged : ByteArray := prog_1_method_18_code
def yX11_firstMisjudged : MethodName := ⟨RX11, "firstMisjudged", "(LAskNext$Row;)I"⟩
abbrev cX11_walk : ByteArray := prog_1_method_19_code
def yX11_walk : MethodName := ⟨RX11, "walk", "(II)I"⟩
abbrev cX11_worth : ByteArray := prog_1_method_20_code
def yX11_worth : MethodName := ⟨RX11, "worth", "(I)J"⟩
abbrev cX11_never : ByteArray := prog_1_method_21_code
def yX11_never : MethodName := ⟨RX11, "never", "(I)I"⟩
abbrev cX11_askingFor : ByteArray := prog_1_method_22_code
def yX11_askingFor : MethodName := ⟨RX11, "askingFor", "(I)J"⟩
abbrev cX11_gainAt : ByteArray := prog_1_method_23_code
def yX11_gainAt : MethodName := ⟨RX11, "gainAt", "(I)J"⟩
abbrev cX11_spentAfter : ByteArray := prog_1_method_24_code
def yX11_spentAfter : MethodName := ⟨RX11, "spentAfter", "(II)J"⟩
abbrev cX11_inSums : ByteArray := prog_1_method_25_code
def yX11_inSums : MethodName := ⟨RX11, "inSums", "(I)I"⟩
abbrev cX11_by : ByteArray := prog_1_method_26_code
def yX11_by : MethodName := ⟨RX11, "by", "(IIII)I"⟩
abbrev cX11_mean : ByteArray := prog_1_method_27_code
def yX11_mean : MethodName := ⟨RX11, "mean", "(III)I"⟩
abbrev cX11_meanOf : ByteArray := prog_1_method_28_code
def yX11_meanOf : MethodName := ⟨RX11, "meanOf", "(LAskNext$Rule;III)I"⟩
abbrev cX11_dusk : ByteArray := prog_1_method_29_code
def yX11_dusk : MethodName := ⟨RX11, "dusk", "(IIII)I"⟩
abbrev cX11_best : ByteArray := prog_1_method_30_code
def yX11_best : MethodName := ⟨RX11, "best", "(IIII)I"⟩
abbrev cX11_holdsKinds : ByteArray := prog_1_method_31_code
def yX11_holdsKinds : MethodName := ⟨RX11, "holdsKinds", "(LAskNext$Row;)Z"⟩
abbrev cX11_post : ByteArray := prog_1_method_32_code
def yX11_post : MethodName := ⟨RX11, "post", "(II)I"⟩
abbrev cX11_image : ByteArray := prog_1_method_33_code
def yX11_image : MethodName := ⟨RX11, "image", "()I"⟩
abbrev cX11_restore : ByteArray := prog_1_method_34_code
def yX11_restore : MethodName := ⟨RX11, "restore", "()I"⟩
abbrev cX11_count : ByteArray := prog_1_method_35_code
def yX11_count : MethodName := ⟨RX11, "count", "(I)I"⟩
abbrev cX11_keep : ByteArray := prog_1_method_36_code
def yX11_keep : MethodName := ⟨RX11, "keep", "(IIII)I"⟩
abbrev cX11_row : ByteArray := prog_1_method_37_code
def yX11_row : MethodName := ⟨RX11, "row", "(III)I"⟩
abbrev cX11_put : ByteArray := prog_1_method_38_code
def yX11_put : MethodName := ⟨RX11, "put", "(III)I"⟩
abbrev cX11_element : ByteArray := prog_1_method_39_code
def yX11_element : MethodName := ⟨RX11, "element", "(II)J"⟩
abbrev cX11_copy : ByteArray := prog_1_method_40_code
def yX11_copy : MethodName := ⟨RX11, "copy", "(IIIII)I"⟩
abbrev cX11_weight : ByteArray := prog_1_method_41_code
def yX11_weight : MethodName := ⟨RX11, "weight", "(I)I"⟩
abbrev cX11_toss : ByteArray := prog_1_method_42_code
def yX11_toss : MethodName := ⟨RX11, "toss", "(I)I"⟩
abbrev cX11_ruleOn : ByteArray := prog_1_method_43_code
def yX11_ruleOn : MethodName := ⟨RX11, "ruleOn", "(I)LAskNext$Rule;"⟩
abbrev cX11_rowOn : ByteArray := prog_1_method_44_code
def yX11_rowOn : MethodName := ⟨RX11, "rowOn", "(I)LAskNext$Row;"⟩
abbrev cX11_isEmpty : ByteArray := prog_1_method_45_code
def yX11_isEmpty : MethodName := ⟨RX11, "isEmpty", "(I)Z"⟩
abbrev cX11_lackOn : ByteArray := prog_1_method_46_code
def yX11_lackOn : MethodName := ⟨RX11, "lackOn", "(I)I"⟩
abbrev cX11_isAnswer : ByteArray := prog_1_method_47_code
def yX11_isAnswer : MethodName := ⟨RX11, "isAnswer", "(I)Z"⟩
abbrev cX11_isShelf : ByteArray := prog_1_method_48_code
def yX11_isShelf : MethodName := ⟨RX11, "isShelf", "(I)Z"⟩
abbrev cX11_isCrossing : ByteArray := prog_1_method_49_code
def yX11_isCrossing : MethodName := ⟨RX11, "isCrossing", "(I)Z"⟩
abbrev cX11_isSeeds : ByteArray := prog_1_method_50_code
def yX11_isSeeds : MethodName := ⟨RX11, "isSeeds", "(I)Z"⟩
abbrev cX11_isFigure : ByteArray := prog_1_method_51_code
def yX11_isFigure : MethodName := ⟨RX11, "isFigure", "(I)Z"⟩
abbrev cX11_isRuleKind : ByteArray := prog_1_method_52_code
def yX11_isRuleKind : MethodName := ⟨RX11, "isRuleKind", "(I)Z"⟩
abbrev cX11_ruleOf : ByteArray := prog_1_method_53_code
def yX11_ruleOf : MethodName := ⟨RX11, "ruleOf", "(II)LAskNext$Rule;"⟩
def RJx145de : String := "java/io/Serializable"
def TJx145de : u_T := fun k => match k with
  | _ => ("", "", "", false)
def tyJx145de : Nat → FieldType := fun k => match k with
  | _ => .int
theorem nmJx145de : ∀ a, a < 0 → ∀ b, b < 0 → a ≠ b → (TJx145de a).2.1 ≠ (TJx145de b).2.1 := by decide +kernel
theorem tyJx145de_ok : ∀ k, k < 0 → parseFieldDescriptor (TJx145de k).2.2.1 = some (tyJx145de k) := by decide +kernel
def RJx9f9b0 : String := "java/lang/CharSequence"
def TJx9f9b0 : u_T := fun k => match k with
  | _ => ("", "", "", false)
def tyJx9f9b0 : Nat → FieldType := fun k => match k with
  | _ => .int
theorem nmJx9f9b0 : ∀ a, a < 0 → ∀ b, b < 0 → a ≠ b → (TJx9f9b0 a).2.1 ≠ (TJx9f9b0 b).2.1 := by decide +kernel
theorem tyJx9f9b0_ok : ∀ k, k < 0 → parseFieldDescriptor (TJx9f9b0 k).2.2.1 = some (tyJx9f9b0 k) := by decide +kernel
def RJxb160c : String := "java/lang/Comparable"
def TJxb160c : u_T := fun k => match k with
  | _ => ("", "", "", false)
def tyJxb160c : Nat → FieldType := fun k => match k with
  | _ => .int
theorem nmJxb160c : ∀ a, a < 0 → ∀ b, b < 0 → a ≠ b → (TJxb160c a).2.1 ≠ (TJxb160c b).2.1 := by decide +kernel
theorem tyJxb160c_ok : ∀ k, k < 0 → parseFieldDescriptor (TJxb160c k).2.2.1 = some (tyJxb160c k) := by decide +kernel
def RJ9 : String := "java/lang/Math"
def TJ9 : u_T := fun k => match k with
  | _ => ("", "", "", false)
def tyJ9 : Nat → FieldType := fun k => match k with
  | _ => .int
theorem nmJ9 : ∀ a, a < 0 → ∀ b, b < 0 → a ≠ b → (TJ9 a).2.1 ≠ (TJ9 b).2.1 := by decide +kernel
theorem tyJ9_ok : ∀ k, k < 0 → parseFieldDescriptor (TJ9 k).2.2.1 = some (tyJ9 k) := by decide +kernel
abbrev cJ9_max_f86c9 : ByteArray := prog_21_method_66_code
def yJ9_max_f86c9 : MethodName := ⟨RJ9, "max", "(JJ)J"⟩
def RJ0 : String := "java/lang/String"
def TJ0 : u_T := fun k => match k with
  | _ => ("", "", "", false)
def tyJ0 : Nat → FieldType := fun k => match k with
  | _ => .int
theorem nmJ0 : ∀ a, a < 0 → ∀ b, b < 0 → a ≠ b → (TJ0 a).2.1 ≠ (TJ0 b).2.1 := by decide +kernel
theorem tyJ0_ok : ∀ k, k < 0 → parseFieldDescriptor (TJ0 k).2.2.1 = some (tyJ0 k) := by decide +kernel
abbrev cJ0_length_8abf5 : ByteArray := prog_23_method_54_code
def yJ0_length_8abf5 : MethodName := ⟨RJ0, "length", "()I"⟩
abbrev cJ0_isEmpty_aae02 : ByteArray := prog_23_method_55_code
def yJ0_isEmpty_aae02 : MethodName := ⟨RJ0, "isEmpty", "()Z"⟩
abbrev cJ0_charAt_5068e : ByteArray := prog_23_method_56_code
def yJ0_charAt_5068e : MethodName := ⟨RJ0, "charAt", "(I)C"⟩
abbrev cJ0_coder_7d493 : ByteArray := prog_23_method_152_code
def yJ0_coder_7d493 : MethodName := ⟨RJ0, "coder", "()B"⟩
abbrev cJ0_isLatin1_aae02 : ByteArray := prog_23_method_154_code
def yJ0_isLatin1_aae02 : MethodName := ⟨RJ0, "isLatin1", "()Z"⟩
abbrev cJ0_checkIndex_df160 : ByteArray := prog_23_method_155_code
def yJ0_checkIndex_df160 : MethodName := ⟨RJ0, "checkIndex", "(II)V"⟩
def RJ1 : String := "java/lang/StringLatin1"
def TJ1 : u_T := fun k => match k with
  | _ => ("", "", "", false)
def tyJ1 : Nat → FieldType := fun k => match k with
  | _ => .int
theorem nmJ1 : ∀ a, a < 0 → ∀ b, b < 0 → a ≠ b → (TJ1 a).2.1 ≠ (TJ1 b).2.1 := by decide +kernel
theorem tyJ1_ok : ∀ k, k < 0 → parseFieldDescriptor (TJ1 k).2.2.1 = some (tyJ1 k) := by decide +kernel
abbrev cJ1_charAt_3b067 : ByteArray := prog_24_method_2_code
def yJ1_charAt_3b067 : MethodName := ⟨RJ1, "charAt", "([BI)C"⟩
def RJ2 : String := "java/lang/StringUTF16"
def TJ2 : u_T := fun k => match k with
  | _ => ("", "", "", false)
def tyJ2 : Nat → FieldType := fun k => match k with
  | _ => .int
theorem nmJ2 : ∀ a, a < 0 → ∀ b, b < 0 → a ≠ b → (TJ2 a).2.1 ≠ (TJ2 b).2.1 := by decide +kernel
theorem tyJ2_ok : ∀ k, k < 0 → parseFieldDescriptor (TJ2 k).2.2.1 = some (tyJ2 k) := by decide +kernel
abbrev cJ2_getChar_3b067 : ByteArray := prog_25_method_5_code
def yJ2_getChar_3b067 : MethodName := ⟨RJ2, "getChar", "([BI)C"⟩
abbrev cJ2_length_9d52b : ByteArray := prog_25_method_6_code
def yJ2_length_9d52b : MethodName := ⟨RJ2, "length", "([B)I"⟩
abbrev cJ2_charAt_3b067 : ByteArray := prog_25_method_83_code
def yJ2_charAt_3b067 : MethodName := ⟨RJ2, "charAt", "([BI)C"⟩
abbrev cJ2_checkIndex_2214a : ByteArray := prog_25_method_91_code
def yJ2_checkIndex_2214a : MethodName := ⟨RJ2, "checkIndex", "(I[B)V"⟩
def RJ10 : String := "java/lang/System"
def TJ10 : u_T := fun k => match k with
  | _ => ("", "", "", false)
def tyJ10 : Nat → FieldType := fun k => match k with
  | _ => .int
theorem nmJ10 : ∀ a, a < 0 → ∀ b, b < 0 → a ≠ b → (TJ10 a).2.1 ≠ (TJ10 b).2.1 := by decide +kernel
theorem tyJ10_ok : ∀ k, k < 0 → parseFieldDescriptor (TJ10 k).2.2.1 = some (tyJ10 k) := by decide +kernel
def RJxfd54e : String := "java/lang/constant/Constable"
def TJxfd54e : u_T := fun k => match k with
  | _ => ("", "", "", false)
def tyJxfd54e : Nat → FieldType := fun k => match k with
  | _ => .int
theorem nmJxfd54e : ∀ a, a < 0 → ∀ b, b < 0 → a ≠ b → (TJxfd54e a).2.1 ≠ (TJxfd54e b).2.1 := by decide +kernel
theorem tyJxfd54e_ok : ∀ k, k < 0 → parseFieldDescriptor (TJxfd54e k).2.2.1 = some (tyJxfd54e k) := by decide +kernel
def RJx3cf43 : String := "java/lang/constant/ConstantDesc"
def TJx3cf43 : u_T := fun k => match k with
  | _ => ("", "", "", false)
def tyJx3cf43 : Nat → FieldType := fun k => match k with
  | _ => .int
theorem nmJx3cf43 : ∀ a, a < 0 → ∀ b, b < 0 → a ≠ b → (TJx3cf43 a).2.1 ≠ (TJx3cf43 b).2.1 := by decide +kernel
theorem tyJx3cf43_ok : ∀ k, k < 0 → parseFieldDescriptor (TJx3cf43 k).2.2.1 = some (tyJx3cf43 k) := by decide +kernel
def RJ3 : String := "jdk/internal/util/Preconditions"
def TJ3 : u_T := fun k => match k with
  | _ => ("", "", "", false)
def tyJ3 : Nat → FieldType := fun k => match k with
  | _ => .int
theorem nmJ3 : ∀ a, a < 0 → ∀ b, b < 0 → a ≠ b → (TJ3 a).2.1 ≠ (TJ3 b).2.1 := by decide +kernel
theorem tyJ3_ok : ∀ k, k < 0 → parseFieldDescriptor (TJ3 k).2.2.1 = some (tyJ3 k) := by decide +kernel
abbrev cJ3_checkIndex_8e157 : ByteArray := prog_32_method_11_code
def yJ3_checkIndex_8e157 : MethodName := ⟨RJ3, "checkIndex", "(IILjava/util/function/BiFunction;)I"⟩
abbrev vwCl : List vw_C := [(RX0, TX0, 1), (RX1, TX1, 1), (RX2, TX2, 18), (RX3, TX3, 1), (RX4, TX4, 2), (RX5, TX5, 2), (RX6, TX6, 1), (RX7, TX7, 1), (RX8, TX8, 2), (RX9, TX9, 1), (RX10, TX10, 12), (RX11, TX11, 13), (RX12, TX12, 48)]
