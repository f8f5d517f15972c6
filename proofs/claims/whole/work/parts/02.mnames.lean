def RX12 : String := "AskNextModel"
def TX12 : u_T := fun k => match k with
  | 0 => ("AskNextModel", "roads", "I", false)
  | 1 => ("AskNextModel", "roadA", "[I", true)
  | 2 => ("AskNextModel", "roadB", "[I", true)
  | 3 => ("AskNextModel", "roadLong", "[I", true)
  | 4 => ("AskNextModel", "worlds", "I", false)
  | 5 => ("AskNextModel", "chances", "[I", true)
  | 6 => ("AskNextModel", "goals", "[I", true)
  | 7 => ("AskNextModel", "shuts", "[I", true)
  | 8 => ("AskNextModel", "sorts", "I", false)
  | 9 => ("AskNextModel", "sortKind", "[I", true)
  | 10 => ("AskNextModel", "sortFigure", "[I", true)
  | 11 => ("AskNextModel", "mets", "[I", true)
  | 12 => ("AskNextModel", "start", "I", false)
  | 13 => ("AskNextModel", "cost", "I", false)
  | 14 => ("AskNextModel", "thought", "[J", true)
  | 15 => ("AskNextModel", "thrown", "I", false)
  | 16 => ("AskNextModel", "base", "I", false)
  | 17 => ("AskNextModel", "end", "I", false)
  | 18 => ("AskNextModel", "at", "I", false)
  | 19 => ("AskNextModel", "isBad", "Z", false)
  | 20 => ("AskNextModel", "statements", "I", false)
  | 21 => ("AskNextModel", "placeOf", "[I", true)
  | 22 => ("AskNextModel", "letterOf", "[I", true)
  | 23 => ("AskNextModel", "one", "[I", true)
  | 24 => ("AskNextModel", "two", "[I", true)
  | 25 => ("AskNextModel", "three", "[I", true)
  | 26 => ("AskNextModel", "savedMets", "[I", true)
  | 27 => ("AskNextModel", "ways", "[I", true)
  | 28 => ("AskNextModel", "post", "I", false)
  | 29 => ("AskNextModel", "mind", "[J", true)
  | 30 => ("AskNextModel", "minutes", "I", false)
  | 31 => ("AskNextModel", "asked", "I", false)
  | 32 => ("AskNextModel", "gone", "I", false)
  | 33 => ("AskNextModel", "isLost", "Z", false)
  | 34 => ("AskNextModel", "seed", "I", false)
  | 35 => ("AskNextModel", "voices", "[I", true)
  | 36 => ("AskNextModel", "ahead", "[J", true)
  | 37 => ("AskNextModel", "hasImage", "Z", false)
  | 38 => ("AskNextModel", "imaged", "[J", true)
  | 39 => ("AskNextModel", "imageAt", "I", false)
  | 40 => ("AskNextModel", "isTaking", "Z", false)
  | 41 => ("AskNextModel", "holdsWhat", "[I", true)
  | 42 => ("AskNextModel", "ruleKind", "[I", true)
  | 43 => ("AskNextModel", "ruleFigure", "[I", true)
  | 44 => ("AskNextModel", "rowSort", "[I", true)
  | 45 => ("AskNextModel", "rowMany", "[I", true)
  | 46 => ("AskNextModel", "rows", "[J", true)
  | _ => ("AskNextModel", "between", "[J", true)
def tyX12 : Nat → FieldType := fun k => match k with
  | 0 => .int
  | 1 => .array .int
  | 2 => .array .int
  | 3 => .array .int
  | 4 => .int
  | 5 => .array .int
  | 6 => .array .int
  | 7 => .array .int
  | 8 => .int
  | 9 => .array .int
  | 10 => .array .int
  | 11 => .array .int
  | 12 => .int
  | 13 => .int
  | 14 => .array .long
  | 15 => .int
  | 16 => .int
  | 17 => .int
  | 18 => .int
  | 19 => .boolean
  | 20 => .int
  | 21 => .array .int
  | 22 => .array .int
  | 23 => .array .int
  | 24 => .array .int
  | 25 => .array .int
  | 26 => .array .int
  | 27 => .array .int
  | 28 => .int
  | 29 => .array .long
  | 30 => .int
  | 31 => .int
  | 32 => .int
  | 33 => .boolean
  | 34 => .int
  | 35 => .array .int
  | 36 => .array .long
  | 37 => .boolean
  | 38 => .array .long
  | 39 => .int
  | 40 => .boolean
  | 41 => .array .int
  | 42 => .array .int
  | 43 => .array .int
  | 44 => .array .int
  | 45 => .array .int
  | 46 => .array .long
  | _ => .array .long
abbrev wsX120 : List Cond := u_ws RX12 TX12 48
theorem nmX12 : ∀ a, a < 48 → ∀ b, b < 48 → a ≠ b → (TX12 a).2.1 ≠ (TX12 b).2.1 := by decide +kernel
theorem tyX12_ok : ∀ k, k < 48 → parseFieldDescriptor (TX12 k).2.2.1 = some (tyX12 k) := by decide +kernel
abbrev cX12_init : ByteArray := prog_14_method_1_code
def yX12_init : MethodName := ⟨RX12, "<init>", "()V"⟩
abbrev cX12_thrown : ByteArray := prog_14_method_2_code
def yX12_thrown : MethodName := ⟨RX12, "thrown", "()I"⟩
abbrev cX12_in : ByteArray := prog_14_method_3_code
def yX12_in : MethodName := ⟨RX12, "in", "(JJJ)Z"⟩
abbrev cX12_isCrossing : ByteArray := prog_14_method_4_code
def yX12_isCrossing : MethodName := ⟨RX12, "isCrossing", "(I)Z"⟩
abbrev cX12_isWorld : ByteArray := prog_14_method_5_code
def yX12_isWorld : MethodName := ⟨RX12, "isWorld", "(I)Z"⟩
abbrev cX12_chancesTogether : ByteArray := prog_14_method_6_code
def yX12_chancesTogether : MethodName := ⟨RX12, "chancesTogether", "()I"⟩
abbrev cX12_isReady : ByteArray := prog_14_method_7_code
def yX12_isReady : MethodName := ⟨RX12, "isReady", "()Z"⟩
abbrev cX12_here : ByteArray := prog_14_method_8_code
def yX12_here : MethodName := ⟨RX12, "here", "()I"⟩
abbrev cX12_take : ByteArray := prog_14_method_9_code
def yX12_take : MethodName := ⟨RX12, "take", "(I)V"⟩
abbrev cX12_readDigit : ByteArray := prog_14_method_10_code
def yX12_readDigit : MethodName := ⟨RX12, "readDigit", "()I"⟩
abbrev cX12_readNumber : ByteArray := prog_14_method_11_code
def yX12_readNumber : MethodName := ⟨RX12, "readNumber", "()I"⟩
abbrev cX12_readStatement : ByteArray := prog_14_method_12_code
def yX12_readStatement : MethodName := ⟨RX12, "readStatement", "()V"⟩
abbrev cX12_metTogether : ByteArray := prog_14_method_13_code
def yX12_metTogether : MethodName := ⟨RX12, "metTogether", "(I)I"⟩
abbrev cX12_comes : ByteArray := prog_14_method_14_code
def yX12_comes : MethodName := ⟨RX12, "comes", "(I)Z"⟩
abbrev cX12_land : ByteArray := prog_14_method_15_code
def yX12_land : MethodName := ⟨RX12, "land", "(I)I"⟩
abbrev cX12_thinkAnew : ByteArray := prog_14_method_16_code
def yX12_thinkAnew : MethodName := ⟨RX12, "thinkAnew", "()V"⟩
abbrev cX12_road : ByteArray := prog_14_method_17_code
def yX12_road : MethodName := ⟨RX12, "road", "(II)I"⟩
abbrev cX12_world : ByteArray := prog_14_method_18_code
def yX12_world : MethodName := ⟨RX12, "world", "(II)I"⟩
abbrev cX12_met : ByteArray := prog_14_method_19_code
def yX12_met : MethodName := ⟨RX12, "met", "(II)I"⟩
abbrev cX12_set : ByteArray := prog_14_method_20_code
def yX12_set : MethodName := ⟨RX12, "set", "(II)I"⟩
abbrev cX12_isShut : ByteArray := prog_14_method_21_code
def yX12_isShut : MethodName := ⟨RX12, "isShut", "(II)Z"⟩
abbrev cX12_findWays : ByteArray := prog_14_method_22_code
def yX12_findWays : MethodName := ⟨RX12, "findWays", "()V"⟩
abbrev cX12_shorten : ByteArray := prog_14_method_23_code
def yX12_shorten : MethodName := ⟨RX12, "shorten", "(III)V"⟩
abbrev cX12_otherEnd : ByteArray := prog_14_method_24_code
def yX12_otherEnd : MethodName := ⟨RX12, "otherEnd", "(II)I"⟩
abbrev cX12_nextRoad : ByteArray := prog_14_method_25_code
def yX12_nextRoad : MethodName := ⟨RX12, "nextRoad", "(II)I"⟩
abbrev cX12_way : ByteArray := prog_14_method_26_code
def yX12_way : MethodName := ⟨RX12, "way", "(II)I"⟩
abbrev cX12_next : ByteArray := prog_14_method_27_code
def yX12_next : MethodName := ⟨RX12, "next", "(II)I"⟩
abbrev cX12_said : ByteArray := prog_14_method_28_code
def yX12_said : MethodName := ⟨RX12, "said", "(III)I"⟩
abbrev cX12_says : ByteArray := prog_14_method_29_code
def yX12_says : MethodName := ⟨RX12, "says", "(III)I"⟩
abbrev cX12_hundredths : ByteArray := prog_14_method_30_code
def yX12_hundredths : MethodName := ⟨RX12, "hundredths", "(III)I"⟩
abbrev cX12_isAnswer : ByteArray := prog_14_method_31_code
def yX12_isAnswer : MethodName := ⟨RX12, "isAnswer", "(I)Z"⟩
abbrev cX12_chance : ByteArray := prog_14_method_32_code
def yX12_chance : MethodName := ⟨RX12, "chance", "(III)I"⟩
abbrev cX12_divisor : ByteArray := prog_14_method_33_code
def yX12_divisor : MethodName := ⟨RX12, "divisor", "(JJ)J"⟩
abbrev cX12_settle : ByteArray := prog_14_method_34_code
def yX12_settle : MethodName := ⟨RX12, "settle", "()Z"⟩
abbrev cX12_setMind : ByteArray := prog_14_method_35_code
def yX12_setMind : MethodName := ⟨RX12, "setMind", "()V"⟩
abbrev cX12_likeliest : ByteArray := prog_14_method_36_code
def yX12_likeliest : MethodName := ⟨RX12, "likeliest", "()I"⟩
abbrev cX12_keepMind : ByteArray := prog_14_method_37_code
def yX12_keepMind : MethodName := ⟨RX12, "keepMind", "()I"⟩
abbrev cX12_anew : ByteArray := prog_14_method_38_code
def yX12_anew : MethodName := ⟨RX12, "anew", "()I"⟩
abbrev cX12_hear : ByteArray := prog_14_method_39_code
def yX12_hear : MethodName := ⟨RX12, "hear", "(II)V"⟩
abbrev cX12_answer : ByteArray := prog_14_method_40_code
def yX12_answer : MethodName := ⟨RX12, "answer", "(II)I"⟩
abbrev cX12_see : ByteArray := prog_14_method_41_code
def yX12_see : MethodName := ⟨RX12, "see", "(IZ)V"⟩
abbrev cX12_found : ByteArray := prog_14_method_42_code
def yX12_found : MethodName := ⟨RX12, "found", "(IZ)I"⟩
abbrev cX12_same : ByteArray := prog_14_method_43_code
def yX12_same : MethodName := ⟨RX12, "same", "(III)I"⟩
abbrev cX12_allThought : ByteArray := prog_14_method_44_code
def yX12_allThought : MethodName := ⟨RX12, "allThought", "()J"⟩
abbrev cX12_think : ByteArray := prog_14_method_45_code
def yX12_think : MethodName := ⟨RX12, "think", "(II)J"⟩
abbrev cX12_judge : ByteArray := prog_14_method_46_code
def yX12_judge : MethodName := ⟨RX12, "judge", "(I)I"⟩
abbrev cX12_ask : ByteArray := prog_14_method_47_code
def yX12_ask : MethodName := ⟨RX12, "ask", "(II)I"⟩
abbrev cX12_believe : ByteArray := prog_14_method_48_code
def yX12_believe : MethodName := ⟨RX12, "believe", "(I)V"⟩
abbrev cX12_begin : ByteArray := prog_14_method_49_code
def yX12_begin : MethodName := ⟨RX12, "begin", "(IIII)V"⟩
abbrev cX12_doubts : ByteArray := prog_14_method_50_code
def yX12_doubts : MethodName := ⟨RX12, "doubts", "(I)Z"⟩
abbrev cX12_hearOnWay : ByteArray := prog_14_method_51_code
def yX12_hearOnWay : MethodName := ⟨RX12, "hearOnWay", "(II)V"⟩
abbrev cX12_walkBy : ByteArray := prog_14_method_52_code
def yX12_walkBy : MethodName := ⟨RX12, "walkBy", "(IIIII)V"⟩
abbrev cX12_walk : ByteArray := prog_14_method_53_code
def yX12_walk : MethodName := ⟨RX12, "walk", "(II)I"⟩
abbrev cX12_worthBy : ByteArray := prog_14_method_54_code
def yX12_worthBy : MethodName := ⟨RX12, "worthBy", "(II)J"⟩
abbrev cX12_worth : ByteArray := prog_14_method_55_code
def yX12_worth : MethodName := ⟨RX12, "worth", "(I)J"⟩
abbrev cX12_never : ByteArray := prog_14_method_56_code
def yX12_never : MethodName := ⟨RX12, "never", "(I)I"⟩
abbrev cX12_wrongRule : ByteArray := prog_14_method_57_code
def yX12_wrongRule : MethodName := ⟨RX12, "wrongRule", "(I)I"⟩
abbrev cX12_walkFromStart : ByteArray := prog_14_method_58_code
def yX12_walkFromStart : MethodName := ⟨RX12, "walkFromStart", "(IIII)V"⟩
abbrev cX12_by : ByteArray := prog_14_method_59_code
def yX12_by : MethodName := ⟨RX12, "by", "(IIII)I"⟩
abbrev cX12_meanOf : ByteArray := prog_14_method_60_code
def yX12_meanOf : MethodName := ⟨RX12, "meanOf", "(IIII)I"⟩
abbrev cX12_wrongMean : ByteArray := prog_14_method_61_code
def yX12_wrongMean : MethodName := ⟨RX12, "wrongMean", "(II)I"⟩
abbrev cX12_mean : ByteArray := prog_14_method_62_code
def yX12_mean : MethodName := ⟨RX12, "mean", "(III)I"⟩
abbrev cX12_dusk : ByteArray := prog_14_method_63_code
def yX12_dusk : MethodName := ⟨RX12, "dusk", "(IIII)I"⟩
abbrev cX12_best : ByteArray := prog_14_method_64_code
def yX12_best : MethodName := ⟨RX12, "best", "(IIII)I"⟩
abbrev cX12_post : ByteArray := prog_14_method_65_code
def yX12_post : MethodName := ⟨RX12, "post", "(II)I"⟩
abbrev cX12_moveLong : ByteArray := prog_14_method_66_code
def yX12_moveLong : MethodName := ⟨RX12, "moveLong", "(J)J"⟩
abbrev cX12_move : ByteArray := prog_14_method_67_code
def yX12_move : MethodName := ⟨RX12, "move", "(I)I"⟩
abbrev cX12_moveAll : ByteArray := prog_14_method_68_code
def yX12_moveAll : MethodName := ⟨RX12, "moveAll", "()V"⟩
abbrev cX12_image : ByteArray := prog_14_method_69_code
def yX12_image : MethodName := ⟨RX12, "image", "()I"⟩
abbrev cX12_restore : ByteArray := prog_14_method_70_code
def yX12_restore : MethodName := ⟨RX12, "restore", "()I"⟩
abbrev cX12_count : ByteArray := prog_14_method_71_code
def yX12_count : MethodName := ⟨RX12, "count", "(I)I"⟩
abbrev cX12_keep : ByteArray := prog_14_method_72_code
def yX12_keep : MethodName := ⟨RX12, "keep", "(IIII)I"⟩
abbrev cX12_wrongRow : ByteArray := prog_14_method_73_code
def yX12_wrongRow : MethodName := ⟨RX12, "wrongRow", "(I)I"⟩
abbrev cX12_narrowed : ByteArray := prog_14_method_74_code
def yX12_narrowed : MethodName := ⟨RX12, "narrowed", "(II)J"⟩
abbrev cX12_row : ByteArray := prog_14_method_75_code
def yX12_row : MethodName := ⟨RX12, "row", "(III)I"⟩
abbrev cX12_put : ByteArray := prog_14_method_76_code
def yX12_put : MethodName := ⟨RX12, "put", "(III)I"⟩
abbrev cX12_element : ByteArray := prog_14_method_77_code
def yX12_element : MethodName := ⟨RX12, "element", "(II)J"⟩
abbrev cX12_copy : ByteArray := prog_14_method_78_code
def yX12_copy : MethodName := ⟨RX12, "copy", "(IIIII)I"⟩
abbrev cX12_weightOf : ByteArray := prog_14_method_79_code
def yX12_weightOf : MethodName := ⟨RX12, "weightOf", "(I)I"⟩
abbrev cX12_wrongShelf : ByteArray := prog_14_method_80_code
def yX12_wrongShelf : MethodName := ⟨RX12, "wrongShelf", "(I)I"⟩
abbrev cX12_weight : ByteArray := prog_14_method_81_code
def yX12_weight : MethodName := ⟨RX12, "weight", "(I)I"⟩
abbrev cX12_toss : ByteArray := prog_14_method_82_code
def yX12_toss : MethodName := ⟨RX12, "toss", "(I)I"⟩
def mW_0 : List Cond := [.methodLink RX12 1 objectInit, .instanceMethod objectInit, .code objectInit ⟨#[0xb1]⟩ 1 none, .arrayClass .int, .fieldLink RX12 7 "AskNextModel" "roadA" "[I", .fieldLink RX12 13 "AskNextModel" "roadB" "[I", .fieldLink RX12 16 "AskNextModel" "roadLong" "[I", .fieldLink RX12 19 "AskNextModel" "chances" "[I", .fieldLink RX12 22 "AskNextModel" "goals" "[I", .fieldLink RX12 25 "AskNextModel" "shuts" "[I", .fieldLink RX12 28 "AskNextModel" "sortKind" "[I", .fieldLink RX12 31 "AskNextModel" "sortFigure" "[I", .fieldLink RX12 34 "AskNextModel" "mets" "[I", .fieldLink RX12 37 "AskNextModel" "cost" "I", .arrayClass .long, .fieldLink RX12 41 "AskNextModel" "thought" "[J", .fieldLink RX12 45 "AskNextModel" "placeOf" "[I", .fieldLink RX12 48 "AskNextModel" "letterOf" "[I", .fieldLink RX12 51 "AskNextModel" "one" "[I", .fieldLink RX12 54 "AskNextModel" "two" "[I", .fieldLink RX12 57 "AskNextModel" "three" "[I", .fieldLink RX12 60 "AskNextModel" "savedMets" "[I", .fieldLink RX12 63 "AskNextModel" "ways" "[I", .fieldLink RX12 66 "AskNextModel" "post" "I", .fieldLink RX12 69 "AskNextModel" "mind" "[J", .fieldLink RX12 72 "AskNextModel" "voices" "[I", .fieldLink RX12 75 "AskNextModel" "ahead" "[J", .fieldLink RX12 78 "AskNextModel" "imaged" "[J", .fieldLink RX12 81 "AskNextModel" "holdsWhat" "[I", .fieldLink RX12 84 "AskNextModel" "ruleKind" "[I", .fieldLink RX12 87 "AskNextModel" "ruleFigure" "[I", .fieldLink RX12 90 "AskNextModel" "rowSort" "[I", .fieldLink RX12 93 "AskNextModel" "rowMany" "[I", .fieldLink RX12 96 "AskNextModel" "rows" "[J", .fieldLink RX12 99 "AskNextModel" "between" "[J", .fieldLink RX12 102 "AskNextModel" "thrown" "I", .code yX12_init cX12_init 1 none, .code yX12_thrown cX12_thrown 1 (some .int), .code yX12_in cX12_in 6 (some .boolean), .code yX12_isCrossing cX12_isCrossing 2 (some .boolean)]
def mW_1 : List Cond := [.constantLong RX12 105 (7), .methodLink RX12 107 yX12_in, .static yX12_in, .initialized RX12, .code yX12_isWorld cX12_isWorld 2 (some .boolean), .fieldLink RX12 111 "AskNextModel" "worlds" "I", .code yX12_chancesTogether cX12_chancesTogether 3 (some .int), .code yX12_isReady cX12_isReady 1 (some .boolean), .methodLink RX12 114 yX12_chancesTogether, .instanceMethod yX12_chancesTogether, .selects RX12 yX12_chancesTogether yX12_chancesTogether, .code yX12_here cX12_here 1 (some .int), .fieldLink RX12 118 "AskNextModel" "at" "I", .fieldLink RX12 121 "AskNextModel" "end" "I", .fieldLink RX12 124 "AskNextModel" "base" "I", .code yX12_take cX12_take 2 none, .fieldLink RX12 127 "AskNextModel" "isBad" "Z", .methodLink RX12 131 yX12_here, .instanceMethod yX12_here, .selects RX12 yX12_here yX12_here, .code yX12_readDigit cX12_readDigit 1 (some .int), .constantLong RX12 134 (48), .constantLong RX12 136 (57), .code yX12_readNumber cX12_readNumber 3 (some .int), .methodLink RX12 138 yX12_readDigit, .instanceMethod yX12_readDigit, .selects RX12 yX12_readDigit yX12_readDigit, .fieldLink RX12 141 "AskNextModel" "statements" "I", .methodLink RX12 144 yX12_readNumber, .instanceMethod yX12_readNumber, .selects RX12 yX12_readNumber yX12_readNumber, .methodLink RX12 147 yX12_take, .instanceMethod yX12_take, .selects RX12 yX12_take yX12_take, .code yX12_readStatement cX12_readStatement 3 none, .code yX12_metTogether cX12_metTogether 4 (some .int), .constantLong RX12 151 (60), .fieldLink RX12 153 "AskNextModel" "roads" "I", .constantLong RX12 156 (100), .constant RX12 158 (65535)]
def mW_2 : List Cond := [.fieldLink RX12 159 "AskNextModel" "sorts" "I", .fieldLink RX12 166 "AskNextModel" "start" "I", .methodLink RX12 162 yX12_metTogether, .instanceMethod yX12_metTogether, .selects RX12 yX12_metTogether yX12_metTogether, .code yX12_comes cX12_comes 5 (some .boolean), .code yX12_wrongRow cX12_wrongRow 2 (some .int), .code yX12_thinkAnew cX12_thinkAnew 2 none, .methodLink RX12 169 yX12_wrongRow, .instanceMethod yX12_wrongRow, .selects RX12 yX12_wrongRow yX12_wrongRow, .methodLink RX12 172 yX12_readStatement, .instanceMethod yX12_readStatement, .selects RX12 yX12_readStatement yX12_readStatement, .methodLink RX12 175 yX12_comes, .instanceMethod yX12_comes, .selects RX12 yX12_comes yX12_comes, .methodLink RX12 179 yX12_thinkAnew, .instanceMethod yX12_thinkAnew, .selects RX12 yX12_thinkAnew yX12_thinkAnew, .code yX12_land cX12_land 10 (some .int), .code yX12_road cX12_road 3 (some .int), .constantLong RX12 182 (2), .code yX12_world cX12_world 3 (some .int), .methodLink RX12 184 yX12_isWorld, .instanceMethod yX12_isWorld, .selects RX12 yX12_isWorld yX12_isWorld, .code yX12_met cX12_met 3 (some .int), .methodLink RX12 187 yX12_isCrossing, .instanceMethod yX12_isCrossing, .selects RX12 yX12_isCrossing yX12_isCrossing, .code yX12_set cX12_set 4 (some .int), .constantLong RX12 190 (30), .code yX12_isShut cX12_isShut 3 (some .boolean), .code yX12_shorten cX12_shorten 5 none, .constant RX12 192 (99999), .code yX12_findWays cX12_findWays 4 none, .methodLink RX12 193 yX12_isShut, .instanceMethod yX12_isShut, .selects RX12 yX12_isShut yX12_isShut]
def mW_3 : List Cond := [.methodLink RX12 197 yX12_shorten, .instanceMethod yX12_shorten, .selects RX12 yX12_shorten yX12_shorten, .code yX12_otherEnd cX12_otherEnd 3 (some .int), .code yX12_nextRoad cX12_nextRoad 5 (some .int), .methodLink RX12 201 yX12_otherEnd, .instanceMethod yX12_otherEnd, .selects RX12 yX12_otherEnd yX12_otherEnd, .methodLink RX12 205 yX12_findWays, .instanceMethod yX12_findWays, .selects RX12 yX12_findWays yX12_findWays, .code yX12_way cX12_way 3 (some .int), .methodLink RX12 208 yX12_nextRoad, .instanceMethod yX12_nextRoad, .selects RX12 yX12_nextRoad yX12_nextRoad, .code yX12_next cX12_next 3 (some .int), .code yX12_said cX12_said 6 (some .int), .methodLink RX12 211 yX12_said, .instanceMethod yX12_said, .selects RX12 yX12_said yX12_said, .code yX12_says cX12_says 4 (some .int), .code yX12_hundredths cX12_hundredths 6 (some .int), .code yX12_isAnswer cX12_isAnswer 2 (some .boolean), .constantLong RX12 215 (-1), .methodLink RX12 217 yX12_isAnswer, .instanceMethod yX12_isAnswer, .selects RX12 yX12_isAnswer yX12_isAnswer, .methodLink RX12 220 yX12_hundredths, .instanceMethod yX12_hundredths, .selects RX12 yX12_hundredths yX12_hundredths, .code yX12_chance cX12_chance 4 (some .int), .code yX12_divisor cX12_divisor 10 (some .long), .code yX12_settle cX12_settle 5 (some .boolean), .constantLong RX12 227 (100000000000), .methodLink RX12 223 yX12_divisor, .static yX12_divisor, .code yX12_setMind cX12_setMind 2 none, .code yX12_likeliest cX12_likeliest 3 (some .int), .code yX12_keepMind cX12_keepMind 2 (some .int), .methodLink RX12 229 yX12_settle]
def mW_4 : List Cond := [.instanceMethod yX12_settle, .selects RX12 yX12_settle yX12_settle, .methodLink RX12 233 yX12_likeliest, .instanceMethod yX12_likeliest, .selects RX12 yX12_likeliest yX12_likeliest, .methodLink RX12 236 yX12_isReady, .instanceMethod yX12_isReady, .selects RX12 yX12_isReady yX12_isReady, .methodLink RX12 239 yX12_setMind, .instanceMethod yX12_setMind, .selects RX12 yX12_setMind yX12_setMind, .code yX12_anew cX12_anew 1 (some .int), .code yX12_hear cX12_hear 4 none, .methodLink RX12 242 yX12_hear, .instanceMethod yX12_hear, .selects RX12 yX12_hear yX12_hear, .methodLink RX12 246 yX12_keepMind, .instanceMethod yX12_keepMind, .selects RX12 yX12_keepMind yX12_keepMind, .code yX12_answer cX12_answer 3 (some .int), .code yX12_see cX12_see 4 none, .methodLink RX12 249 yX12_see, .instanceMethod yX12_see, .selects RX12 yX12_see yX12_see, .code yX12_found cX12_found 3 (some .int), .code yX12_same cX12_same 7 (some .int), .code yX12_allThought cX12_allThought 4 (some .long), .constantLong RX12 253 (-4000000000000000001), .constantLong RX12 255 (-4000000000000000003), .methodLink RX12 257 yX12_allThought, .instanceMethod yX12_allThought, .selects RX12 yX12_allThought yX12_allThought, .code yX12_think cX12_think 5 (some .long), .constantLong RX12 261 (-128), .constantLong RX12 263 (-32768), .constantLong RX12 265 (-2147483648), .code yX12_judge cX12_judge 7 (some .int), .code yX12_ask cX12_ask 6 (some .int), .fieldLink RX12 267 "AskNextModel" "minutes" "I", .fieldLink RX12 270 "AskNextModel" "asked" "I"]
def mW_5 : List Cond := [.fieldLink RX12 273 "AskNextModel" "seed" "I", .constant RX12 276 (1103515245), .constant RX12 277 (2147483647), .constant RX12 278 (65536), .code yX12_believe cX12_believe 3 none, .methodLink RX12 279 yX12_ask, .instanceMethod yX12_ask, .selects RX12 yX12_ask yX12_ask, .methodLink RX12 282 yX12_believe, .instanceMethod yX12_believe, .selects RX12 yX12_believe yX12_believe, .code yX12_begin cX12_begin 8 none, .code yX12_doubts cX12_doubts 5 (some .boolean), .code yX12_hearOnWay cX12_hearOnWay 4 none, .fieldLink RX12 285 "AskNextModel" "gone" "I", .fieldLink RX12 288 "AskNextModel" "isLost" "Z", .methodLink RX12 291 yX12_begin, .instanceMethod yX12_begin, .selects RX12 yX12_begin yX12_begin, .methodLink RX12 295 yX12_doubts, .instanceMethod yX12_doubts, .selects RX12 yX12_doubts yX12_doubts, .methodLink RX12 298 yX12_hearOnWay, .instanceMethod yX12_hearOnWay, .selects RX12 yX12_hearOnWay yX12_hearOnWay, .code yX12_walkBy cX12_walkBy 13 none, .methodLink RX12 301 yX12_walkBy, .instanceMethod yX12_walkBy, .selects RX12 yX12_walkBy yX12_walkBy, .code yX12_walk cX12_walk 3 (some .int), .constantLong RX12 305 (999), .code yX12_worthBy cX12_worthBy 11 (some .long), .methodLink RX12 307 yX12_worthBy, .instanceMethod yX12_worthBy, .selects RX12 yX12_worthBy yX12_worthBy, .code yX12_worth cX12_worth 2 (some .long), .code yX12_never cX12_never 5 (some .int), .code yX12_wrongRule cX12_wrongRule 2 (some .int), .code yX12_walkFromStart cX12_walkFromStart 6 none, .methodLink RX12 311 yX12_wrongRule]
def mW_6 : List Cond := [.instanceMethod yX12_wrongRule, .selects RX12 yX12_wrongRule yX12_wrongRule, .methodLink RX12 314 yX12_walkFromStart, .instanceMethod yX12_walkFromStart, .selects RX12 yX12_walkFromStart yX12_walkFromStart, .code yX12_by cX12_by 5 (some .int), .code yX12_meanOf cX12_meanOf 8 (some .int), .code yX12_wrongMean cX12_wrongMean 3 (some .int), .constantLong RX12 317 (20), .methodLink RX12 319 yX12_wrongMean, .instanceMethod yX12_wrongMean, .selects RX12 yX12_wrongMean yX12_wrongMean, .methodLink RX12 322 yX12_meanOf, .instanceMethod yX12_meanOf, .selects RX12 yX12_meanOf yX12_meanOf, .code yX12_mean cX12_mean 4 (some .int), .constantLong RX12 326 (9999), .code yX12_dusk cX12_dusk 9 (some .int), .constantLong RX12 328 (99), .constantLong RX12 330 (6), .constantLong RX12 332 (5), .code yX12_best cX12_best 10 (some .int), .code yX12_post cX12_post 7 (some .int), .code yX12_moveLong cX12_moveLong 3 (some .long), .fieldLink RX12 334 "AskNextModel" "isTaking" "Z", .fieldLink RX12 337 "AskNextModel" "imageAt" "I", .code yX12_move cX12_move 2 (some .int), .methodLink RX12 340 yX12_moveLong, .instanceMethod yX12_moveLong, .selects RX12 yX12_moveLong yX12_moveLong, .methodLink RX12 344 yX12_move, .instanceMethod yX12_move, .selects RX12 yX12_move yX12_move, .code yX12_moveAll cX12_moveAll 2 none, .fieldLink RX12 347 "AskNextModel" "hasImage" "Z", .methodLink RX12 350 yX12_moveAll, .instanceMethod yX12_moveAll, .selects RX12 yX12_moveAll yX12_moveAll, .code yX12_image cX12_image 1 (some .int), .code yX12_restore cX12_restore 1 (some .int)]
def mW_7 : List Cond := [.code yX12_count cX12_count 4 (some .int), .code yX12_keep cX12_keep 5 (some .int), .code yX12_narrowed cX12_narrowed 2 (some .long), .code yX12_row cX12_row 5 (some .int), .code yX12_put cX12_put 5 (some .int), .methodLink RX12 353 yX12_narrowed, .static yX12_narrowed, .code yX12_element cX12_element 4 (some .long), .code yX12_copy cX12_copy 7 (some .int), .code yX12_weightOf cX12_weightOf 3 (some .int), .code yX12_wrongShelf cX12_wrongShelf 2 (some .int), .code yX12_weight cX12_weight 2 (some .int), .methodLink RX12 356 yX12_wrongShelf, .instanceMethod yX12_wrongShelf, .selects RX12 yX12_wrongShelf yX12_wrongShelf, .methodLink RX12 359 yX12_weightOf, .instanceMethod yX12_weightOf, .selects RX12 yX12_weightOf yX12_weightOf, .code yX12_toss cX12_toss 3 (some .int)]
/-- all words that the methods need -/
def mW : List Cond := mW_0 ++ (mW_1 ++ (mW_2 ++ (mW_3 ++ (mW_4 ++ (mW_5 ++ (mW_6 ++ (mW_7 ++ wsX120)))))))
theorem mk_0 : (.methodLink RX12 1 objectInit : Cond) ∈ mW := List.mem_append_left _ (List.mem_of_getElem? (i := 0) rfl)
theorem mk_1 : (.instanceMethod objectInit : Cond) ∈ mW := List.mem_append_left _ (List.mem_of_getElem? (i := 1) rfl)
theorem mk_2 : (.code objectInit ⟨#[0xb1]⟩ 1 none : Cond) ∈ mW := List.mem_append_left _ (List.mem_of_getElem? (i := 2) rfl)
theorem mk_3 : (.arrayClass .int : Cond) ∈ mW := List.mem_append_left _ (List.mem_of_getElem? (i := 3) rfl)
theorem mk_4 : (.fieldLink RX12 7 "AskNextModel" "roadA" "[I" : Cond) ∈ mW := List.mem_append_left _ (List.mem_of_getElem? (i := 4) rfl)
theorem mk_5 : (.fieldLink RX12 13 "AskNextModel" "roadB" "[I" : Cond) ∈ mW := List.mem_append_left _ (List.mem_of_getElem? (i := 5) rfl)
theorem mk_6 : (.fieldLink RX12 16 "AskNextModel" "roadLong" "[I" : Cond) ∈ mW := List.mem_append_left _ (List.mem_of_getElem? (i := 6) rfl)
theorem mk_7 : (.fieldLink RX12 19 "AskNextModel" "chances" "[I" : Cond) ∈ mW := List.mem_append_left _ (List.mem_of_getElem? (i := 7) rfl)
theorem mk_8 : (.fieldLink RX12 22 "AskNextModel" "goals" "[I" : Cond) ∈ mW := List.mem_append_left _ (List.mem_of_getElem? (i := 8) rfl)
theorem mk_9 : (.fieldLink RX12 25 "AskNextModel" "shuts" "[I" : Cond) ∈ mW := List.mem_append_left _ (List.mem_of_getElem? (i := 9) rfl)
theorem mk_10 : (.fieldLink RX12 28 "AskNextModel" "sortKind" "[I" : Cond) ∈ mW := List.mem_append_left _ (List.mem_of_getElem? (i := 10) rfl)
theorem mk_11 : (.fieldLink RX12 31 "AskNextModel" "sortFigure" "[I" : Cond) ∈ mW := List.mem_append_left _ (List.mem_of_getElem? (i := 11) rfl)
theorem mk_12 : (.fieldLink RX12 34 "AskNextModel" "mets" "[I" : Cond) ∈ mW := List.mem_append_left _ (List.mem_of_getElem? (i := 12) rfl)
theorem mk_13 : (.fieldLink RX12 37 "AskNextModel" "cost" "I" : Cond) ∈ mW := List.mem_append_left _ (List.mem_of_getElem? (i := 13) rfl)
theorem mk_14 : (.arrayClass .long : Cond) ∈ mW := List.mem_append_left _ (List.mem_of_getElem? (i := 14) rfl)
theorem mk_15 : (.fieldLink RX12 41 "AskNextModel" "thought" "[J" : Cond) ∈ mW := List.mem_append_left _ (List.mem_of_getElem? (i := 15) rfl)
theorem mk_16 : (.fieldLink RX12 45 "AskNextModel" "placeOf" "[I" : Cond) ∈ mW := List.mem_append_left _ (List.mem_of_getElem? (i := 16) rfl)
theorem mk_17 : (.fieldLink RX12 48 "AskNextModel" "letterOf" "[I" : Cond) ∈ mW := List.mem_append_left _ (List.mem_of_getElem? (i := 17) rfl)
theorem mk_18 : (.fieldLink RX12 51 "AskNextModel" "one" "[I" : Cond) ∈ mW := List.mem_append_left _ (List.mem_of_getElem? (i := 18) rfl)
theorem mk_19 : (.fieldLink RX12 54 "AskNextModel" "two" "[I" : Cond) ∈ mW := List.mem_append_left _ (List.mem_of_getElem? (i := 19) rfl)
theorem mk_20 : (.fieldLink RX12 57 "AskNextModel" "three" "[I" : Cond) ∈ mW := List.mem_append_left _ (List.mem_of_getElem? (i := 20) rfl)
theorem mk_21 : (.fieldLink RX12 60 "AskNextModel" "savedMets" "[I" : Cond) ∈ mW := List.mem_append_left _ (List.mem_of_getElem? (i := 21) rfl)
theorem mk_22 : (.fieldLink RX12 63 "AskNextModel" "ways" "[I" : Cond) ∈ mW := List.mem_append_left _ (List.mem_of_getElem? (i := 22) rfl)
theorem mk_23 : (.fieldLink RX12 66 "AskNextModel" "post" "I" : Cond) ∈ mW := List.mem_append_left _ (List.mem_of_getElem? (i := 23) rfl)
theorem mk_24 : (.fieldLink RX12 69 "AskNextModel" "mind" "[J" : Cond) ∈ mW := List.mem_append_left _ (List.mem_of_getElem? (i := 24) rfl)
theorem mk_25 : (.fieldLink RX12 72 "AskNextModel" "voices" "[I" : Cond) ∈ mW := List.mem_append_left _ (List.mem_of_getElem? (i := 25) rfl)
theorem mk_26 : (.fieldLink RX12 75 "AskNextModel" "ahead" "[J" : Cond) ∈ mW := List.mem_append_left _ (List.mem_of_getElem? (i := 26) rfl)
theorem mk_27 : (.fieldLink RX12 78 "AskNextModel" "imaged" "[J" : Cond) ∈ mW := List.mem_append_left _ (List.mem_of_getElem? (i := 27) rfl)
theorem mk_28 : (.fieldLink RX12 81 "AskNextModel" "holdsWhat" "[I" : Cond) ∈ mW := List.mem_append_left _ (List.mem_of_getElem? (i := 28) rfl)
theorem mk_29 : (.fieldLink RX12 84 "AskNextModel" "ruleKind" "[I" : Cond) ∈ mW := List.mem_append_left _ (List.mem_of_getElem? (i := 29) rfl)
theorem mk_30 : (.fieldLink RX12 87 "AskNextModel" "ruleFigure" "[I" : Cond) ∈ mW := List.mem_append_left _ (List.mem_of_getElem? (i := 30) rfl)
theorem mk_31 : (.fieldLink RX12 90 "AskNextModel" "rowSort" "[I" : Cond) ∈ mW := List.mem_append_left _ (List.mem_of_getElem? (i := 31) rfl)
theorem mk_32 : (.fieldLink RX12 93 "AskNextModel" "rowMany" "[I" : Cond) ∈ mW := List.mem_append_left _ (List.mem_of_getElem? (i := 32) rfl)
theorem mk_33 : (.fieldLink RX12 96 "AskNextModel" "rows" "[J" : Cond) ∈ mW := List.mem_append_left _ (List.mem_of_getElem? (i := 33) rfl)
theorem mk_34 : (.fieldLink RX12 99 "AskNextModel" "between" "[J" : Cond) ∈ mW := List.mem_append_left _ (List.mem_of_getElem? (i := 34) rfl)
theorem mk_35 : (.fieldLink RX12 102 "AskNextModel" "thrown" "I" : Cond) ∈ mW := List.mem_append_left _ (List.mem_of_getElem? (i := 35) rfl)
theorem mk_36 : (.code yX12_init cX12_init 1 none : Cond) ∈ mW := List.mem_append_left _ (List.mem_of_getElem? (i := 36) rfl)
theorem mk_37 : (.code yX12_thrown cX12_thrown 1 (some .int) : Cond) ∈ mW := List.mem_append_left _ (List.mem_of_getElem? (i := 37) rfl)
theorem mk_38 : (.code yX12_in cX12_in 6 (some .boolean) : Cond) ∈ mW := List.mem_append_left _ (List.mem_of_getElem? (i := 38) rfl)
theorem mk_39 : (.code yX12_isCrossing cX12_isCrossing 2 (some .boolean) : Cond) ∈ mW := List.mem_append_left _ (List.mem_of_getElem? (i := 39) rfl)
theorem mk_40 : (.constantLong RX12 105 (7) : Cond) ∈ mW := List.mem_append_right _ (List.mem_append_left _ (List.mem_of_getElem? (i := 0) rfl))
theorem mk_41 : (.methodLink RX12 107 yX12_in : Cond) ∈ mW := List.mem_append_right _ (List.mem_append_left _ (List.mem_of_getElem? (i := 1) rfl))
theorem mk_42 : (.static yX12_in : Cond) ∈ mW := List.mem_append_right _ (List.mem_append_left _ (List.mem_of_getElem? (i := 2) rfl))
theorem mk_43 : (.initialized RX12 : Cond) ∈ mW := List.mem_append_right _ (List.mem_append_left _ (List.mem_of_getElem? (i := 3) rfl))
theorem mk_44 : (.code yX12_isWorld cX12_isWorld 2 (some .boolean) : Cond) ∈ mW := List.mem_append_right _ (List.mem_append_left _ (List.mem_of_getElem? (i := 4) rfl))
theorem mk_45 : (.fieldLink RX12 111 "AskNextModel" "worlds" "I" : Cond) ∈ mW := List.mem_append_right _ (List.mem_append_left _ (List.mem_of_getElem? (i := 5) rfl))
theorem mk_46 : (.code yX12_chancesTogether cX12_chancesTogether 3 (some .int) : Cond) ∈ mW := List.mem_append_right _ (List.mem_append_left _ (List.mem_of_getElem? (i := 6) rfl))
theorem mk_47 : (.code yX12_isReady cX12_isReady 1 (some .boolean) : Cond) ∈ mW := List.mem_append_right _ (List.mem_append_left _ (List.mem_of_getElem? (i := 7) rfl))
theorem mk_48 : (.methodLink RX12 114 yX12_chancesTogether : Cond) ∈ mW := List.mem_append_right _ (List.mem_append_left _ (List.mem_of_getElem? (i := 8) rfl))
theorem mk_49 : (.instanceMethod yX12_chancesTogether : Cond) ∈ mW := List.mem_append_right _ (List.mem_append_left _ (List.mem_of_getElem? (i := 9) rfl))
theorem mk_50 : (.selects RX12 yX12_chancesTogether yX12_chancesTogether : Cond) ∈ mW := List.mem_append_right _ (List.mem_append_left _ (List.mem_of_getElem? (i := 10) rfl))
theorem mk_51 : (.code yX12_here cX12_here 1 (some .int) : Cond) ∈ mW := List.mem_append_right _ (List.mem_append_left _ (List.mem_of_getElem? (i := 11) rfl))
theorem mk_52 : (.fieldLink RX12 118 "AskNextModel" "at" "I" : Cond) ∈ mW := List.mem_append_right _ (List.mem_append_left _ (List.mem_of_getElem? (i := 12) rfl))
theorem mk_53 : (.fieldLink RX12 121 "AskNextModel" "end" "I" : Cond) ∈ mW := List.mem_append_right _ (List.mem_append_left _ (List.mem_of_getElem? (i := 13) rfl))
theorem mk_54 : (.fieldLink RX12 124 "AskNextModel" "base" "I" : Cond) ∈ mW := List.mem_append_right _ (List.mem_append_left _ (List.mem_of_getElem? (i := 14) rfl))
theorem mk_55 : (.code yX12_take cX12_take 2 none : Cond) ∈ mW := List.mem_append_right _ (List.mem_append_left _ (List.mem_of_getElem? (i := 15) rfl))
theorem mk_56 : (.fieldLink RX12 127 "AskNextModel" "isBad" "Z" : Cond) ∈ mW := List.mem_append_right _ (List.mem_append_left _ (List.mem_of_getElem? (i := 16) rfl))
theorem mk_57 : (.methodLink RX12 131 yX12_here : Cond) ∈ mW := List.mem_append_right _ (List.mem_append_left _ (List.mem_of_getElem? (i := 17) rfl))
theorem mk_58 : (.instanceMethod yX12_here : Cond) ∈ mW := List.mem_append_right _ (List.mem_append_left _ (List.mem_of_getElem? (i := 18) rfl))
theorem mk_59 : (.selects RX12 yX12_here yX12_here : Cond) ∈ mW := List.mem_append_right _ (List.mem_append_left _ (List.mem_of_getElem? (i := 19) rfl))
theorem mk_60 : (.code yX12_readDigit cX12_readDigit 1 (some .int) : Cond) ∈ mW := List.mem_append_right _ (List.mem_append_left _ (List.mem_of_getElem? (i := 20) rfl))
theorem mk_61 : (.constantLong RX12 134 (48) : Cond) ∈ mW := List.mem_append_right _ (List.mem_append_left _ (List.mem_of_getElem? (i := 21) rfl))
theorem mk_62 : (.constantLong RX12 136 (57) : Cond) ∈ mW := List.mem_append_right _ (List.mem_append_left _ (List.mem_of_getElem? (i := 22) rfl))
theorem mk_63 : (.code yX12_readNumber cX12_readNumber 3 (some .int) : Cond) ∈ mW := List.mem_append_right _ (List.mem_append_left _ (List.mem_of_getElem? (i := 23) rfl))
theorem mk_64 : (.methodLink RX12 138 yX12_readDigit : Cond) ∈ mW := List.mem_append_right _ (List.mem_append_left _ (List.mem_of_getElem? (i := 24) rfl))
theorem mk_65 : (.instanceMethod yX12_readDigit : Cond) ∈ mW := List.mem_append_right _ (List.mem_append_left _ (List.mem_of_getElem? (i := 25) rfl))
theorem mk_66 : (.selects RX12 yX12_readDigit yX12_readDigit : Cond) ∈ mW := List.mem_append_right _ (List.mem_append_left _ (List.mem_of_getElem? (i := 26) rfl))
theorem mk_67 : (.fieldLink RX12 141 "AskNextModel" "statements" "I" : Cond) ∈ mW := List.mem_append_right _ (List.mem_append_left _ (List.mem_of_getElem? (i := 27) rfl))
theorem mk_68 : (.methodLink RX12 144 yX12_readNumber : Cond) ∈ mW := List.mem_append_right _ (List.mem_append_left _ (List.mem_of_getElem? (i := 28) rfl))
theorem mk_69 : (.instanceMethod yX12_readNumber : Cond) ∈ mW := List.mem_append_right _ (List.mem_append_left _ (List.mem_of_getElem? (i := 29) rfl))
theorem mk_70 : (.selects RX12 yX12_readNumber yX12_readNumber : Cond) ∈ mW := List.mem_append_right _ (List.mem_append_left _ (List.mem_of_getElem? (i := 30) rfl))
theorem mk_71 : (.methodLink RX12 147 yX12_take : Cond) ∈ mW := List.mem_append_right _ (List.mem_append_left _ (List.mem_of_getElem? (i := 31) rfl))
theorem mk_72 : (.instanceMethod yX12_take : Cond) ∈ mW := List.mem_append_right _ (List.mem_append_left _ (List.mem_of_getElem? (i := 32) rfl))
theorem mk_73 : (.selects RX12 yX12_take yX12_take : Cond) ∈ mW := List.mem_append_right _ (List.mem_append_left _ (List.mem_of_getElem? (i := 33) rfl))
theorem mk_74 : (.code yX12_readStatement cX12_readStatement 3 none : Cond) ∈ mW := List.mem_append_right _ (List.mem_append_left _ (List.mem_of_getElem? (i := 34) rfl))
theorem mk_75 : (.code yX12_metTogether cX12_metTogether 4 (some .int) : Cond) ∈ mW := List.mem_append_right _ (List.mem_append_left _ (List.mem_of_getElem? (i := 35) rfl))
theorem mk_76 : (.constantLong RX12 151 (60) : Cond) ∈ mW := List.mem_append_right _ (List.mem_append_left _ (List.mem_of_getElem? (i := 36) rfl))
theorem mk_77 : (.fieldLink RX12 153 "AskNextModel" "roads" "I" : Cond) ∈ mW := List.mem_append_right _ (List.mem_append_left _ (List.mem_of_getElem? (i := 37) rfl))
theorem mk_78 : (.constantLong RX12 156 (100) : Cond) ∈ mW := List.mem_append_right _ (List.mem_append_left _ (List.mem_of_getElem? (i := 38) rfl))
theorem mk_79 : (.constant RX12 158 (65535) : Cond) ∈ mW := List.mem_append_right _ (List.mem_append_left _ (List.mem_of_getElem? (i := 39) rfl))
theorem mk_80 : (.fieldLink RX12 159 "AskNextModel" "sorts" "I" : Cond) ∈ mW := List.mem_append_right _ (List.mem_append_right _ (List.mem_append_left _ (List.mem_of_getElem? (i := 0) rfl)))
theorem mk_81 : (.fieldLink RX12 166 "AskNextModel" "start" "I" : Cond) ∈ mW := List.mem_append_right _ (List.mem_append_right _ (List.mem_append_left _ (List.mem_of_getElem? (i := 1) rfl)))
theorem mk_82 : (.methodLink RX12 162 yX12_metTogether : Cond) ∈ mW := List.mem_append_right _ (List.mem_append_right _ (List.mem_append_left _ (List.mem_of_getElem? (i := 2) rfl)))
theorem mk_83 : (.instanceMethod yX12_metTogether : Cond) ∈ mW := List.mem_append_right _ (List.mem_append_right _ (List.mem_append_left _ (List.mem_of_getElem? (i := 3) rfl)))
theorem mk_84 : (.selects RX12 yX12_metTogether yX12_metTogether : Cond) ∈ mW := List.mem_append_right _ (List.mem_append_right _ (List.mem_append_left _ (List.mem_of_getElem? (i := 4) rfl)))
theorem mk_85 : (.code yX12_comes cX12_comes 5 (some .boolean) : Cond) ∈ mW := List.mem_append_right _ (List.mem_append_right _ (List.mem_append_left _ (List.mem_of_getElem? (i := 5) rfl)))
theorem mk_86 : (.code yX12_wrongRow cX12_wrongRow 2 (some .int) : Cond) ∈ mW := List.mem_append_right _ (List.mem_append_right _ (List.mem_append_left _ (List.mem_of_getElem? (i := 6) rfl)))
theorem mk_87 : (.code yX12_thinkAnew cX12_thinkAnew 2 none : Cond) ∈ mW := List.mem_append_right _ (List.mem_append_right _ (List.mem_append_left _ (List.mem_of_getElem? (i := 7) rfl)))
theorem mk_88 : (.methodLink RX12 169 yX12_wrongRow : Cond) ∈ mW := List.mem_append_right _ (List.mem_append_right _ (List.mem_append_left _ (List.mem_of_getElem? (i := 8) rfl)))
theorem mk_89 : (.instanceMethod yX12_wrongRow : Cond) ∈ mW := List.mem_append_right _ (List.mem_append_right _ (List.mem_append_left _ (List.mem_of_getElem? (i := 9) rfl)))
theorem mk_90 : (.selects RX12 yX12_wrongRow yX12_wrongRow : Cond) ∈ mW := List.mem_append_right _ (List.mem_append_right _ (List.mem_append_left _ (List.mem_of_getElem? (i := 10) rfl)))
theorem mk_91 : (.methodLink RX12 172 yX12_readStatement : Cond) ∈ mW := List.mem_append_right _ (List.mem_append_right _ (List.mem_append_left _ (List.mem_of_getElem? (i := 11) rfl)))
theorem mk_92 : (.instanceMethod yX12_readStatement : Cond) ∈ mW := List.mem_append_right _ (List.mem_append_right _ (List.mem_append_left _ (List.mem_of_getElem? (i := 12) rfl)))
theorem mk_93 : (.selects RX12 yX12_readStatement yX12_readStatement : Cond) ∈ mW := List.mem_append_right _ (List.mem_append_right _ (List.mem_append_left _ (List.mem_of_getElem? (i := 13) rfl)))
theorem mk_94 : (.methodLink RX12 175 yX12_comes : Cond) ∈ mW := List.mem_append_right _ (List.mem_append_right _ (List.mem_append_left _ (List.mem_of_getElem? (i := 14) rfl)))
theorem mk_95 : (.instanceMethod yX12_comes : Cond) ∈ mW := List.mem_append_right _ (List.mem_append_right _ (List.mem_append_left _ (List.mem_of_getElem? (i := 15) rfl)))
theorem mk_96 : (.selects RX12 yX12_comes yX12_comes : Cond) ∈ mW := List.mem_append_right _ (List.mem_append_right _ (List.mem_append_left _ (List.mem_of_getElem? (i := 16) rfl)))
theorem mk_97 : (.methodLink RX12 179 yX12_thinkAnew : Cond) ∈ mW := List.mem_append_right _ (List.mem_append_right _ (List.mem_append_left _ (List.mem_of_getElem? (i := 17) rfl)))
theorem mk_98 : (.instanceMethod yX12_thinkAnew : Cond) ∈ mW := List.mem_append_right _ (List.mem_append_right _ (List.mem_append_left _ (List.mem_of_getElem? (i := 18) rfl)))
theorem mk_99 : (.selects RX12 yX12_thinkAnew yX12_thinkAnew : Cond) ∈ mW := List.mem_append_right _ (List.mem_append_right _ (List.mem_append_left _ (List.mem_of_getElem? (i := 19) rfl)))
theorem mk_100 : (.code yX12_land cX12_land 10 (some .int) : Cond) ∈ mW := List.mem_append_right _ (List.mem_append_right _ (List.mem_append_left _ (List.mem_of_getElem? (i := 20) rfl)))
theorem mk_101 : (.code yX12_road cX12_road 3 (some .int) : Cond) ∈ mW := List.mem_append_right _ (List.mem_append_right _ (List.mem_append_left _ (List.mem_of_getElem? (i := 21) rfl)))
theorem mk_102 : (.constantLong RX12 182 (2) : Cond) ∈ mW := List.mem_append_right _ (List.mem_append_right _ (List.mem_append_left _ (List.mem_of_getElem? (i := 22) rfl)))
theorem mk_103 : (.code yX12_world cX12_world 3 (some .int) : Cond) ∈ mW := List.mem_append_right _ (List.mem_append_right _ (List.mem_append_left _ (List.mem_of_getElem? (i := 23) rfl)))
theorem mk_104 : (.methodLink RX12 184 yX12_isWorld : Cond) ∈ mW := List.mem_append_right _ (List.mem_append_right _ (List.mem_append_left _ (List.mem_of_getElem? (i := 24) rfl)))
theorem mk_105 : (.instanceMethod yX12_isWorld : Cond) ∈ mW := List.mem_append_right _ (List.mem_append_right _ (List.mem_append_left _ (List.mem_of_getElem? (i := 25) rfl)))
theorem mk_106 : (.selects RX12 yX12_isWorld yX12_isWorld : Cond) ∈ mW := List.mem_append_right _ (List.mem_append_right _ (List.mem_append_left _ (List.mem_of_getElem? (i := 26) rfl)))
theorem mk_107 : (.code yX12_met cX12_met 3 (some .int) : Cond) ∈ mW := List.mem_append_right _ (List.mem_append_right _ (List.mem_append_left _ (List.mem_of_getElem? (i := 27) rfl)))
theorem mk_108 : (.methodLink RX12 187 yX12_isCrossing : Cond) ∈ mW := List.mem_append_right _ (List.mem_append_right _ (List.mem_append_left _ (List.mem_of_getElem? (i := 28) rfl)))
theorem mk_109 : (.instanceMethod yX12_isCrossing : Cond) ∈ mW := List.mem_append_right _ (List.mem_append_right _ (List.mem_append_left _ (List.mem_of_getElem? (i := 29) rfl)))
theorem mk_110 : (.selects RX12 yX12_isCrossing yX12_isCrossing : Cond) ∈ mW := List.mem_append_right _ (List.mem_append_right _ (List.mem_append_left _ (List.mem_of_getElem? (i := 30) rfl)))
theorem mk_111 : (.code yX12_set cX12_set 4 (some .int) : Cond) ∈ mW := List.mem_append_right _ (List.mem_append_right _ (List.mem_append_left _ (List.mem_of_getElem? (i := 31) rfl)))
theorem mk_112 : (.constantLong RX12 190 (30) : Cond) ∈ mW := List.mem_append_right _ (List.mem_append_right _ (List.mem_append_left _ (List.mem_of_getElem? (i := 32) rfl)))
theorem mk_113 : (.code yX12_isShut cX12_isShut 3 (some .boolean) : Cond) ∈ mW := List.mem_append_right _ (List.mem_append_right _ (List.mem_append_left _ (List.mem_of_getElem? (i := 33) rfl)))
theorem mk_114 : (.code yX12_shorten cX12_shorten 5 none : Cond) ∈ mW := List.mem_append_right _ (List.mem_append_right _ (List.mem_append_left _ (List.mem_of_getElem? (i := 34) rfl)))
theorem mk_115 : (.constant RX12 192 (99999) : Cond) ∈ mW := List.mem_append_right _ (List.mem_append_right _ (List.mem_append_left _ (List.mem_of_getElem? (i := 35) rfl)))
theorem mk_116 : (.code yX12_findWays cX12_findWays 4 none : Cond) ∈ mW := List.mem_append_right _ (List.mem_append_right _ (List.mem_append_left _ (List.mem_of_getElem? (i := 36) rfl)))
theorem mk_117 : (.methodLink RX12 193 yX12_isShut : Cond) ∈ mW := List.mem_append_right _ (List.mem_append_right _ (List.mem_append_left _ (List.mem_of_getElem? (i := 37) rfl)))
theorem mk_118 : (.instanceMethod yX12_isShut : Cond) ∈ mW := List.mem_append_right _ (List.mem_append_right _ (List.mem_append_left _ (List.mem_of_getElem? (i := 38) rfl)))
theorem mk_119 : (.selects RX12 yX12_isShut yX12_isShut : Cond) ∈ mW := List.mem_append_right _ (List.mem_append_right _ (List.mem_append_left _ (List.mem_of_getElem? (i := 39) rfl)))
theorem mk_120 : (.methodLink RX12 197 yX12_shorten : Cond) ∈ mW := List.mem_append_right _ (List.mem_append_right _ (List.mem_append_right _ (List.mem_append_left _ (List.mem_of_getElem? (i := 0) rfl))))
theorem mk_121 : (.instanceMethod yX12_shorten : Cond) ∈ mW := List.mem_append_right _ (List.mem_append_right _ (List.mem_append_right _ (List.mem_append_left _ (List.mem_of_getElem? (i := 1) rfl))))
theorem mk_122 : (.selects RX12 yX12_shorten yX12_shorten : Cond) ∈ mW := List.mem_append_right _ (List.mem_append_right _ (List.mem_append_right _ (List.mem_append_left _ (List.mem_of_getElem? (i := 2) rfl))))
theorem mk_123 : (.code yX12_otherEnd cX12_otherEnd 3 (some .int) : Cond) ∈ mW := List.mem_append_right _ (List.mem_append_right _ (List.mem_append_right _ (List.mem_append_left _ (List.mem_of_getElem? (i := 3) rfl))))
theorem mk_124 : (.code yX12_nextRoad cX12_nextRoad 5 (some .int) : Cond) ∈ mW := List.mem_append_right _ (List.mem_append_right _ (List.mem_append_right _ (List.mem_append_left _ (List.mem_of_getElem? (i := 4) rfl))))
theorem mk_125 : (.methodLink RX12 201 yX12_otherEnd : Cond) ∈ mW := List.mem_append_right _ (List.mem_append_right _ (List.mem_append_right _ (List.mem_append_left _ (List.mem_of_getElem? (i := 5) rfl))))
theorem mk_126 : (.instanceMethod yX12_otherEnd : Cond) ∈ mW := List.mem_append_right _ (List.mem_append_right _ (List.mem_append_right _ (List.mem_append_left _ (List.mem_of_getElem? (i := 6) rfl))))
theorem mk_127 : (.selects RX12 yX12_otherEnd yX12_otherEnd : Cond) ∈ mW := List.mem_append_right _ (List.mem_append_right _ (List.mem_append_right _ (List.mem_append_left _ (List.mem_of_getElem? (i := 7) rfl))))
theorem mk_128 : (.methodLink RX12 205 yX12_findWays : Cond) ∈ mW := List.mem_append_right _ (List.mem_append_right _ (List.mem_append_right _ (List.mem_append_left _ (List.mem_of_getElem? (i := 8) rfl))))
theorem mk_129 : (.instanceMethod yX12_findWays : Cond) ∈ mW := List.mem_append_right _ (List.mem_append_right _ (List.mem_append_right _ (List.mem_append_left _ (List.mem_of_getElem? (i := 9) rfl))))
theorem mk_130 : (.selects RX12 yX12_findWays yX12_findWays : Cond) ∈ mW := List.mem_append_right _ (List.mem_append_right _ (List.mem_append_right _ (List.mem_append_left _ (List.mem_of_getElem? (i := 10) rfl))))
theorem mk_131 : (.code yX12_way cX12_way 3 (some .int) : Cond) ∈ mW := List.mem_append_right _ (List.mem_append_right _ (List.mem_append_right _ (List.mem_append_left _ (List.mem_of_getElem? (i := 11) rfl))))
theorem mk_132 : (.methodLink RX12 208 yX12_nextRoad : Cond) ∈ mW := List.mem_append_right _ (List.mem_append_right _ (List.mem_append_right _ (List.mem_append_left _ (List.mem_of_getElem? (i := 12) rfl))))
theorem mk_133 : (.instanceMethod yX12_nextRoad : Cond) ∈ mW := List.mem_append_right _ (List.mem_append_right _ (List.mem_append_right _ (List.mem_append_left _ (List.mem_of_getElem? (i := 13) rfl))))
theorem mk_134 : (.selects RX12 yX12_nextRoad yX12_nextRoad : Cond) ∈ mW := List.mem_append_right _ (List.mem_append_right _ (List.mem_append_right _ (List.mem_append_left _ (List.mem_of_getElem? (i := 14) rfl))))
theorem mk_135 : (.code yX12_next cX12_next 3 (some .int) : Cond) ∈ mW := List.mem_append_right _ (List.mem_append_right _ (List.mem_append_right _ (List.mem_append_left _ (List.mem_of_getElem? (i := 15) rfl))))
theorem mk_136 : (.code yX12_said cX12_said 6 (some .int) : Cond) ∈ mW := List.mem_append_right _ (List.mem_append_right _ (List.mem_append_right _ (List.mem_append_left _ (List.mem_of_getElem? (i := 16) rfl))))
theorem mk_137 : (.methodLink RX12 211 yX12_said : Cond) ∈ mW := List.mem_append_right _ (List.mem_append_right _ (List.mem_append_right _ (List.mem_append_left _ (List.mem_of_getElem? (i := 17) rfl))))
theorem mk_138 : (.instanceMethod yX12_said : Cond) ∈ mW := List.mem_append_right _ (List.mem_append_right _ (List.mem_append_right _ (List.mem_append_left _ (List.mem_of_getElem? (i := 18) rfl))))
theorem mk_139 : (.selects RX12 yX12_said yX12_said : Cond) ∈ mW := List.mem_append_right _ (List.mem_append_right _ (List.mem_append_right _ (List.mem_append_left _ (List.mem_of_getElem? (i := 19) rfl))))
theorem mk_140 : (.code yX12_says cX12_says 4 (some .int) : Cond) ∈ mW := List.mem_append_right _ (List.mem_append_right _ (List.mem_append_right _ (List.mem_append_left _ (List.mem_of_getElem? (i := 20) rfl))))
theorem mk_141 : (.code yX12_hundredths cX12_hundredths 6 (some .int) : Cond) ∈ mW := List.mem_append_right _ (List.mem_append_right _ (List.mem_append_right _ (List.mem_append_left _ (List.mem_of_getElem? (i := 21) rfl))))
theorem mk_142 : (.code yX12_isAnswer cX12_isAnswer 2 (some .boolean) : Cond) ∈ mW := List.mem_append_right _ (List.mem_append_right _ (List.mem_append_right _ (List.mem_append_left _ (List.mem_of_getElem? (i := 22) rfl))))
theorem mk_143 : (.constantLong RX12 215 (-1) : Cond) ∈ mW := List.mem_append_right _ (List.mem_append_right _ (List.mem_append_right _ (List.mem_append_left _ (List.mem_of_getElem? (i := 23) rfl))))
theorem mk_144 : (.methodLink RX12 217 yX12_isAnswer : Cond) ∈ mW := List.mem_append_right _ (List.mem_append_right _ (List.mem_append_right _ (List.mem_append_left _ (List.mem_of_getElem? (i := 24) rfl))))
theorem mk_145 : (.instanceMethod yX12_isAnswer : Cond) ∈ mW := List.mem_append_right _ (List.mem_append_right _ (List.mem_append_right _ (List.mem_append_left _ (List.mem_of_getElem? (i := 25) rfl))))
theorem mk_146 : (.selects RX12 yX12_isAnswer yX12_isAnswer : Cond) ∈ mW := List.mem_append_right _ (List.mem_append_right _ (List.mem_append_right _ (List.mem_append_left _ (List.mem_of_getElem? (i := 26) rfl))))
theorem mk_147 : (.methodLink RX12 220 yX12_hundredths : Cond) ∈ mW := List.mem_append_right _ (List.mem_append_right _ (List.mem_append_right _ (List.mem_append_left _ (List.mem_of_getElem? (i := 27) rfl))))
theorem mk_148 : (.instanceMethod yX12_hundredths : Cond) ∈ mW := List.mem_append_right _ (List.mem_append_right _ (List.mem_append_right _ (List.mem_append_left _ (List.mem_of_getElem? (i := 28) rfl))))
theorem mk_149 : (.selects RX12 yX12_hundredths yX12_hundredths : Cond) ∈ mW := List.mem_append_right _ (List.mem_append_right _ (List.mem_append_right _ (List.mem_append_left _ (List.mem_of_getElem? (i := 29) rfl))))
theorem mk_150 : (.code yX12_chance cX12_chance 4 (some .int) : Cond) ∈ mW := List.mem_append_right _ (List.mem_append_right _ (List.mem_append_right _ (List.mem_append_left _ (List.mem_of_getElem? (i := 30) rfl))))
theorem mk_151 : (.code yX12_divisor cX12_divisor 10 (some .long) : Cond) ∈ mW := List.mem_append_right _ (List.mem_append_right _ (List.mem_append_right _ (List.mem_append_left _ (List.mem_of_getElem? (i := 31) rfl))))
theorem mk_152 : (.code yX12_settle cX12_settle 5 (some .boolean) : Cond) ∈ mW := List.mem_append_right _ (List.mem_append_right _ (List.mem_append_right _ (List.mem_append_left _ (List.mem_of_getElem? (i := 32) rfl))))
theorem mk_153 : (.constantLong RX12 227 (100000000000) : Cond) ∈ mW := List.mem_append_right _ (List.mem_append_right _ (List.mem_append_right _ (List.mem_append_left _ (List.mem_of_getElem? (i := 33) rfl))))
theorem mk_154 : (.methodLink RX12 223 yX12_divisor : Cond) ∈ mW := List.mem_append_right _ (List.mem_append_right _ (List.mem_append_right _ (List.mem_append_left _ (List.mem_of_getElem? (i := 34) rfl))))
theorem mk_155 : (.static yX12_divisor : Cond) ∈ mW := List.mem_append_right _ (List.mem_append_right _ (List.mem_append_right _ (List.mem_append_left _ (List.mem_of_getElem? (i := 35) rfl))))
theorem mk_156 : (.code yX12_setMind cX12_setMind 2 none : Cond) ∈ mW := List.mem_append_right _ (List.mem_append_right _ (List.mem_append_right _ (List.mem_append_left _ (List.mem_of_getElem? (i := 36) rfl))))
theorem mk_157 : (.code yX12_likeliest cX12_likeliest 3 (some .int) : Cond) ∈ mW := List.mem_append_right _ (List.mem_append_right _ (List.mem_append_right _ (List.mem_append_left _ (List.mem_of_getElem? (i := 37) rfl))))
theorem mk_158 : (.code yX12_keepMind cX12_keepMind 2 (some .int) : Cond) ∈ mW := List.mem_append_right _ (List.mem_append_right _ (List.mem_append_right _ (List.mem_append_left _ (List.mem_of_getElem? (i := 38) rfl))))
theorem mk_159 : (.methodLink RX12 229 yX12_settle : Cond) ∈ mW := List.mem_append_right _ (List.mem_append_right _ (List.mem_append_right _ (List.mem_append_left _ (List.mem_of_getElem? (i := 39) rfl))))
theorem mk_160 : (.instanceMethod yX12_settle : Cond) ∈ mW := List.mem_append_right _ (List.mem_append_right _ (List.mem_append_right _ (List.mem_append_right _ (List.mem_append_left _ (List.mem_of_getElem? (i := 0) rfl)))))
theorem mk_161 : (.selects RX12 yX12_settle yX12_settle : Cond) ∈ mW := List.mem_append_right _ (List.mem_append_right _ (List.mem_append_right _ (List.mem_append_right _ (List.mem_append_left _ (List.mem_of_getElem? (i := 1) rfl)))))
theorem mk_162 : (.methodLink RX12 233 yX12_likeliest : Cond) ∈ mW := List.mem_append_right _ (List.mem_append_right _ (List.mem_append_right _ (List.mem_append_right _ (List.mem_append_left _ (List.mem_of_getElem? (i := 2) rfl)))))
theorem mk_163 : (.instanceMethod yX12_likeliest : Cond) ∈ mW := List.mem_append_right _ (List.mem_append_right _ (List.mem_append_right _ (List.mem_append_right _ (List.mem_append_left _ (List.mem_of_getElem? (i := 3) rfl)))))
theorem mk_164 : (.selects RX12 yX12_likeliest yX12_likeliest : Cond) ∈ mW := List.mem_append_right _ (List.mem_append_right _ (List.mem_append_right _ (List.mem_append_right _ (List.mem_append_left _ (List.mem_of_getElem? (i := 4) rfl)))))
theorem mk_165 : (.methodLink RX12 236 yX12_isReady : Cond) ∈ mW := List.mem_append_right _ (List.mem_append_right _ (List.mem_append_right _ (List.mem_append_right _ (List.mem_append_left _ (List.mem_of_getElem? (i := 5) rfl)))))
theorem mk_166 : (.instanceMethod yX12_isReady : Cond) ∈ mW := List.mem_append_right _ (List.mem_append_right _ (List.mem_append_right _ (List.mem_append_right _ (List.mem_append_left _ (List.mem_of_getElem? (i := 6) rfl)))))
theorem mk_167 : (.selects RX12 yX12_isReady yX12_isReady : Cond) ∈ mW := List.mem_append_right _ (List.mem_append_right _ (List.mem_append_right _ (List.mem_append_right _ (List.mem_append_left _ (List.mem_of_getElem? (i := 7) rfl)))))
theorem mk_168 : (.methodLink RX12 239 yX12_setMind : Cond) ∈ mW := List.mem_append_right _ (List.mem_append_right _ (List.mem_append_right _ (List.mem_append_right _ (List.mem_append_left _ (List.mem_of_getElem? (i := 8) rfl)))))
theorem mk_169 : (.instanceMethod yX12_setMind : Cond) ∈ mW := List.mem_append_right _ (List.mem_append_right _ (List.mem_append_right _ (List.mem_append_right _ (List.mem_append_left _ (List.mem_of_getElem? (i := 9) rfl)))))
theorem mk_170 : (.selects RX12 yX12_setMind yX12_setMind : Cond) ∈ mW := List.mem_append_right _ (List.mem_append_right _ (List.mem_append_right _ (List.mem_append_right _ (List.mem_append_left _ (List.mem_of_getElem? (i := 10) rfl)))))
theorem mk_171 : (.code yX12_anew cX12_anew 1 (some .int) : Cond) ∈ mW := List.mem_append_right _ (List.mem_append_right _ (List.mem_append_right _ (List.mem_append_right _ (List.mem_append_left _ (List.mem_of_getElem? (i := 11) rfl)))))
theorem mk_172 : (.code yX12_hear cX12_hear 4 none : Cond) ∈ mW := List.mem_append_right _ (List.mem_append_right _ (List.mem_append_right _ (List.mem_append_right _ (List.mem_append_left _ (List.mem_of_getElem? (i := 12) rfl)))))
theorem mk_173 : (.methodLink RX12 242 yX12_hear : Cond) ∈ mW := List.mem_append_right _ (List.mem_append_right _ (List.mem_append_right _ (List.mem_append_right _ (List.mem_append_left _ (List.mem_of_getElem? (i := 13) rfl)))))
theorem mk_174 : (.instanceMethod yX12_hear : Cond) ∈ mW := List.mem_append_right _ (List.mem_append_right _ (List.mem_append_right _ (List.mem_append_right _ (List.mem_append_left _ (List.mem_of_getElem? (i := 14) rfl)))))
theorem mk_175 : (.selects RX12 yX12_hear yX12_hear : Cond) ∈ mW := List.mem_append_right _ (List.mem_append_right _ (List.mem_append_right _ (List.mem_append_right _ (List.mem_append_left _ (List.mem_of_getElem? (i := 15) rfl)))))
theorem mk_176 : (.methodLink RX12 246 yX12_keepMind : Cond) ∈ mW := List.mem_append_right _ (List.mem_append_right _ (List.mem_append_right _ (List.mem_append_right _ (List.mem_append_left _ (List.mem_of_getElem? (i := 16) rfl)))))
theorem mk_177 : (.instanceMethod yX12_keepMind : Cond) ∈ mW := List.mem_append_right _ (List.mem_append_right _ (List.mem_append_right _ (List.mem_append_right _ (List.mem_append_left _ (List.mem_of_getElem? (i := 17) rfl)))))
theorem mk_178 : (.selects RX12 yX12_keepMind yX12_keepMind : Cond) ∈ mW := List.mem_append_right _ (List.mem_append_right _ (List.mem_append_right _ (List.mem_append_right _ (List.mem_append_left _ (List.mem_of_getElem? (i := 18) rfl)))))
theorem mk_179 : (.code yX12_answer cX12_answer 3 (some .int) : Cond) ∈ mW := List.mem_append_right _ (List.mem_append_right _ (List.mem_append_right _ (List.mem_append_right _ (List.mem_append_left _ (List.mem_of_getElem? (i := 19) rfl)))))
theorem mk_180 : (.code yX12_see cX12_see 4 none : Cond) ∈ mW := List.mem_append_right _ (List.mem_append_right _ (List.mem_append_right _ (List.mem_append_right _ (List.mem_append_left _ (List.mem_of_getElem? (i := 20) rfl)))))
theorem mk_181 : (.methodLink RX12 249 yX12_see : Cond) ∈ mW := List.mem_append_right _ (List.mem_append_right _ (List.mem_append_right _ (List.mem_append_right _ (List.mem_append_left _ (List.mem_of_getElem? (i := 21) rfl)))))
theorem mk_182 : (.instanceMethod yX12_see : Cond) ∈ mW := List.mem_append_right _ (List.mem_append_right _ (List.mem_append_right _ (List.mem_append_right _ (List.mem_append_left _ (List.mem_of_getElem? (i := 22) rfl)))))
theorem mk_183 : (.selects RX12 yX12_see yX12_see : Cond) ∈ mW := List.mem_append_right _ (List.mem_append_right _ (List.mem_append_right _ (List.mem_append_right _ (List.mem_append_left _ (List.mem_of_getElem? (i := 23) rfl)))))
theorem mk_184 : (.code yX12_found cX12_found 3 (some .int) : Cond) ∈ mW := List.mem_append_right _ (List.mem_append_right _ (List.mem_append_right _ (List.mem_append_right _ (List.mem_append_left _ (List.mem_of_getElem? (i := 24) rfl)))))
theorem mk_185 : (.code yX12_same cX12_same 7 (some .int) : Cond) ∈ mW := List.mem_append_right _ (List.mem_append_right _ (List.mem_append_right _ (List.mem_append_right _ (List.mem_append_left _ (List.mem_of_getElem? (i := 25) rfl)))))
theorem mk_186 : (.code yX12_allThought cX12_allThought 4 (some .long) : Cond) ∈ mW := List.mem_append_right _ (List.mem_append_right _ (List.mem_append_right _ (List.mem_append_right _ (List.mem_append_left _ (List.mem_of_getElem? (i := 26) rfl)))))
theorem mk_187 : (.constantLong RX12 253 (-4000000000000000001) : Cond) ∈ mW := List.mem_append_right _ (List.mem_append_right _ (List.mem_append_right _ (List.mem_append_right _ (List.mem_append_left _ (List.mem_of_getElem? (i := 27) rfl)))))
theorem mk_188 : (.constantLong RX12 255 (-4000000000000000003) : Cond) ∈ mW := List.mem_append_right _ (List.mem_append_right _ (List.mem_append_right _ (List.mem_append_right _ (List.mem_append_left _ (List.mem_of_getElem? (i := 28) rfl)))))
theorem mk_189 : (.methodLink RX12 257 yX12_allThought : Cond) ∈ mW := List.mem_append_right _ (List.mem_append_right _ (List.mem_append_right _ (List.mem_append_right _ (List.mem_append_left _ (List.mem_of_getElem? (i := 29) rfl)))))
theorem mk_190 : (.instanceMethod yX12_allThought : Cond) ∈ mW := List.mem_append_right _ (List.mem_append_right _ (List.mem_append_right _ (List.mem_append_right _ (List.mem_append_left _ (List.mem_of_getElem? (i := 30) rfl)))))
theorem mk_191 : (.selects RX12 yX12_allThought yX12_allThought : Cond) ∈ mW := List.mem_append_right _ (List.mem_append_right _ (List.mem_append_right _ (List.mem_append_right _ (List.mem_append_left _ (List.mem_of_getElem? (i := 31) rfl)))))
theorem mk_192 : (.code yX12_think cX12_think 5 (some .long) : Cond) ∈ mW := List.mem_append_right _ (List.mem_append_right _ (List.mem_append_right _ (List.mem_append_right _ (List.mem_append_left _ (List.mem_of_getElem? (i := 32) rfl)))))
theorem mk_193 : (.constantLong RX12 261 (-128) : Cond) ∈ mW := List.mem_append_right _ (List.mem_append_right _ (List.mem_append_right _ (List.mem_append_right _ (List.mem_append_left _ (List.mem_of_getElem? (i := 33) rfl)))))
theorem mk_194 : (.constantLong RX12 263 (-32768) : Cond) ∈ mW := List.mem_append_right _ (List.mem_append_right _ (List.mem_append_right _ (List.mem_append_right _ (List.mem_append_left _ (List.mem_of_getElem? (i := 34) rfl)))))
theorem mk_195 : (.constantLong RX12 265 (-2147483648) : Cond) ∈ mW := List.mem_append_right _ (List.mem_append_right _ (List.mem_append_right _ (List.mem_append_right _ (List.mem_append_left _ (List.mem_of_getElem? (i := 35) rfl)))))
theorem mk_196 : (.code yX12_judge cX12_judge 7 (some .int) : Cond) ∈ mW := List.mem_append_right _ (List.mem_append_right _ (List.mem_append_right _ (List.mem_append_right _ (List.mem_append_left _ (List.mem_of_getElem? (i := 36) rfl)))))
theorem mk_197 : (.code yX12_ask cX12_ask 6 (some .int) : Cond) ∈ mW := List.mem_append_right _ (List.mem_append_right _ (List.mem_append_right _ (List.mem_append_right _ (List.mem_append_left _ (List.mem_of_getElem? (i := 37) rfl)))))
theorem mk_198 : (.fieldLink RX12 267 "AskNextModel" "minutes" "I" : Cond) ∈ mW := List.mem_append_right _ (List.mem_append_right _ (List.mem_append_right _ (List.mem_append_right _ (List.mem_append_left _ (List.mem_of_getElem? (i := 38) rfl)))))
theorem mk_199 : (.fieldLink RX12 270 "AskNextModel" "asked" "I" : Cond) ∈ mW := List.mem_append_right _ (List.mem_append_right _ (List.mem_append_right _ (List.mem_append_right _ (List.mem_append_left _ (List.mem_of_getElem? (i := 39) rfl)))))
theorem mk_200 : (.fieldLink RX12 273 "AskNextModel" "seed" "I" : Cond) ∈ mW := List.mem_append_right _ (List.mem_append_right _ (List.mem_append_right _ (List.mem_append_right _ (List.mem_append_right _ (List.mem_append_left _ (List.mem_of_getElem? (i := 0) rfl))))))
theorem mk_201 : (.constant RX12 276 (1103515245) : Cond) ∈ mW := List.mem_append_right _ (List.mem_append_right _ (List.mem_append_right _ (List.mem_append_right _ (List.mem_append_right _ (List.mem_append_left _ (List.mem_of_getElem? (i := 1) rfl))))))
theorem mk_202 : (.constant RX12 277 (2147483647) : Cond) ∈ mW := List.mem_append_right _ (List.mem_append_right _ (List.mem_append_right _ (List.mem_append_right _ (List.mem_append_right _ (List.mem_append_left _ (List.mem_of_getElem? (i := 2) rfl))))))
theorem mk_203 : (.constant RX12 278 (65536) : Cond) ∈ mW := List.mem_append_right _ (List.mem_append_right _ (List.mem_append_right _ (List.mem_append_right _ (List.mem_append_right _ (List.mem_append_left _ (List.mem_of_getElem? (i := 3) rfl))))))
theorem mk_204 : (.code yX12_believe cX12_believe 3 none : Cond) ∈ mW := List.mem_append_right _ (List.mem_append_right _ (List.mem_append_right _ (List.mem_append_right _ (List.mem_append_right _ (List.mem_append_left _ (List.mem_of_getElem? (i := 4) rfl))))))
theorem mk_205 : (.methodLink RX12 279 yX12_ask : Cond) ∈ mW := List.mem_append_right _ (List.mem_append_right _ (List.mem_append_right _ (List.mem_append_right _ (List.mem_append_right _ (List.mem_append_left _ (List.mem_of_getElem? (i := 5) rfl))))))
theorem mk_206 : (.instanceMethod yX12_ask : Cond) ∈ mW := List.mem_append_right _ (List.mem_append_right _ (List.mem_append_right _ (List.mem_append_right _ (List.mem_append_right _ (List.mem_append_left _ (List.mem_of_getElem? (i := 6) rfl))))))
theorem mk_207 : (.selects RX12 yX12_ask yX12_ask : Cond) ∈ mW := List.mem_append_right _ (List.mem_append_right _ (List.mem_append_right _ (List.mem_append_right _ (List.mem_append_right _ (List.mem_append_left _ (List.mem_of_getElem? (i := 7) rfl))))))
theorem mk_208 : (.methodLink RX12 282 yX12_believe : Cond) ∈ mW := List.mem_append_right _ (List.mem_append_right _ (List.mem_append_right _ (List.mem_append_right _ (List.mem_append_right _ (List.mem_append_left _ (List.mem_of_getElem? (i := 8) rfl))))))
theorem mk_209 : (.instanceMethod yX12_believe : Cond) ∈ mW := List.mem_append_right _ (List.mem_append_right _ (List.mem_append_right _ (List.mem_append_right _ (List.mem_append_right _ (List.mem_append_left _ (List.mem_of_getElem? (i := 9) rfl))))))
theorem mk_210 : (.selects RX12 yX12_believe yX12_believe : Cond) ∈ mW := List.mem_append_right _ (List.mem_append_right _ (List.mem_append_right _ (List.mem_append_right _ (List.mem_append_right _ (List.mem_append_left _ (List.mem_of_getElem? (i := 10) rfl))))))
theorem mk_211 : (.code yX12_begin cX12_begin 8 none : Cond) ∈ mW := List.mem_append_right _ (List.mem_append_right _ (List.mem_append_right _ (List.mem_append_right _ (List.mem_append_right _ (List.mem_append_left _ (List.mem_of_getElem? (i := 11) rfl))))))
theorem mk_212 : (.code yX12_doubts cX12_doubts 5 (some .boolean) : Cond) ∈ mW := List.mem_append_right _ (List.mem_append_right _ (List.mem_append_right _ (List.mem_append_right _ (List.mem_append_right _ (List.mem_append_left _ (List.mem_of_getElem? (i := 12) rfl))))))
theorem mk_213 : (.code yX12_hearOnWay cX12_hearOnWay 4 none : Cond) ∈ mW := List.mem_append_right _ (List.mem_append_right _ (List.mem_append_right _ (List.mem_append_right _ (List.mem_append_right _ (List.mem_append_left _ (List.mem_of_getElem? (i := 13) rfl))))))
theorem mk_214 : (.fieldLink RX12 285 "AskNextModel" "gone" "I" : Cond) ∈ mW := List.mem_append_right _ (List.mem_append_right _ (List.mem_append_right _ (List.mem_append_right _ (List.mem_append_right _ (List.mem_append_left _ (List.mem_of_getElem? (i := 14) rfl))))))
theorem mk_215 : (.fieldLink RX12 288 "AskNextModel" "isLost" "Z" : Cond) ∈ mW := List.mem_append_right _ (List.mem_append_right _ (List.mem_append_right _ (List.mem_append_right _ (List.mem_append_right _ (List.mem_append_left _ (List.mem_of_getElem? (i := 15) rfl))))))
theorem mk_216 : (.methodLink RX12 291 yX12_begin : Cond) ∈ mW := List.mem_append_right _ (List.mem_append_right _ (List.mem_append_right _ (List.mem_append_right _ (List.mem_append_right _ (List.mem_append_left _ (List.mem_of_getElem? (i := 16) rfl))))))
theorem mk_217 : (.instanceMethod yX12_begin : Cond) ∈ mW := List.mem_append_right _ (List.mem_append_right _ (List.mem_append_right _ (List.mem_append_right _ (List.mem_append_right _ (List.mem_append_left _ (List.mem_of_getElem? (i := 17) rfl))))))
theorem mk_218 : (.selects RX12 yX12_begin yX12_begin : Cond) ∈ mW := List.mem_append_right _ (List.mem_append_right _ (List.mem_append_right _ (List.mem_append_right _ (List.mem_append_right _ (List.mem_append_left _ (List.mem_of_getElem? (i := 18) rfl))))))
theorem mk_219 : (.methodLink RX12 295 yX12_doubts : Cond) ∈ mW := List.mem_append_right _ (List.mem_append_right _ (List.mem_append_right _ (List.mem_append_right _ (List.mem_append_right _ (List.mem_append_left _ (List.mem_of_getElem? (i := 19) rfl))))))
theorem mk_220 : (.instanceMethod yX12_doubts : Cond) ∈ mW := List.mem_append_right _ (List.mem_append_right _ (List.mem_append_right _ (List.mem_append_right _ (List.mem_append_right _ (List.mem_append_left _ (List.mem_of_getElem? (i := 20) rfl))))))
theorem mk_221 : (.selects RX12 yX12_doubts yX12_doubts : Cond) ∈ mW := List.mem_append_right _ (List.mem_append_right _ (List.mem_append_right _ (List.mem_append_right _ (List.mem_append_right _ (List.mem_append_left _ (List.mem_of_getElem? (i := 21) rfl))))))
theorem mk_222 : (.methodLink RX12 298 yX12_hearOnWay : Cond) ∈ mW := List.mem_append_right _ (List.mem_append_right _ (List.mem_append_right _ (List.mem_append_right _ (List.mem_append_right _ (List.mem_append_left _ (List.mem_of_getElem? (i := 22) rfl))))))
theorem mk_223 : (.instanceMethod yX12_hearOnWay : Cond) ∈ mW := List.mem_append_right _ (List.mem_append_right _ (List.mem_append_right _ (List.mem_append_right _ (List.mem_append_right _ (List.mem_append_left _ (List.mem_of_getElem? (i := 23) rfl))))))
theorem mk_224 : (.selects RX12 yX12_hearOnWay yX12_hearOnWay : Cond) ∈ mW := List.mem_append_right _ (List.mem_append_right _ (List.mem_append_right _ (List.mem_append_right _ (List.mem_append_right _ (List.mem_append_left _ (List.mem_of_getElem? (i := 24) rfl))))))
theorem mk_225 : (.code yX12_walkBy cX12_walkBy 13 none : Cond) ∈ mW := List.mem_append_right _ (List.mem_append_right _ (List.mem_append_right _ (List.mem_append_right _ (List.mem_append_right _ (List.mem_append_left _ (List.mem_of_getElem? (i := 25) rfl))))))
theorem mk_226 : (.methodLink RX12 301 yX12_walkBy : Cond) ∈ mW := List.mem_append_right _ (List.mem_append_right _ (List.mem_append_right _ (List.mem_append_right _ (List.mem_append_right _ (List.mem_append_left _ (List.mem_of_getElem? (i := 26) rfl))))))
theorem mk_227 : (.instanceMethod yX12_walkBy : Cond) ∈ mW := List.mem_append_right _ (List.mem_append_right _ (List.mem_append_right _ (List.mem_append_right _ (List.mem_append_right _ (List.mem_append_left _ (List.mem_of_getElem? (i := 27) rfl))))))
theorem mk_228 : (.selects RX12 yX12_walkBy yX12_walkBy : Cond) ∈ mW := List.mem_append_right _ (List.mem_append_right _ (List.mem_append_right _ (List.mem_append_right _ (List.mem_append_right _ (List.mem_append_left _ (List.mem_of_getElem? (i := 28) rfl))))))
theorem mk_229 : (.code yX12_walk cX12_walk 3 (some .int) : Cond) ∈ mW := List.mem_append_right _ (List.mem_append_right _ (List.mem_append_right _ (List.mem_append_right _ (List.mem_append_right _ (List.mem_append_left _ (List.mem_of_getElem? (i := 29) rfl))))))
theorem mk_230 : (.constantLong RX12 305 (999) : Cond) ∈ mW := List.mem_append_right _ (List.mem_append_right _ (List.mem_append_right _ (List.mem_append_right _ (List.mem_append_right _ (List.mem_append_left _ (List.mem_of_getElem? (i := 30) rfl))))))
theorem mk_231 : (.code yX12_worthBy cX12_worthBy 11 (some .long) : Cond) ∈ mW := List.mem_append_right _ (List.mem_append_right _ (List.mem_append_right _ (List.mem_append_right _ (List.mem_append_right _ (List.mem_append_left _ (List.mem_of_getElem? (i := 31) rfl))))))
theorem mk_232 : (.methodLink RX12 307 yX12_worthBy : Cond) ∈ mW := List.mem_append_right _ (List.mem_append_right _ (List.mem_append_right _ (List.mem_append_right _ (List.mem_append_right _ (List.mem_append_left _ (List.mem_of_getElem? (i := 32) rfl))))))
theorem mk_233 : (.instanceMethod yX12_worthBy : Cond) ∈ mW := List.mem_append_right _ (List.mem_append_right _ (List.mem_append_right _ (List.mem_append_right _ (List.mem_append_right _ (List.mem_append_left _ (List.mem_of_getElem? (i := 33) rfl))))))
theorem mk_234 : (.selects RX12 yX12_worthBy yX12_worthBy : Cond) ∈ mW := List.mem_append_right _ (List.mem_append_right _ (List.mem_append_right _ (List.mem_append_right _ (List.mem_append_right _ (List.mem_append_left _ (List.mem_of_getElem? (i := 34) rfl))))))
theorem mk_235 : (.code yX12_worth cX12_worth 2 (some .long) : Cond) ∈ mW := List.mem_append_right _ (List.mem_append_right _ (List.mem_append_right _ (List.mem_append_right _ (List.mem_append_right _ (List.mem_append_left _ (List.mem_of_getElem? (i := 35) rfl))))))
theorem mk_236 : (.code yX12_never cX12_never 5 (some .int) : Cond) ∈ mW := List.mem_append_right _ (List.mem_append_right _ (List.mem_append_right _ (List.mem_append_right _ (List.mem_append_right _ (List.mem_append_left _ (List.mem_of_getElem? (i := 36) rfl))))))
theorem mk_237 : (.code yX12_wrongRule cX12_wrongRule 2 (some .int) : Cond) ∈ mW := List.mem_append_right _ (List.mem_append_right _ (List.mem_append_right _ (List.mem_append_right _ (List.mem_append_right _ (List.mem_append_left _ (List.mem_of_getElem? (i := 37) rfl))))))
theorem mk_238 : (.code yX12_walkFromStart cX12_walkFromStart 6 none : Cond) ∈ mW := List.mem_append_right _ (List.mem_append_right _ (List.mem_append_right _ (List.mem_append_right _ (List.mem_append_right _ (List.mem_append_left _ (List.mem_of_getElem? (i := 38) rfl))))))
theorem mk_239 : (.methodLink RX12 311 yX12_wrongRule : Cond) ∈ mW := List.mem_append_right _ (List.mem_append_right _ (List.mem_append_right _ (List.mem_append_right _ (List.mem_append_right _ (List.mem_append_left _ (List.mem_of_getElem? (i := 39) rfl))))))
theorem mk_240 : (.instanceMethod yX12_wrongRule : Cond) ∈ mW := List.mem_append_right _ (List.mem_append_right _ (List.mem_append_right _ (List.mem_append_right _ (List.mem_append_right _ (List.mem_append_right _ (List.mem_append_left _ (List.mem_of_getElem? (i := 0) rfl)))))))
theorem mk_241 : (.selects RX12 yX12_wrongRule yX12_wrongRule : Cond) ∈ mW := List.mem_append_right _ (List.mem_append_right _ (List.mem_append_right _ (List.mem_append_right _ (List.mem_append_right _ (List.mem_append_right _ (List.mem_append_left _ (List.mem_of_getElem? (i := 1) rfl)))))))
theorem mk_242 : (.methodLink RX12 314 yX12_walkFromStart : Cond) ∈ mW := List.mem_append_right _ (List.mem_append_right _ (List.mem_append_right _ (List.mem_append_right _ (List.mem_append_right _ (List.mem_append_right _ (List.mem_append_left _ (List.mem_of_getElem? (i := 2) rfl)))))))
theorem mk_243 : (.instanceMethod yX12_walkFromStart : Cond) ∈ mW := List.mem_append_right _ (List.mem_append_right _ (List.mem_append_right _ (List.mem_append_right _ (List.mem_append_right _ (List.mem_append_right _ (List.mem_append_left _ (List.mem_of_getElem? (i := 3) rfl)))))))
theorem mk_244 : (.selects RX12 yX12_walkFromStart yX12_walkFromStart : Cond) ∈ mW := List.mem_append_right _ (List.mem_append_right _ (List.mem_append_right _ (List.mem_append_right _ (List.mem_append_right _ (List.mem_append_right _ (List.mem_append_left _ (List.mem_of_getElem? (i := 4) rfl)))))))
theorem mk_245 : (.code yX12_by cX12_by 5 (some .int) : Cond) ∈ mW := List.mem_append_right _ (List.mem_append_right _ (List.mem_append_right _ (List.mem_append_right _ (List.mem_append_right _ (List.mem_append_right _ (List.mem_append_left _ (List.mem_of_getElem? (i := 5) rfl)))))))
theorem mk_246 : (.code yX12_meanOf cX12_meanOf 8 (some .int) : Cond) ∈ mW := List.mem_append_right _ (List.mem_append_right _ (List.mem_append_right _ (List.mem_append_right _ (List.mem_append_right _ (List.mem_append_right _ (List.mem_append_left _ (List.mem_of_getElem? (i := 6) rfl)))))))
theorem mk_247 : (.code yX12_wrongMean cX12_wrongMean 3 (some .int) : Cond) ∈ mW := List.mem_append_right _ (List.mem_append_right _ (List.mem_append_right _ (List.mem_append_right _ (List.mem_append_right _ (List.mem_append_right _ (List.mem_append_left _ (List.mem_of_getElem? (i := 7) rfl)))))))
theorem mk_248 : (.constantLong RX12 317 (20) : Cond) ∈ mW := List.mem_append_right _ (List.mem_append_right _ (List.mem_append_right _ (List.mem_append_right _ (List.mem_append_right _ (List.mem_append_right _ (List.mem_append_left _ (List.mem_of_getElem? (i := 8) rfl)))))))
theorem mk_249 : (.methodLink RX12 319 yX12_wrongMean : Cond) ∈ mW := List.mem_append_right _ (List.mem_append_right _ (List.mem_append_right _ (List.mem_append_right _ (List.mem_append_right _ (List.mem_append_right _ (List.mem_append_left _ (List.mem_of_getElem? (i := 9) rfl)))))))
theorem mk_250 : (.instanceMethod yX12_wrongMean : Cond) ∈ mW := List.mem_append_right _ (List.mem_append_right _ (List.mem_append_right _ (List.mem_append_right _ (List.mem_append_right _ (List.mem_append_right _ (List.mem_append_left _ (List.mem_of_getElem? (i := 10) rfl)))))))
theorem mk_251 : (.selects RX12 yX12_wrongMean yX12_wrongMean : Cond) ∈ mW := List.mem_append_right _ (List.mem_append_right _ (List.mem_append_right _ (List.mem_append_right _ (List.mem_append_right _ (List.mem_append_right _ (List.mem_append_left _ (List.mem_of_getElem? (i := 11) rfl)))))))
theorem mk_252 : (.methodLink RX12 322 yX12_meanOf : Cond) ∈ mW := List.mem_append_right _ (List.mem_append_right _ (List.mem_append_right _ (List.mem_append_right _ (List.mem_append_right _ (List.mem_append_right _ (List.mem_append_left _ (List.mem_of_getElem? (i := 12) rfl)))))))
theorem mk_253 : (.instanceMethod yX12_meanOf : Cond) ∈ mW := List.mem_append_right _ (List.mem_append_right _ (List.mem_append_right _ (List.mem_append_right _ (List.mem_append_right _ (List.mem_append_right _ (List.mem_append_left _ (List.mem_of_getElem? (i := 13) rfl)))))))
theorem mk_254 : (.selects RX12 yX12_meanOf yX12_meanOf : Cond) ∈ mW := List.mem_append_right _ (List.mem_append_right _ (List.mem_append_right _ (List.mem_append_right _ (List.mem_append_right _ (List.mem_append_right _ (List.mem_append_left _ (List.mem_of_getElem? (i := 14) rfl)))))))
theorem mk_255 : (.code yX12_mean cX12_mean 4 (some .int) : Cond) ∈ mW := List.mem_append_right _ (List.mem_append_right _ (List.mem_append_right _ (List.mem_append_right _ (List.mem_append_right _ (List.mem_append_right _ (List.mem_append_left _ (List.mem_of_getElem? (i := 15) rfl)))))))
theorem mk_256 : (.constantLong RX12 326 (9999) : Cond) ∈ mW := List.mem_append_right _ (List.mem_append_right _ (List.mem_append_right _ (List.mem_append_right _ (List.mem_append_right _ (List.mem_append_right _ (List.mem_append_left _ (List.mem_of_getElem? (i := 16) rfl)))))))
theorem mk_257 : (.code yX12_dusk cX12_dusk 9 (some .int) : Cond) ∈ mW := List.mem_append_right _ (List.mem_append_right _ (List.mem_append_right _ (List.mem_append_right _ (List.mem_append_right _ (List.mem_append_right _ (List.mem_append_left _ (List.mem_of_getElem? (i := 17) rfl)))))))
theorem mk_258 : (.constantLong RX12 328 (99) : Cond) ∈ mW := List.mem_append_right _ (List.mem_append_right _ (List.mem_append_right _ (List.mem_append_right _ (List.mem_append_right _ (List.mem_append_right _ (List.mem_append_left _ (List.mem_of_getElem? (i := 18) rfl)))))))
theorem mk_259 : (.constantLong RX12 330 (6) : Cond) ∈ mW := List.mem_append_right _ (List.mem_append_right _ (List.mem_append_right _ (List.mem_append_right _ (List.mem_append_right _ (List.mem_append_right _ (List.mem_append_left _ (List.mem_of_getElem? (i := 19) rfl)))))))
theorem mk_260 : (.constantLong RX12 332 (5) : Cond) ∈ mW := List.mem_append_right _ (List.mem_append_right _ (List.mem_append_right _ (List.mem_append_right _ (List.mem_append_right _ (List.mem_append_right _ (List.mem_append_left _ (List.mem_of_getElem? (i := 20) rfl)))))))
theorem mk_261 : (.code yX12_best cX12_best 10 (some .int) : Cond) ∈ mW := List.mem_append_right _ (List.mem_append_right _ (List.mem_append_right _ (List.mem_append_right _ (List.mem_append_right _ (List.mem_append_right _ (List.mem_append_left _ (List.mem_of_getElem? (i := 21) rfl)))))))
theorem mk_262 : (.code yX12_post cX12_post 7 (some .int) : Cond) ∈ mW := List.mem_append_right _ (List.mem_append_right _ (List.mem_append_right _ (List.mem_append_right _ (List.mem_append_right _ (List.mem_append_right _ (List.mem_append_left _ (List.mem_of_getElem? (i := 22) rfl)))))))
theorem mk_263 : (.code yX12_moveLong cX12_moveLong 3 (some .long) : Cond) ∈ mW := List.mem_append_right _ (List.mem_append_right _ (List.mem_append_right _ (List.mem_append_right _ (List.mem_append_right _ (List.mem_append_right _ (List.mem_append_left _ (List.mem_of_getElem? (i := 23) rfl)))))))
theorem mk_264 : (.fieldLink RX12 334 "AskNextModel" "isTaking" "Z" : Cond) ∈ mW := List.mem_append_right _ (List.mem_append_right _ (List.mem_append_right _ (List.mem_append_right _ (List.mem_append_right _ (List.mem_append_right _ (List.mem_append_left _ (List.mem_of_getElem? (i := 24) rfl)))))))
theorem mk_265 : (.fieldLink RX12 337 "AskNextModel" "imageAt" "I" : Cond) ∈ mW := List.mem_append_right _ (List.mem_append_right _ (List.mem_append_right _ (List.mem_append_right _ (List.mem_append_right _ (List.mem_append_right _ (List.mem_append_left _ (List.mem_of_getElem? (i := 25) rfl)))))))
theorem mk_266 : (.code yX12_move cX12_move 2 (some .int) : Cond) ∈ mW := List.mem_append_right _ (List.mem_append_right _ (List.mem_append_right _ (List.mem_append_right _ (List.mem_append_right _ (List.mem_append_right _ (List.mem_append_left _ (List.mem_of_getElem? (i := 26) rfl)))))))
theorem mk_267 : (.methodLink RX12 340 yX12_moveLong : Cond) ∈ mW := List.mem_append_right _ (List.mem_append_right _ (List.mem_append_right _ (List.mem_append_right _ (List.mem_append_right _ (List.mem_append_right _ (List.mem_append_left _ (List.mem_of_getElem? (i := 27) rfl)))))))
theorem mk_268 : (.instanceMethod yX12_moveLong : Cond) ∈ mW := List.mem_append_right _ (List.mem_append_right _ (List.mem_append_right _ (List.mem_append_right _ (List.mem_append_right _ (List.mem_append_right _ (List.mem_append_left _ (List.mem_of_getElem? (i := 28) rfl)))))))
theorem mk_269 : (.selects RX12 yX12_moveLong yX12_moveLong : Cond) ∈ mW := List.mem_append_right _ (List.mem_append_right _ (List.mem_append_right _ (List.mem_append_right _ (List.mem_append_right _ (List.mem_append_right _ (List.mem_append_left _ (List.mem_of_getElem? (i := 29) rfl)))))))
theorem mk_270 : (.methodLink RX12 344 yX12_move : Cond) ∈ mW := List.mem_append_right _ (List.mem_append_right _ (List.mem_append_right _ (List.mem_append_right _ (List.mem_append_right _ (List.mem_append_right _ (List.mem_append_left _ (List.mem_of_getElem? (i := 30) rfl)))))))
theorem mk_271 : (.instanceMethod yX12_move : Cond) ∈ mW := List.mem_append_right _ (List.mem_append_right _ (List.mem_append_right _ (List.mem_append_right _ (List.mem_append_right _ (List.mem_append_right _ (List.mem_append_left _ (List.mem_of_getElem? (i := 31) rfl)))))))
theorem mk_272 : (.selects RX12 yX12_move yX12_move : Cond) ∈ mW := List.mem_append_right _ (List.mem_append_right _ (List.mem_append_right _ (List.mem_append_right _ (List.mem_append_right _ (List.mem_append_right _ (List.mem_append_left _ (List.mem_of_getElem? (i := 32) rfl)))))))
theorem mk_273 : (.code yX12_moveAll cX12_moveAll 2 none : Cond) ∈ mW := List.mem_append_right _ (List.mem_append_right _ (List.mem_append_right _ (List.mem_append_right _ (List.mem_append_right _ (List.mem_append_right _ (List.mem_append_left _ (List.mem_of_getElem? (i := 33) rfl)))))))
theorem mk_274 : (.fieldLink RX12 347 "AskNextModel" "hasImage" "Z" : Cond) ∈ mW := List.mem_append_right _ (List.mem_append_right _ (List.mem_append_right _ (List.mem_append_right _ (List.mem_append_right _ (List.mem_append_right _ (List.mem_append_left _ (List.mem_of_getElem? (i := 34) rfl)))))))
theorem mk_275 : (.methodLink RX12 350 yX12_moveAll : Cond) ∈ mW := List.mem_append_right _ (List.mem_append_right _ (List.mem_append_right _ (List.mem_append_right _ (List.mem_append_right _ (List.mem_append_right _ (List.mem_append_left _ (List.mem_of_getElem? (i := 35) rfl)))))))
theorem mk_276 : (.instanceMethod yX12_moveAll : Cond) ∈ mW := List.mem_append_right _ (List.mem_append_right _ (List.mem_append_right _ (List.mem_append_right _ (List.mem_append_right _ (List.mem_append_right _ (List.mem_append_left _ (List.mem_of_getElem? (i := 36) rfl)))))))
theorem mk_277 : (.selects RX12 yX12_moveAll yX12_moveAll : Cond) ∈ mW := List.mem_append_right _ (List.mem_append_right _ (List.mem_append_right _ (List.mem_append_right _ (List.mem_append_right _ (List.mem_append_right _ (List.mem_append_left _ (List.mem_of_getElem? (i := 37) rfl)))))))
theorem mk_278 : (.code yX12_image cX12_image 1 (some .int) : Cond) ∈ mW := List.mem_append_right _ (List.mem_append_right _ (List.mem_append_right _ (List.mem_append_right _ (List.mem_append_right _ (List.mem_append_right _ (List.mem_append_left _ (List.mem_of_getElem? (i := 38) rfl)))))))
theorem mk_279 : (.code yX12_restore cX12_restore 1 (some .int) : Cond) ∈ mW := List.mem_append_right _ (List.mem_append_right _ (List.mem_append_right _ (List.mem_append_right _ (List.mem_append_right _ (List.mem_append_right _ (List.mem_append_left _ (List.mem_of_getElem? (i := 39) rfl)))))))
theorem mk_280 : (.code yX12_count cX12_count 4 (some .int) : Cond) ∈ mW := List.mem_append_right _ (List.mem_append_right _ (List.mem_append_right _ (List.mem_append_right _ (List.mem_append_right _ (List.mem_append_right _ (List.mem_append_right _ (List.mem_append_left _ (List.mem_of_getElem? (i := 0) rfl))))))))
theorem mk_281 : (.code yX12_keep cX12_keep 5 (some .int) : Cond) ∈ mW := List.mem_append_right _ (List.mem_append_right _ (List.mem_append_right _ (List.mem_append_right _ (List.mem_append_right _ (List.mem_append_right _ (List.mem_append_right _ (List.mem_append_left _ (List.mem_of_getElem? (i := 1) rfl))))))))
theorem mk_282 : (.code yX12_narrowed cX12_narrowed 2 (some .long) : Cond) ∈ mW := List.mem_append_right _ (List.mem_append_right _ (List.mem_append_right _ (List.mem_append_right _ (List.mem_append_right _ (List.mem_append_right _ (List.mem_append_right _ (List.mem_append_left _ (List.mem_of_getElem? (i := 2) rfl))))))))
theorem mk_283 : (.code yX12_row cX12_row 5 (some .int) : Cond) ∈ mW := List.mem_append_right _ (List.mem_append_right _ (List.mem_append_right _ (List.mem_append_right _ (List.mem_append_right _ (List.mem_append_right _ (List.mem_append_right _ (List.mem_append_left _ (List.mem_of_getElem? (i := 3) rfl))))))))
theorem mk_284 : (.code yX12_put cX12_put 5 (some .int) : Cond) ∈ mW := List.mem_append_right _ (List.mem_append_right _ (List.mem_append_right _ (List.mem_append_right _ (List.mem_append_right _ (List.mem_append_right _ (List.mem_append_right _ (List.mem_append_left _ (List.mem_of_getElem? (i := 4) rfl))))))))
theorem mk_285 : (.methodLink RX12 353 yX12_narrowed : Cond) ∈ mW := List.mem_append_right _ (List.mem_append_right _ (List.mem_append_right _ (List.mem_append_right _ (List.mem_append_right _ (List.mem_append_right _ (List.mem_append_right _ (List.mem_append_left _ (List.mem_of_getElem? (i := 5) rfl))))))))
theorem mk_286 : (.static yX12_narrowed : Cond) ∈ mW := List.mem_append_right _ (List.mem_append_right _ (List.mem_append_right _ (List.mem_append_right _ (List.mem_append_right _ (List.mem_append_right _ (List.mem_append_right _ (List.mem_append_left _ (List.mem_of_getElem? (i := 6) rfl))))))))
theorem mk_287 : (.code yX12_element cX12_element 4 (some .long) : Cond) ∈ mW := List.mem_append_right _ (List.mem_append_right _ (List.mem_append_right _ (List.mem_append_right _ (List.mem_append_right _ (List.mem_append_right _ (List.mem_append_right _ (List.mem_append_left _ (List.mem_of_getElem? (i := 7) rfl))))))))
theorem mk_288 : (.code yX12_copy cX12_copy 7 (some .int) : Cond) ∈ mW := List.mem_append_right _ (List.mem_append_right _ (List.mem_append_right _ (List.mem_append_right _ (List.mem_append_right _ (List.mem_append_right _ (List.mem_append_right _ (List.mem_append_left _ (List.mem_of_getElem? (i := 8) rfl))))))))
theorem mk_289 : (.code yX12_weightOf cX12_weightOf 3 (some .int) : Cond) ∈ mW := List.mem_append_right _ (List.mem_append_right _ (List.mem_append_right _ (List.mem_append_right _ (List.mem_append_right _ (List.mem_append_right _ (List.mem_append_right _ (List.mem_append_left _ (List.mem_of_getElem? (i := 9) rfl))))))))
theorem mk_290 : (.code yX12_wrongShelf cX12_wrongShelf 2 (some .int) : Cond) ∈ mW := List.mem_append_right _ (List.mem_append_right _ (List.mem_append_right _ (List.mem_append_right _ (List.mem_append_right _ (List.mem_append_right _ (List.mem_append_right _ (List.mem_append_left _ (List.mem_of_getElem? (i := 10) rfl))))))))
theorem mk_291 : (.code yX12_weight cX12_weight 2 (some .int) : Cond) ∈ mW := List.mem_append_right _ (List.mem_append_right _ (List.mem_append_right _ (List.mem_append_right _ (List.mem_append_right _ (List.mem_append_right _ (List.mem_append_right _ (List.mem_append_left _ (List.mem_of_getElem? (i := 11) rfl))))))))
theorem mk_292 : (.methodLink RX12 356 yX12_wrongShelf : Cond) ∈ mW := List.mem_append_right _ (List.mem_append_right _ (List.mem_append_right _ (List.mem_append_right _ (List.mem_append_right _ (List.mem_append_right _ (List.mem_append_right _ (List.mem_append_left _ (List.mem_of_getElem? (i := 12) rfl))))))))
theorem mk_293 : (.instanceMethod yX12_wrongShelf : Cond) ∈ mW := List.mem_append_right _ (List.mem_append_right _ (List.mem_append_right _ (List.mem_append_right _ (List.mem_append_right _ (List.mem_append_right _ (List.mem_append_right _ (List.mem_append_left _ (List.mem_of_getElem? (i := 13) rfl))))))))
theorem mk_294 : (.selects RX12 yX12_wrongShelf yX12_wrongShelf : Cond) ∈ mW := List.mem_append_right _ (List.mem_append_right _ (List.mem_append_right _ (List.mem_append_right _ (List.mem_append_right _ (List.mem_append_right _ (List.mem_append_right _ (List.mem_append_left _ (List.mem_of_getElem? (i := 14) rfl))))))))
theorem mk_295 : (.methodLink RX12 359 yX12_weightOf : Cond) ∈ mW := List.mem_append_right _ (List.mem_append_right _ (List.mem_append_right _ (List.mem_append_right _ (List.mem_append_right _ (List.mem_append_right _ (List.mem_append_right _ (List.mem_append_left _ (List.mem_of_getElem? (i := 15) rfl))))))))
theorem mk_296 : (.instanceMethod yX12_weightOf : Cond) ∈ mW := List.mem_append_right _ (List.mem_append_right _ (List.mem_append_right _ (List.mem_append_right _ (List.mem_append_right _ (List.mem_append_right _ (List.mem_append_right _ (List.mem_append_left _ (List.mem_of_getElem? (i := 16) rfl))))))))
theorem mk_297 : (.selects RX12 yX12_weightOf yX12_weightOf : Cond) ∈ mW := List.mem_append_right _ (List.mem_append_right _ (List.mem_append_right _ (List.mem_append_right _ (List.mem_append_right _ (List.mem_append_right _ (List.mem_append_right _ (List.mem_append_left _ (List.mem_of_getElem? (i := 17) rfl))))))))
theorem mk_298 : (.code yX12_toss cX12_toss 3 (some .int) : Cond) ∈ mW := List.mem_append_right _ (List.mem_append_right _ (List.mem_append_right _ (List.mem_append_right _ (List.mem_append_right _ (List.mem_append_right _ (List.mem_append_right _ (List.mem_append_left _ (List.mem_of_getElem? (i := 18) rfl))))))))
theorem mk_base : ∀ w ∈ wsX120, w ∈ mW := fun w h => List.mem_append_right _ (List.mem_append_right _ (List.mem_append_right _ (List.mem_append_right _ (List.mem_append_right _ (List.mem_append_right _ (List.mem_append_right _ (List.mem_append_right _ (h))))))))
theorem mW_0_ok : mW_0.all goodWord = true := by decide +kernel
theorem mW_1_ok : mW_1.all goodWord = true := by decide +kernel
theorem mW_2_ok : mW_2.all goodWord = true := by decide +kernel
theorem mW_3_ok : mW_3.all goodWord = true := by decide +kernel
theorem mW_4_ok : mW_4.all goodWord = true := by decide +kernel
theorem mW_5_ok : mW_5.all goodWord = true := by decide +kernel
theorem mW_6_ok : mW_6.all goodWord = true := by decide +kernel
theorem mW_7_ok : mW_7.all goodWord = true := by decide +kernel
theorem mWb_ok : (wsX120).all goodWord = true := by decide +kernel
theorem mW_all : mW.all goodWord = true := by
  unfold mW
  simp only [List.all_append, mW_0_ok, mW_1_ok, mW_2_ok, mW_3_ok, mW_4_ok, mW_5_ok, mW_6_ok, mW_7_ok, mWb_ok, Bool.and_true]
theorem mW_good : ∀ w ∈ mW, (w.onTables && w.keeps) = true ∨ ∃ ty, w = .arrayClass ty := fun w h => good_of_word (List.all_eq_true.mp mW_all w h)
/-- a callee's words among a caller's: each has its code and the one list -/
theorem mg_V {y0 : MethodName} {c0 : ByteArray} {m0 : Nat} {r0 : Option FieldType} {idx : Nat} {y : MethodName} {c : ByteArray} {maxL : Nat} {ret : Option FieldType} (h1 : Cond.code y c maxL ret ∈ mW) (h2 : Cond.methodLink RX12 idx y ∈ mW) (h3 : Cond.instanceMethod y ∈ mW) (h4 : Cond.selects RX12 y y ∈ mW) (h5 : Cond.initialized RX12 ∈ mW) : GoodIn (Cond.code y0 c0 m0 r0 :: mW) (wsV RX12 idx RX12 y (Cond.code y c maxL ret :: mW)) := by
  intro w hw
  have key : ∀ v ∈ mW, v ∈ (Cond.code y0 c0 m0 r0 :: mW) ∧ ((v.onTables && v.keeps) = true ∨ ∃ ty, v = .arrayClass ty) := fun v hv => ⟨List.mem_cons_of_mem _ hv, mW_good v hv⟩
  unfold wsV at hw
  rcases List.mem_append.mp hw with hw | hw
  · simp only [List.mem_cons, List.not_mem_nil, or_false] at hw
    rcases hw with rfl | rfl | rfl | rfl
    · exact key _ h2
    · exact key _ h3
    · exact key _ h4
    · exact key _ h5
  · rcases List.mem_cons.mp hw with rfl | hw
    · exact key _ h1
    · exact key _ hw
theorem mg_S {y0 : MethodName} {c0 : ByteArray} {m0 : Nat} {r0 : Option FieldType} {idx : Nat} {y : MethodName} {c : ByteArray} {maxL : Nat} {ret : Option FieldType} (h1 : Cond.code y c maxL ret ∈ mW) (h2 : Cond.methodLink RX12 idx y ∈ mW) (h3 : Cond.static y ∈ mW) (h5 : Cond.initialized y.cls ∈ mW) : GoodIn (Cond.code y0 c0 m0 r0 :: mW) (va_wsS RX12 idx y (Cond.code y c maxL ret :: mW)) := by
  intro w hw
  have key : ∀ v ∈ mW, v ∈ (Cond.code y0 c0 m0 r0 :: mW) ∧ ((v.onTables && v.keeps) = true ∨ ∃ ty, v = .arrayClass ty) := fun v hv => ⟨List.mem_cons_of_mem _ hv, mW_good v hv⟩
  unfold va_wsS at hw
  rcases List.mem_append.mp hw with hw | hw
  · simp only [List.mem_cons, List.not_mem_nil, or_false] at hw
    rcases hw with rfl | rfl | rfl
    · exact key _ h2
    · exact key _ h3
    · exact key _ h5
  · rcases List.mem_cons.mp hw with rfl | hw
    · exact key _ h1
    · exact key _ hw
