def RX0 : String := "FutureWishes$Futures"
def TX0 : u_T := fun k => match k with
  | 0 => ("FutureWishes$Futures", "state", "LFutureWishes$State;", true)
  | 1 => ("FutureWishes$Futures", "all", "I", false)
  | 2 => ("FutureWishes$Futures", "live", "I", false)
  | 3 => ("FutureWishes$Futures", "rounds", "I", false)
  | _ => ("FutureWishes$Futures", "goals", "I", false)
def tyX0 : Nat → FieldType := fun k => match k with
  | 0 => .object "FutureWishes$State"
  | 1 => .int
  | 2 => .int
  | 3 => .int
  | _ => .int
theorem nmX0 : ∀ a, a < 5 → ∀ b, b < 5 → a ≠ b → (TX0 a).2.1 ≠ (TX0 b).2.1 := by decide +kernel
theorem tyX0_ok : ∀ k, k < 5 → parseFieldDescriptor (TX0 k).2.2.1 = some (tyX0 k) := by decide +kernel
abbrev cX0_init : ByteArray := prog_2_method_1_code
def yX0_init : MethodName := ⟨RX0, "<init>", "(LFutureWishes$State;)V"⟩
abbrev cX0_look : ByteArray := prog_2_method_2_code
def yX0_look : MethodName := ⟨RX0, "look", "()V"⟩
abbrev cX0_onSomeWay : ByteArray := prog_2_method_3_code
def yX0_onSomeWay : MethodName := ⟨RX0, "onSomeWay", "(CII)I"⟩
abbrev cX0_onSomeWayNot : ByteArray := prog_2_method_4_code
def yX0_onSomeWayNot : MethodName := ⟨RX0, "onSomeWayNot", "(CII)I"⟩
abbrev cX0_until : ByteArray := prog_2_method_5_code
def yX0_until : MethodName := ⟨RX0, "until", "(II)I"⟩
abbrev cX0_always : ByteArray := prog_2_method_6_code
def yX0_always : MethodName := ⟨RX0, "always", "(I)I"⟩
def RX1 : String := "FutureWishes$History"
def TX1 : u_T := fun k => match k with
  | 0 => ("FutureWishes$History", "size", "I", false)
  | 1 => ("FutureWishes$History", "oldest", "I", false)
  | _ => ("FutureWishes$History", "saved", "[LFutureWishes$State;", true)
def tyX1 : Nat → FieldType := fun k => match k with
  | 0 => .int
  | 1 => .int
  | _ => .array (.object "FutureWishes$State")
theorem nmX1 : ∀ a, a < 3 → ∀ b, b < 3 → a ≠ b → (TX1 a).2.1 ≠ (TX1 b).2.1 := by decide +kernel
theorem tyX1_ok : ∀ k, k < 3 → parseFieldDescriptor (TX1 k).2.2.1 = some (tyX1 k) := by decide +kernel
abbrev cX1_init : ByteArray := prog_3_method_1_code
def yX1_init : MethodName := ⟨RX1, "<init>", "()V"⟩
abbrev cX1_save : ByteArray := prog_3_method_2_code
def yX1_save : MethodName := ⟨RX1, "save", "(LFutureWishes$State;)V"⟩
abbrev cX1_restore : ByteArray := prog_3_method_3_code
def yX1_restore : MethodName := ⟨RX1, "restore", "(LFutureWishes$State;)V"⟩
def RX2 : String := "FutureWishes$Meaning"
def TX2 : u_T := fun k => match k with
  | 0 => ("FutureWishes$Meaning", "state", "LFutureWishes$State;", true)
  | 1 => ("FutureWishes$Meaning", "futures", "LFutureWishes$Futures;", true)
  | 2 => ("FutureWishes$Meaning", "length", "I", false)
  | 3 => ("FutureWishes$Meaning", "signs", "[C", true)
  | 4 => ("FutureWishes$Meaning", "lengths", "[I", true)
  | 5 => ("FutureWishes$Meaning", "depths", "[I", true)
  | 6 => ("FutureWishes$Meaning", "sets", "[I", true)
  | _ => ("FutureWishes$Meaning", "rounds", "[I", true)
def tyX2 : Nat → FieldType := fun k => match k with
  | 0 => .object "FutureWishes$State"
  | 1 => .object "FutureWishes$Futures"
  | 2 => .int
  | 3 => .array .char
  | 4 => .array .int
  | 5 => .array .int
  | 6 => .array .int
  | _ => .array .int
theorem nmX2 : ∀ a, a < 8 → ∀ b, b < 8 → a ≠ b → (TX2 a).2.1 ≠ (TX2 b).2.1 := by decide +kernel
theorem tyX2_ok : ∀ k, k < 8 → parseFieldDescriptor (TX2 k).2.2.1 = some (tyX2 k) := by decide +kernel
abbrev cX2_init : ByteArray := prog_4_method_1_code
def yX2_init : MethodName := ⟨RX2, "<init>", "(LFutureWishes$State;)V"⟩
abbrev cX2_live : ByteArray := prog_4_method_2_code
def yX2_live : MethodName := ⟨RX2, "live", "()I"⟩
abbrev cX2_find : ByteArray := prog_4_method_3_code
def yX2_find : MethodName := ⟨RX2, "find", "(I)I"⟩
abbrev cX2_readSigns : ByteArray := prog_4_method_4_code
def yX2_readSigns : MethodName := ⟨RX2, "readSigns", "(I)V"⟩
abbrev cX2_putShape : ByteArray := prog_4_method_5_code
def yX2_putShape : MethodName := ⟨RX2, "putShape", "(III)V"⟩
abbrev cX2_findSets : ByteArray := prog_4_method_6_code
def yX2_findSets : MethodName := ⟨RX2, "findSets", "()V"⟩
abbrev cX2_ofWish : ByteArray := prog_4_method_7_code
def yX2_ofWish : MethodName := ⟨RX2, "ofWish", "(I)I"⟩
abbrev cX2_ofSign : ByteArray := prog_4_method_8_code
def yX2_ofSign : MethodName := ⟨RX2, "ofSign", "(II)I"⟩
abbrev cX2_signAt : ByteArray := prog_4_method_9_code
def yX2_signAt : MethodName := ⟨RX2, "signAt", "(I)C"⟩
abbrev cX2_setAt : ByteArray := prog_4_method_10_code
def yX2_setAt : MethodName := ⟨RX2, "setAt", "(I)I"⟩
abbrev cX2_behind : ByteArray := prog_4_method_11_code
def yX2_behind : MethodName := ⟨RX2, "behind", "(I)I"⟩
abbrev cX2_depthAt : ByteArray := prog_4_method_12_code
def yX2_depthAt : MethodName := ⟨RX2, "depthAt", "(I)I"⟩
abbrev cX2_allRounds : ByteArray := prog_4_method_13_code
def yX2_allRounds : MethodName := ⟨RX2, "allRounds", "()I"⟩
def RX3 : String := "FutureWishes$State"
def TX3 : u_T := fun k => match k with
  | 0 => ("FutureWishes$State", "worlds", "I", false)
  | 1 => ("FutureWishes$State", "fairLetter", "I", false)
  | 2 => ("FutureWishes$State", "letters", "[I", true)
  | 3 => ("FutureWishes$State", "steps", "[I", true)
  | 4 => ("FutureWishes$State", "lengths", "[I", true)
  | _ => ("FutureWishes$State", "signs", "[C", true)
def tyX3 : Nat → FieldType := fun k => match k with
  | 0 => .int
  | 1 => .int
  | 2 => .array .int
  | 3 => .array .int
  | 4 => .array .int
  | _ => .array .char
theorem nmX3 : ∀ a, a < 6 → ∀ b, b < 6 → a ≠ b → (TX3 a).2.1 ≠ (TX3 b).2.1 := by decide +kernel
theorem tyX3_ok : ∀ k, k < 6 → parseFieldDescriptor (TX3 k).2.2.1 = some (tyX3 k) := by decide +kernel
abbrev cX3_init : ByteArray := prog_5_method_1_code
def yX3_init : MethodName := ⟨RX3, "<init>", "()V"⟩
abbrev cX3_copyFrom : ByteArray := prog_5_method_2_code
def yX3_copyFrom : MethodName := ⟨RX3, "copyFrom", "(LFutureWishes$State;)V"⟩
abbrev cX3_hasWorld : ByteArray := prog_5_method_3_code
def yX3_hasWorld : MethodName := ⟨RX3, "hasWorld", "(I)Z"⟩
abbrev cX3_allWorlds : ByteArray := prog_5_method_4_code
def yX3_allWorlds : MethodName := ⟨RX3, "allWorlds", "()I"⟩
abbrev cX3_lettersOf : ByteArray := prog_5_method_5_code
def yX3_lettersOf : MethodName := ⟨RX3, "lettersOf", "(I)I"⟩
abbrev cX3_stepsFrom : ByteArray := prog_5_method_6_code
def yX3_stepsFrom : MethodName := ⟨RX3, "stepsFrom", "(I)I"⟩
abbrev cX3_withLetter : ByteArray := prog_5_method_7_code
def yX3_withLetter : MethodName := ⟨RX3, "withLetter", "(I)I"⟩
abbrev cX3_leadingInto : ByteArray := prog_5_method_8_code
def yX3_leadingInto : MethodName := ⟨RX3, "leadingInto", "(I)I"⟩
abbrev cX3_countSteps : ByteArray := prog_5_method_9_code
def yX3_countSteps : MethodName := ⟨RX3, "countSteps", "()I"⟩
abbrev cX3_putWorld : ByteArray := prog_5_method_10_code
def yX3_putWorld : MethodName := ⟨RX3, "putWorld", "(I)I"⟩
abbrev cX3_turnStep : ByteArray := prog_5_method_12_code
def yX3_turnStep : MethodName := ⟨RX3, "turnStep", "(II)V"⟩
abbrev cX3_lengthOf : ByteArray := prog_5_method_15_code
def yX3_lengthOf : MethodName := ⟨RX3, "lengthOf", "(I)I"⟩
abbrev cX3_signAt : ByteArray := prog_5_method_16_code
def yX3_signAt : MethodName := ⟨RX3, "signAt", "(II)C"⟩
abbrev cX3_putSign : ByteArray := prog_5_method_17_code
def yX3_putSign : MethodName := ⟨RX3, "putSign", "(IIC)V"⟩
abbrev cX3_putLength : ByteArray := prog_5_method_18_code
def yX3_putLength : MethodName := ⟨RX3, "putLength", "(II)V"⟩
abbrev cX3_putWish : ByteArray := prog_5_method_19_code
def yX3_putWish : MethodName := ⟨RX3, "putWish", "(ILFutureWishes$Text;)V"⟩
abbrev cX3_putNot : ByteArray := prog_5_method_20_code
def yX3_putNot : MethodName := ⟨RX3, "putNot", "(I)V"⟩
abbrev cX3_dropNot : ByteArray := prog_5_method_21_code
def yX3_dropNot : MethodName := ⟨RX3, "dropNot", "(I)V"⟩
abbrev cX3_countWishes : ByteArray := prog_5_method_23_code
def yX3_countWishes : MethodName := ⟨RX3, "countWishes", "()I"⟩
abbrev cX3_countSigns : ByteArray := prog_5_method_24_code
def yX3_countSigns : MethodName := ⟨RX3, "countSigns", "()I"⟩
def RX4 : String := "FutureWishes$Text"
def TX4 : u_T := fun k => match k with
  | 0 => ("FutureWishes$Text", "length", "I", false)
  | 1 => ("FutureWishes$Text", "characters", "[C", true)
  | 2 => ("FutureWishes$Text", "open", "I", false)
  | _ => ("FutureWishes$Text", "halfWay", "Z", false)
def tyX4 : Nat → FieldType := fun k => match k with
  | 0 => .int
  | 1 => .array .char
  | 2 => .int
  | _ => .boolean
theorem nmX4 : ∀ a, a < 4 → ∀ b, b < 4 → a ≠ b → (TX4 a).2.1 ≠ (TX4 b).2.1 := by decide +kernel
theorem tyX4_ok : ∀ k, k < 4 → parseFieldDescriptor (TX4 k).2.2.1 = some (tyX4 k) := by decide +kernel
abbrev cX4_init : ByteArray := prog_6_method_1_code
def yX4_init : MethodName := ⟨RX4, "<init>", "()V"⟩
abbrev cX4_put : ByteArray := prog_6_method_2_code
def yX4_put : MethodName := ⟨RX4, "put", "(C)V"⟩
abbrev cX4_at : ByteArray := prog_6_method_3_code
def yX4_at : MethodName := ⟨RX4, "at", "(I)C"⟩
abbrev cX4_isWish : ByteArray := prog_6_method_4_code
def yX4_isWish : MethodName := ⟨RX4, "isWish", "()Z"⟩
abbrev cX4_firstFault : ByteArray := prog_6_method_5_code
def yX4_firstFault : MethodName := ⟨RX4, "firstFault", "()I"⟩
abbrev cX4_leastRest : ByteArray := prog_6_method_6_code
def yX4_leastRest : MethodName := ⟨RX4, "leastRest", "()I"⟩
abbrev cX4_takes : ByteArray := prog_6_method_7_code
def yX4_takes : MethodName := ⟨RX4, "takes", "(C)Z"⟩
abbrev cX4_takesSecond : ByteArray := prog_6_method_8_code
def yX4_takesSecond : MethodName := ⟨RX4, "takesSecond", "(C)Z"⟩
abbrev cX4_takesFirst : ByteArray := prog_6_method_9_code
def yX4_takesFirst : MethodName := ⟨RX4, "takesFirst", "(C)Z"⟩
def RX5 : String := "FutureWishes$Trial"
def TX5 : u_T := fun k => match k with
  | 0 => ("FutureWishes$Trial", "number", "I", false)
  | 1 => ("FutureWishes$Trial", "first", "I", false)
  | 2 => ("FutureWishes$Trial", "state", "LFutureWishes$State;", true)
  | _ => ("FutureWishes$Trial", "meaning", "LFutureWishes$Meaning;", true)
def tyX5 : Nat → FieldType := fun k => match k with
  | 0 => .int
  | 1 => .int
  | 2 => .object "FutureWishes$State"
  | _ => .object "FutureWishes$Meaning"
theorem nmX5 : ∀ a, a < 4 → ∀ b, b < 4 → a ≠ b → (TX5 a).2.1 ≠ (TX5 b).2.1 := by decide +kernel
theorem tyX5_ok : ∀ k, k < 4 → parseFieldDescriptor (TX5 k).2.2.1 = some (tyX5 k) := by decide +kernel
abbrev cX5_init : ByteArray := prog_7_method_1_code
def yX5_init : MethodName := ⟨RX5, "<init>", "()V"⟩
abbrev cX5_worldsIfFair : ByteArray := prog_7_method_4_code
def yX5_worldsIfFair : MethodName := ⟨RX5, "worldsIfFair", "(LFutureWishes$State;II)I"⟩
abbrev cX5_begin : ByteArray := prog_7_method_5_code
def yX5_begin : MethodName := ⟨RX5, "begin", "(LFutureWishes$State;I)V"⟩
def RX6 : String := "FutureWishes$Witness"
def TX6 : u_T := fun k => match k with
  | 0 => ("FutureWishes$Witness", "meaning", "LFutureWishes$Meaning;", true)
  | 1 => ("FutureWishes$Witness", "futures", "LFutureWishes$Futures;", true)
  | 2 => ("FutureWishes$Witness", "row", "[I", true)
  | 3 => ("FutureWishes$Witness", "length", "I", false)
  | _ => ("FutureWishes$Witness", "layers", "[I", true)
def tyX6 : Nat → FieldType := fun k => match k with
  | 0 => .object "FutureWishes$Meaning"
  | 1 => .object "FutureWishes$Futures"
  | 2 => .array .int
  | 3 => .int
  | _ => .array .int
theorem nmX6 : ∀ a, a < 5 → ∀ b, b < 5 → a ≠ b → (TX6 a).2.1 ≠ (TX6 b).2.1 := by decide +kernel
theorem tyX6_ok : ∀ k, k < 5 → parseFieldDescriptor (TX6 k).2.2.1 = some (tyX6 k) := by decide +kernel
abbrev cX6_init : ByteArray := prog_8_method_1_code
def yX6_init : MethodName := ⟨RX6, "<init>", "(LFutureWishes$Meaning;)V"⟩
def RX7 : String := "FutureWishes"
def TX7 : u_T := fun k => match k with
  | 0 => ("FutureWishes", "state", "LFutureWishes$State;", true)
  | 1 => ("FutureWishes", "history", "LFutureWishes$History;", true)
  | 2 => ("FutureWishes", "text", "LFutureWishes$Text;", true)
  | 3 => ("FutureWishes", "meaning", "LFutureWishes$Meaning;", true)
  | 4 => ("FutureWishes", "way", "LFutureWishes$Witness;", true)
  | _ => ("FutureWishes", "trial", "LFutureWishes$Trial;", true)
def tyX7 : Nat → FieldType := fun k => match k with
  | 0 => .object "FutureWishes$State"
  | 1 => .object "FutureWishes$History"
  | 2 => .object "FutureWishes$Text"
  | 3 => .object "FutureWishes$Meaning"
  | 4 => .object "FutureWishes$Witness"
  | _ => .object "FutureWishes$Trial"
theorem nmX7 : ∀ a, a < 6 → ∀ b, b < 6 → a ≠ b → (TX7 a).2.1 ≠ (TX7 b).2.1 := by decide +kernel
theorem tyX7_ok : ∀ k, k < 6 → parseFieldDescriptor (TX7 k).2.2.1 = some (tyX7 k) := by decide +kernel
abbrev cX7_init : ByteArray := prog_1_method_1_code
def yX7_init : MethodName := ⟨RX7, "<init>", "()V"⟩
abbrev cX7_addWorld : ByteArray := prog_1_method_2_code
def yX7_addWorld : MethodName := ⟨RX7, "addWorld", "(I)I"⟩
abbrev cX7_step : ByteArray := prog_1_method_4_code
def yX7_step : MethodName := ⟨RX7, "step", "(II)I"⟩
abbrev cX7_fair : ByteArray := prog_1_method_6_code
def yX7_fair : MethodName := ⟨RX7, "fair", "(I)I"⟩
abbrev cX7_append : ByteArray := prog_1_method_8_code
def yX7_append : MethodName := ⟨RX7, "append", "(I)I"⟩
abbrev cX7_firstError : ByteArray := prog_1_method_10_code
def yX7_firstError : MethodName := ⟨RX7, "firstError", "()I"⟩
abbrev cX7_read : ByteArray := prog_1_method_11_code
def yX7_read : MethodName := ⟨RX7, "read", "(I)I"⟩
abbrev cX7_negate : ByteArray := prog_1_method_12_code
def yX7_negate : MethodName := ⟨RX7, "negate", "(I)I"⟩
abbrev cX7_undo : ByteArray := prog_1_method_14_code
def yX7_undo : MethodName := ⟨RX7, "undo", "()I"⟩
abbrev cX7_world : ByteArray := prog_1_method_15_code
def yX7_world : MethodName := ⟨RX7, "world", "(II)I"⟩
abbrev cX7_wish : ByteArray := prog_1_method_16_code
def yX7_wish : MethodName := ⟨RX7, "wish", "(II)I"⟩
abbrev cX7_sign : ByteArray := prog_1_method_17_code
def yX7_sign : MethodName := ⟨RX7, "sign", "(III)I"⟩
abbrev cX7_compare : ByteArray := prog_1_method_19_code
def yX7_compare : MethodName := ⟨RX7, "compare", "(II)I"⟩
abbrev cX7_count : ByteArray := prog_1_method_20_code
def yX7_count : MethodName := ⟨RX7, "count", "(I)I"⟩
abbrev cX7_ifFair : ByteArray := prog_1_method_22_code
def yX7_ifFair : MethodName := ⟨RX7, "ifFair", "(II)I"⟩
abbrev cX7_fulfilled : ByteArray := prog_1_method_23_code
def yX7_fulfilled : MethodName := ⟨RX7, "fulfilled", "()D"⟩
abbrev cX7_needWorld : ByteArray := prog_1_method_25_code
def yX7_needWorld : MethodName := ⟨RX7, "needWorld", "(I)V"⟩
abbrev cX7_needWish : ByteArray := prog_1_method_26_code
def yX7_needWish : MethodName := ⟨RX7, "needWish", "(I)V"⟩
abbrev cX7_needLetterOrNone : ByteArray := prog_1_method_27_code
def yX7_needLetterOrNone : MethodName := ⟨RX7, "needLetterOrNone", "(I)V"⟩
abbrev cX7_needLook : ByteArray := prog_1_method_28_code
def yX7_needLook : MethodName := ⟨RX7, "needLook", "(II)V"⟩
abbrev cX7_wishesHoldingIn : ByteArray := prog_1_method_29_code
def yX7_wishesHoldingIn : MethodName := ⟨RX7, "wishesHoldingIn", "(I)I"⟩
abbrev cX7_worldsOfAllWishes : ByteArray := prog_1_method_30_code
def yX7_worldsOfAllWishes : MethodName := ⟨RX7, "worldsOfAllWishes", "()I"⟩
def RX8 : String := "FutureWishesModel"
def TX8 : u_T := fun k => match k with
  | _ => ("", "", "", false)
def tyX8 : Nat → FieldType := fun k => match k with
  | _ => .int
theorem nmX8 : ∀ a, a < 0 → ∀ b, b < 0 → a ≠ b → (TX8 a).2.1 ≠ (TX8 b).2.1 := by decide +kernel
theorem tyX8_ok : ∀ k, k < 0 → parseFieldDescriptor (TX8 k).2.2.1 = some (tyX8 k) := by decide +kernel
def RJ6 : String := "java/lang/Integer"
def TJ6 : u_T := fun k => match k with
  | _ => ("", "", "", false)
def tyJ6 : Nat → FieldType := fun k => match k with
  | _ => .int
theorem nmJ6 : ∀ a, a < 0 → ∀ b, b < 0 → a ≠ b → (TJ6 a).2.1 ≠ (TJ6 b).2.1 := by decide +kernel
theorem tyJ6_ok : ∀ k, k < 0 → parseFieldDescriptor (TJ6 k).2.2.1 = some (tyJ6 k) := by decide +kernel
abbrev cJ6_bitCount_0f7a4 : ByteArray := prog_15_method_49_code
def yJ6_bitCount_0f7a4 : MethodName := ⟨RJ6, "bitCount", "(I)I"⟩
def RJ9 : String := "java/lang/Math"
def TJ9 : u_T := fun k => match k with
  | _ => ("", "", "", false)
def tyJ9 : Nat → FieldType := fun k => match k with
  | _ => .int
theorem nmJ9 : ∀ a, a < 0 → ∀ b, b < 0 → a ≠ b → (TJ9 a).2.1 ≠ (TJ9 b).2.1 := by decide +kernel
theorem tyJ9_ok : ∀ k, k < 0 → parseFieldDescriptor (TJ9 k).2.2.1 = some (tyJ9 k) := by decide +kernel
abbrev cJ9_max_7cf53 : ByteArray := prog_16_method_65_code
def yJ9_max_7cf53 : MethodName := ⟨RJ9, "max", "(II)I"⟩
def RJ0 : String := "java/lang/String"
def TJ0 : u_T := fun k => match k with
  | _ => ("", "", "", false)
def tyJ0 : Nat → FieldType := fun k => match k with
  | _ => .int
theorem nmJ0 : ∀ a, a < 0 → ∀ b, b < 0 → a ≠ b → (TJ0 a).2.1 ≠ (TJ0 b).2.1 := by decide +kernel
theorem tyJ0_ok : ∀ k, k < 0 → parseFieldDescriptor (TJ0 k).2.2.1 = some (tyJ0 k) := by decide +kernel
def RJ10 : String := "java/lang/System"
def TJ10 : u_T := fun k => match k with
  | _ => ("", "", "", false)
def tyJ10 : Nat → FieldType := fun k => match k with
  | _ => .int
theorem nmJ10 : ∀ a, a < 0 → ∀ b, b < 0 → a ≠ b → (TJ10 a).2.1 ≠ (TJ10 b).2.1 := by decide +kernel
theorem tyJ10_ok : ∀ k, k < 0 → parseFieldDescriptor (TJ10 k).2.2.1 = some (tyJ10 k) := by decide +kernel
def RL : String := "FutureWishesLaw"
abbrev cL_cell : ByteArray := method_2_code
def yL_cell : MethodName := ⟨RL, "cell", "([II)I"⟩
abbrev cL_low : ByteArray := method_3_code
def yL_low : MethodName := ⟨RL, "low", "(II)I"⟩
abbrev cL_sign : ByteArray := method_4_code
def yL_sign : MethodName := ⟨RL, "sign", "(III)I"⟩
abbrev cL_way : ByteArray := method_5_code
def yL_way : MethodName := ⟨RL, "way", "(III)I"⟩
abbrev cL_write : ByteArray := method_6_code
def yL_write : MethodName := ⟨RL, "write", "(LFutureWishes;[III)I"⟩
abbrev cL_build : ByteArray := method_7_code
def yL_build : MethodName := ⟨RL, "build", "(LFutureWishes;[II)I"⟩
abbrev cL_into : ByteArray := method_8_code
def yL_into : MethodName := ⟨RL, "into", "(LFutureWishes;I)I"⟩
abbrev cL_reached : ByteArray := method_9_code
def yL_reached : MethodName := ⟨RL, "reached", "(LFutureWishes;II)I"⟩
abbrev cL_stays : ByteArray := method_10_code
def yL_stays : MethodName := ⟨RL, "stays", "(LFutureWishes;I)I"⟩
abbrev cL_comes : ByteArray := method_11_code
def yL_comes : MethodName := ⟨RL, "comes", "(LFutureWishes;III)I"⟩
abbrev cL_due : ByteArray := method_12_code
def yL_due : MethodName := ⟨RL, "due", "(LFutureWishes;IIIII)I"⟩
abbrev cL_isPart : ByteArray := method_13_code
def yL_isPart : MethodName := ⟨RL, "isPart", "(LFutureWishes;III)Z"⟩
abbrev cL_isWish : ByteArray := method_14_code
def yL_isWish : MethodName := ⟨RL, "isWish", "(LFutureWishes;II)Z"⟩
abbrev cL_law : ByteArray := code
def yL_law : MethodName := ⟨RL, "law", "([I)Z"⟩
abbrev vwCl : List vw_C := [(RX0, TX0, 5), (RX1, TX1, 3), (RX2, TX2, 8), (RX3, TX3, 6), (RX4, TX4, 4), (RX5, TX5, 4), (RX6, TX6, 5), (RX7, TX7, 6)]
