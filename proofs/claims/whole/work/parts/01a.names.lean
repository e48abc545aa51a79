/-! names, written by wip/whole/gen_names.py out of the printed ones -/
def RX0 : String := "YesterdayScale$Asking"
def TX0 : u_T := fun k => match k with
  | 0 => ("YesterdayScale$Asking", "traced", "I", false)
  | 1 => ("YesterdayScale$Asking", "days", "I", false)
  | _ => ("YesterdayScale$Asking", "numbers", "[I", true)
def tyX0 : Nat → FieldType := fun k => match k with
  | 0 => .int
  | 1 => .int
  | _ => .array .int
abbrev wsX00 : List Cond := u_ws RX0 TX0 3
theorem nmX0 : ∀ a, a < 3 → ∀ b, b < 3 → a ≠ b → (TX0 a).2.1 ≠ (TX0 b).2.1 := by decide +kernel
theorem tyX0_ok : ∀ k, k < 3 → parseFieldDescriptor (TX0 k).2.2.1 = some (tyX0 k) := by decide +kernel
abbrev cX0_init : ByteArray := prog_2_method_1_code
def yX0_init : MethodName := ⟨RX0, "<init>", "()V"⟩
abbrev cX0_begin : ByteArray := prog_2_method_2_code
def yX0_begin : MethodName := ⟨RX0, "begin", "(I)V"⟩
abbrev cX0_enter : ByteArray := prog_2_method_3_code
def yX0_enter : MethodName := ⟨RX0, "enter", "(I)V"⟩
def RX1 : String := "YesterdayScale$Fish"
def TX1 : u_T := fun k => match k with
  | 0 => ("YesterdayScale$Thing", "number", "I", true)
  | _ => ("YesterdayScale$Thing", "weight", "I", true)
def tyX1 : Nat → FieldType := fun k => match k with
  | 0 => .int
  | _ => .int
abbrev wsX10 : List Cond := u_ws RX1 TX1 2
theorem nmX1 : ∀ a, a < 2 → ∀ b, b < 2 → a ≠ b → (TX1 a).2.1 ≠ (TX1 b).2.1 := by decide +kernel
theorem tyX1_ok : ∀ k, k < 2 → parseFieldDescriptor (TX1 k).2.2.1 = some (tyX1 k) := by decide +kernel
abbrev cX1_init : ByteArray := prog_3_method_1_code
def yX1_init : MethodName := ⟨RX1, "<init>", "(II)V"⟩
abbrev cX1_kindNumber : ByteArray := prog_3_method_2_code
def yX1_kindNumber : MethodName := ⟨RX1, "kindNumber", "()I"⟩
abbrev cX1_heavyWith : ByteArray := prog_3_method_3_code
def yX1_heavyWith : MethodName := ⟨RX1, "heavyWith", "(II)I"⟩
abbrev cX1_markBy : ByteArray := prog_3_method_4_code
def yX1_markBy : MethodName := ⟨RX1, "markBy", "(LYesterdayScale$Asking;I)I"⟩
def RX2 : String := "YesterdayScale$Port"
def TX2 : u_T := fun k => match k with
  | 0 => ("YesterdayScale$Port", "there", "Z", false)
  | 1 => ("YesterdayScale$Port", "keeps", "I", false)
  | 2 => ("YesterdayScale$Port", "half", "I", false)
  | 3 => ("YesterdayScale$Port", "top", "I", false)
  | 4 => ("YesterdayScale$Port", "things", "I", false)
  | 5 => ("YesterdayScale$Port", "days", "I", false)
  | 6 => ("YesterdayScale$Port", "stones", "I", false)
  | 7 => ("YesterdayScale$Port", "sorts", "[I", true)
  | 8 => ("YesterdayScale$Port", "weights", "[I", true)
  | 9 => ("YesterdayScale$Port", "laid", "[LYesterdayScale$Thing;", true)
  | _ => ("YesterdayScale$Port", "sets", "[I", true)
def tyX2 : Nat → FieldType := fun k => match k with
  | 0 => .boolean
  | 1 => .int
  | 2 => .int
  | 3 => .int
  | 4 => .int
  | 5 => .int
  | 6 => .int
  | 7 => .array .int
  | 8 => .array .int
  | 9 => .array (.object "YesterdayScale$Thing")
  | _ => .array .int
abbrev wsX20 : List Cond := u_ws RX2 TX2 11
theorem nmX2 : ∀ a, a < 11 → ∀ b, b < 11 → a ≠ b → (TX2 a).2.1 ≠ (TX2 b).2.1 := by decide +kernel
theorem tyX2_ok : ∀ k, k < 11 → parseFieldDescriptor (TX2 k).2.2.1 = some (tyX2 k) := by decide +kernel
abbrev cX2_init : ByteArray := prog_4_method_1_code
def yX2_init : MethodName := ⟨RX2, "<init>", "()V"⟩
abbrev cX2_clear : ByteArray := prog_4_method_2_code
def yX2_clear : MethodName := ⟨RX2, "clear", "()V"⟩
abbrev cX2_become : ByteArray := prog_4_method_3_code
def yX2_become : MethodName := ⟨RX2, "become", "(LYesterdayScale$Port;)V"⟩
abbrev cX2_addThing : ByteArray := prog_4_method_4_code
def yX2_addThing : MethodName := ⟨RX2, "addThing", "(II)V"⟩
abbrev cX2_makeThings : ByteArray := prog_4_method_5_code
def yX2_makeThings : MethodName := ⟨RX2, "makeThings", "()V"⟩
abbrev cX2_made : ByteArray := prog_4_method_6_code
def yX2_made : MethodName := ⟨RX2, "made", "(III)LYesterdayScale$Thing;"⟩
abbrev cX2_addDay : ByteArray := prog_4_method_7_code
def yX2_addDay : MethodName := ⟨RX2, "addDay", "(I)V"⟩
abbrev cX2_allThings : ByteArray := prog_4_method_8_code
def yX2_allThings : MethodName := ⟨RX2, "allThings", "()I"⟩
abbrev cX2_canLay : ByteArray := prog_4_method_9_code
def yX2_canLay : MethodName := ⟨RX2, "canLay", "(I)Z"⟩
abbrev cX2_thingAt : ByteArray := prog_4_method_10_code
def yX2_thingAt : MethodName := ⟨RX2, "thingAt", "(I)LYesterdayScale$Thing;"⟩
abbrev cX2_hasDay : ByteArray := prog_4_method_11_code
def yX2_hasDay : MethodName := ⟨RX2, "hasDay", "(I)Z"⟩
abbrev cX2_liesOn : ByteArray := prog_4_method_12_code
def yX2_liesOn : MethodName := ⟨RX2, "liesOn", "(II)Z"⟩
abbrev cX2_isFresh : ByteArray := prog_4_method_13_code
def yX2_isFresh : MethodName := ⟨RX2, "isFresh", "(I)Z"⟩
abbrev cX2_loadOn : ByteArray := prog_4_method_14_code
def yX2_loadOn : MethodName := ⟨RX2, "loadOn", "(I)I"⟩
abbrev cX2_reachOf : ByteArray := prog_4_method_15_code
def yX2_reachOf : MethodName := ⟨RX2, "reachOf", "(II)I"⟩
abbrev cX2_shownOn : ByteArray := prog_4_method_16_code
def yX2_shownOn : MethodName := ⟨RX2, "shownOn", "(I)I"⟩
abbrev cX2_shownBy : ByteArray := prog_4_method_17_code
def yX2_shownBy : MethodName := ⟨RX2, "shownBy", "(IIII)I"⟩
abbrev cX2_changedBy : ByteArray := prog_4_method_18_code
def yX2_changedBy : MethodName := ⟨RX2, "changedBy", "(I)I"⟩
abbrev cX2_lawsTelling : ByteArray := prog_4_method_19_code
def yX2_lawsTelling : MethodName := ⟨RX2, "lawsTelling", "([I)I"⟩
abbrev cX2_tellsBy : ByteArray := prog_4_method_20_code
def yX2_tellsBy : MethodName := ⟨RX2, "tellsBy", "(II[I)Z"⟩
abbrev cX2_leftOver : ByteArray := prog_4_method_21_code
def yX2_leftOver : MethodName := ⟨RX2, "leftOver", "(II)I"⟩
def RX3 : String := "YesterdayScale$Row"
def TX3 : u_T := fun k => match k with
  | 0 => ("YesterdayScale$Row", "there", "Z", false)
  | 1 => ("YesterdayScale$Row", "lane", "I", false)
  | 2 => ("YesterdayScale$Row", "size", "I", false)
  | _ => ("YesterdayScale$Row", "items", "[I", true)
def tyX3 : Nat → FieldType := fun k => match k with
  | 0 => .boolean
  | 1 => .int
  | 2 => .int
  | _ => .array .int
abbrev wsX30 : List Cond := u_ws RX3 TX3 4
theorem nmX3 : ∀ a, a < 4 → ∀ b, b < 4 → a ≠ b → (TX3 a).2.1 ≠ (TX3 b).2.1 := by decide +kernel
theorem tyX3_ok : ∀ k, k < 4 → parseFieldDescriptor (TX3 k).2.2.1 = some (tyX3 k) := by decide +kernel
abbrev cX3_init : ByteArray := prog_5_method_1_code
def yX3_init : MethodName := ⟨RX3, "<init>", "()V"⟩
abbrev cX3_begin : ByteArray := prog_5_method_2_code
def yX3_begin : MethodName := ⟨RX3, "begin", "(II)V"⟩
abbrev cX3_cut : ByteArray := prog_5_method_3_code
def yX3_cut : MethodName := ⟨RX3, "cut", "(I)I"⟩
abbrev cX3_hasPlaces : ByteArray := prog_5_method_4_code
def yX3_hasPlaces : MethodName := ⟨RX3, "hasPlaces", "(II)Z"⟩
def RX4 : String := "YesterdayScale$Salt"
def TX4 : u_T := fun k => match k with
  | 0 => ("YesterdayScale$Thing", "number", "I", true)
  | _ => ("YesterdayScale$Thing", "weight", "I", true)
def tyX4 : Nat → FieldType := fun k => match k with
  | 0 => .int
  | _ => .int
abbrev wsX40 : List Cond := u_ws RX4 TX4 2
theorem nmX4 : ∀ a, a < 2 → ∀ b, b < 2 → a ≠ b → (TX4 a).2.1 ≠ (TX4 b).2.1 := by decide +kernel
theorem tyX4_ok : ∀ k, k < 2 → parseFieldDescriptor (TX4 k).2.2.1 = some (tyX4 k) := by decide +kernel
abbrev cX4_init : ByteArray := prog_6_method_1_code
def yX4_init : MethodName := ⟨RX4, "<init>", "(II)V"⟩
abbrev cX4_kindNumber : ByteArray := prog_6_method_2_code
def yX4_kindNumber : MethodName := ⟨RX4, "kindNumber", "()I"⟩
abbrev cX4_sizeBy : ByteArray := prog_6_method_3_code
def yX4_sizeBy : MethodName := ⟨RX4, "sizeBy", "(LYesterdayScale$Asking;I)I"⟩
abbrev cX4_markBy : ByteArray := prog_6_method_4_code
def yX4_markBy : MethodName := ⟨RX4, "markBy", "(LYesterdayScale$Asking;I)I"⟩
def RX5 : String := "YesterdayScale$Stone"
def TX5 : u_T := fun k => match k with
  | 0 => ("YesterdayScale$Thing", "number", "I", true)
  | _ => ("YesterdayScale$Thing", "weight", "I", true)
def tyX5 : Nat → FieldType := fun k => match k with
  | 0 => .int
  | _ => .int
abbrev wsX50 : List Cond := u_ws RX5 TX5 2
theorem nmX5 : ∀ a, a < 2 → ∀ b, b < 2 → a ≠ b → (TX5 a).2.1 ≠ (TX5 b).2.1 := by decide +kernel
theorem tyX5_ok : ∀ k, k < 2 → parseFieldDescriptor (TX5 k).2.2.1 = some (tyX5 k) := by decide +kernel
abbrev cX5_init : ByteArray := prog_7_method_1_code
def yX5_init : MethodName := ⟨RX5, "<init>", "(II)V"⟩
abbrev cX5_kindNumber : ByteArray := prog_7_method_2_code
def yX5_kindNumber : MethodName := ⟨RX5, "kindNumber", "()I"⟩
abbrev cX5_sizeBy : ByteArray := prog_7_method_3_code
def yX5_sizeBy : MethodName := ⟨RX5, "sizeBy", "(LYesterdayScale$Asking;I)I"⟩
abbrev cX5_markBy : ByteArray := prog_7_method_4_code
def yX5_markBy : MethodName := ⟨RX5, "markBy", "(LYesterdayScale$Asking;I)I"⟩
def RX6 : String := "YesterdayScale$Tape"
def TX6 : u_T := fun k => match k with
  | 0 => ("YesterdayScale$Tape", "bytes", "[B", true)
  | 1 => ("YesterdayScale$Tape", "length", "I", false)
  | 2 => ("YesterdayScale$Tape", "faultNumber", "I", false)
  | 3 => ("YesterdayScale$Tape", "faultPlace", "I", false)
  | 4 => ("YesterdayScale$Tape", "at", "I", false)
  | 5 => ("YesterdayScale$Tape", "start", "I", false)
  | 6 => ("YesterdayScale$Tape", "token", "I", false)
  | _ => ("YesterdayScale$Tape", "taken", "I", false)
def tyX6 : Nat → FieldType := fun k => match k with
  | 0 => .array .byte
  | 1 => .int
  | 2 => .int
  | 3 => .int
  | 4 => .int
  | 5 => .int
  | 6 => .int
  | _ => .int
abbrev wsX60 : List Cond := u_ws RX6 TX6 8
theorem nmX6 : ∀ a, a < 8 → ∀ b, b < 8 → a ≠ b → (TX6 a).2.1 ≠ (TX6 b).2.1 := by decide +kernel
theorem tyX6_ok : ∀ k, k < 8 → parseFieldDescriptor (TX6 k).2.2.1 = some (tyX6 k) := by decide +kernel
abbrev cX6_init : ByteArray := prog_8_method_1_code
def yX6_init : MethodName := ⟨RX6, "<init>", "()V"⟩
abbrev cX6_hasRoom : ByteArray := prog_8_method_2_code
def yX6_hasRoom : MethodName := ⟨RX6, "hasRoom", "(I)Z"⟩
abbrev cX6_append : ByteArray := prog_8_method_3_code
def yX6_append : MethodName := ⟨RX6, "append", "(JI)I"⟩
abbrev cX6_readInto : ByteArray := prog_8_method_4_code
def yX6_readInto : MethodName := ⟨RX6, "readInto", "(LYesterdayScale$Port;)Z"⟩
abbrev cX6_readLaw : ByteArray := prog_8_method_5_code
def yX6_readLaw : MethodName := ⟨RX6, "readLaw", "(LYesterdayScale$Port;)Z"⟩
abbrev cX6_readThings : ByteArray := prog_8_method_6_code
def yX6_readThings : MethodName := ⟨RX6, "readThings", "(LYesterdayScale$Port;)Z"⟩
abbrev cX6_readThing : ByteArray := prog_8_method_7_code
def yX6_readThing : MethodName := ⟨RX6, "readThing", "(LYesterdayScale$Port;)Z"⟩
abbrev cX6_readDays : ByteArray := prog_8_method_8_code
def yX6_readDays : MethodName := ⟨RX6, "readDays", "(LYesterdayScale$Port;)Z"⟩
abbrev cX6_readEnd : ByteArray := prog_8_method_9_code
def yX6_readEnd : MethodName := ⟨RX6, "readEnd", "()Z"⟩
abbrev cX6_sortNamed : ByteArray := prog_8_method_10_code
def yX6_sortNamed : MethodName := ⟨RX6, "sortNamed", "()I"⟩
abbrev cX6_takeWord : ByteArray := prog_8_method_11_code
def yX6_takeWord : MethodName := ⟨RX6, "takeWord", "(Ljava/lang/String;)Z"⟩
abbrev cX6_takeNumber : ByteArray := prog_8_method_12_code
def yX6_takeNumber : MethodName := ⟨RX6, "takeNumber", "(II)Z"⟩
abbrev cX6_takeSemicolon : ByteArray := prog_8_method_13_code
def yX6_takeSemicolon : MethodName := ⟨RX6, "takeSemicolon", "()Z"⟩
abbrev cX6_fail : ByteArray := prog_8_method_14_code
def yX6_fail : MethodName := ⟨RX6, "fail", "(I)Z"⟩
abbrev cX6_isWord : ByteArray := prog_8_method_15_code
def yX6_isWord : MethodName := ⟨RX6, "isWord", "(Ljava/lang/String;)Z"⟩
abbrev cX6_numberRead : ByteArray := prog_8_method_16_code
def yX6_numberRead : MethodName := ⟨RX6, "numberRead", "()I"⟩
abbrev cX6_advance : ByteArray := prog_8_method_17_code
def yX6_advance : MethodName := ⟨RX6, "advance", "()V"⟩
abbrev cX6_isBetween : ByteArray := prog_8_method_18_code
def yX6_isBetween : MethodName := ⟨RX6, "isBetween", "(I)Z"⟩
abbrev cX6_isLetter : ByteArray := prog_8_method_19_code
def yX6_isLetter : MethodName := ⟨RX6, "isLetter", "(I)Z"⟩
abbrev cX6_isFigure : ByteArray := prog_8_method_20_code
def yX6_isFigure : MethodName := ⟨RX6, "isFigure", "(I)Z"⟩
def RX7 : String := "YesterdayScale$Thing"
def TX7 : u_T := fun k => match k with
  | _ => ("", "", "", false)
def tyX7 : Nat → FieldType := fun k => match k with
  | _ => .int
abbrev wsX70 : List Cond := u_ws RX7 TX7 0
theorem nmX7 : ∀ a, a < 0 → ∀ b, b < 0 → a ≠ b → (TX7 a).2.1 ≠ (TX7 b).2.1 := by decide +kernel
theorem tyX7_ok : ∀ k, k < 0 → parseFieldDescriptor (TX7 k).2.2.1 = some (tyX7 k) := by decide +kernel
abbrev cX7_init : ByteArray := prog_9_method_1_code
def yX7_init : MethodName := ⟨RX7, "<init>", "(II)V"⟩
abbrev cX7_heavyWith : ByteArray := prog_9_method_3_code
def yX7_heavyWith : MethodName := ⟨RX7, "heavyWith", "(II)I"⟩
abbrev cX7_sizeBy : ByteArray := prog_9_method_4_code
def yX7_sizeBy : MethodName := ⟨RX7, "sizeBy", "(LYesterdayScale$Asking;I)I"⟩
abbrev cX7_markBy : ByteArray := prog_9_method_5_code
def yX7_markBy : MethodName := ⟨RX7, "markBy", "(LYesterdayScale$Asking;I)I"⟩
def RX8 : String := "YesterdayScale$Whale"
def TX8 : u_T := fun k => match k with
  | 0 => ("YesterdayScale$Thing", "number", "I", true)
  | _ => ("YesterdayScale$Thing", "weight", "I", true)
def tyX8 : Nat → FieldType := fun k => match k with
  | 0 => .int
  | _ => .int
abbrev wsX80 : List Cond := u_ws RX8 TX8 2
theorem nmX8 : ∀ a, a < 2 → ∀ b, b < 2 → a ≠ b → (TX8 a).2.1 ≠ (TX8 b).2.1 := by decide +kernel
theorem tyX8_ok : ∀ k, k < 2 → parseFieldDescriptor (TX8 k).2.2.1 = some (tyX8 k) := by decide +kernel
abbrev cX8_init : ByteArray := prog_10_method_1_code
def yX8_init : MethodName := ⟨RX8, "<init>", "(II)V"⟩
abbrev cX8_kindNumber : ByteArray := prog_10_method_2_code
def yX8_kindNumber : MethodName := ⟨RX8, "kindNumber", "()I"⟩
abbrev cX8_heavyWith : ByteArray := prog_10_method_3_code
def yX8_heavyWith : MethodName := ⟨RX8, "heavyWith", "(II)I"⟩
abbrev cX8_sizeBy : ByteArray := prog_10_method_4_code
def yX8_sizeBy : MethodName := ⟨RX8, "sizeBy", "(LYesterdayScale$Asking;I)I"⟩
def RX9 : String := "YesterdayScale$Wool"
def TX9 : u_T := fun k => match k with
  | 0 => ("YesterdayScale$Thing", "number", "I", true)
  | _ => ("YesterdayScale$Thing", "weight", "I", true)
def tyX9 : Nat → FieldType := fun k => match k with
  | 0 => .int
  | _ => .int
abbrev wsX90 : List Cond := u_ws RX9 TX9 2
theorem nmX9 : ∀ a, a < 2 → ∀ b, b < 2 → a ≠ b → (TX9 a).2.1 ≠ (TX9 b).2.1 := by decide +kernel
theorem tyX9_ok : ∀ k, k < 2 → parseFieldDescriptor (TX9 k).2.2.1 = some (tyX9 k) := by decide +kernel
abbrev cX9_init : ByteArray := prog_11_method_1_code
def yX9_init : MethodName := ⟨RX9, "<init>", "(II)V"⟩
abbrev cX9_kindNumber : ByteArray := prog_11_method_2_code
def yX9_kindNumber : MethodName := ⟨RX9, "kindNumber", "()I"⟩
abbrev cX9_heavyWith : ByteArray := prog_11_method_3_code
def yX9_heavyWith : MethodName := ⟨RX9, "heavyWith", "(II)I"⟩
abbrev cX9_sizeBy : ByteArray := prog_11_method_4_code
def yX9_sizeBy : MethodName := ⟨RX9, "sizeBy", "(LYesterdayScale$Asking;I)I"⟩
abbrev cX9_markBy : ByteArray := prog_11_method_5_code
def yX9_markBy : MethodName := ⟨RX9, "markBy", "(LYesterdayScale$Asking;I)I"⟩
def RX10 : String := "YesterdayScale$Worlds"
def TX10 : u_T := fun k => match k with
  | 0 => ("YesterdayScale$Worlds", "soonDays", "I", false)
  | 1 => ("YesterdayScale$Worlds", "soonKnown", "Z", false)
  | 2 => ("YesterdayScale$Worlds", "soonFirst", "I", false)
  | 3 => ("YesterdayScale$Worlds", "soonSecond", "I", false)
  | 4 => ("YesterdayScale$Worlds", "half", "I", false)
  | 5 => ("YesterdayScale$Worlds", "top", "I", false)
  | 6 => ("YesterdayScale$Worlds", "days", "I", false)
  | 7 => ("YesterdayScale$Worlds", "worlds", "I", false)
  | 8 => ("YesterdayScale$Worlds", "lower", "[I", true)
  | 9 => ("YesterdayScale$Worlds", "upper", "[I", true)
  | 10 => ("YesterdayScale$Worlds", "reaches", "[I", true)
  | 11 => ("YesterdayScale$Worlds", "told", "[I", true)
  | _ => ("YesterdayScale$Worlds", "fitting", "[I", true)
def tyX10 : Nat → FieldType := fun k => match k with
  | 0 => .int
  | 1 => .boolean
  | 2 => .int
  | 3 => .int
  | 4 => .int
  | 5 => .int
  | 6 => .int
  | 7 => .int
  | 8 => .array .int
  | 9 => .array .int
  | 10 => .array .int
  | 11 => .array .int
  | _ => .array .int
abbrev wsX100 : List Cond := u_ws RX10 TX10 13
theorem nmX10 : ∀ a, a < 13 → ∀ b, b < 13 → a ≠ b → (TX10 a).2.1 ≠ (TX10 b).2.1 := by decide +kernel
theorem tyX10_ok : ∀ k, k < 13 → parseFieldDescriptor (TX10 k).2.2.1 = some (tyX10 k) := by decide +kernel
abbrev cX10_init : ByteArray := prog_12_method_1_code
def yX10_init : MethodName := ⟨RX10, "<init>", "()V"⟩
abbrev cX10_begin : ByteArray := prog_12_method_2_code
def yX10_begin : MethodName := ⟨RX10, "begin", "(LYesterdayScale$Port;[I)V"⟩
abbrev cX10_take : ByteArray := prog_12_method_3_code
def yX10_take : MethodName := ⟨RX10, "take", "(LYesterdayScale$Port;)V"⟩
abbrev cX10_takeDay : ByteArray := prog_12_method_4_code
def yX10_takeDay : MethodName := ⟨RX10, "takeDay", "(LYesterdayScale$Port;I)V"⟩
abbrev cX10_fillPair : ByteArray := prog_12_method_5_code
def yX10_fillPair : MethodName := ⟨RX10, "fillPair", "([ILYesterdayScale$Port;II)V"⟩
abbrev cX10_heavyIn : ByteArray := prog_12_method_6_code
def yX10_heavyIn : MethodName := ⟨RX10, "heavyIn", "(LYesterdayScale$Port;III)I"⟩
abbrev cX10_weightIn : ByteArray := prog_12_method_7_code
def yX10_weightIn : MethodName := ⟨RX10, "weightIn", "(II)I"⟩
abbrev cX10_shownIn : ByteArray := prog_12_method_8_code
def yX10_shownIn : MethodName := ⟨RX10, "shownIn", "(II)I"⟩
abbrev cX10_isFitting : ByteArray := prog_12_method_9_code
def yX10_isFitting : MethodName := ⟨RX10, "isFitting", "(I)Z"⟩
abbrev cX10_howManyFit : ByteArray := prog_12_method_10_code
def yX10_howManyFit : MethodName := ⟨RX10, "howManyFit", "()I"⟩
abbrev cX10_howManyFitWith : ByteArray := prog_12_method_11_code
def yX10_howManyFitWith : MethodName := ⟨RX10, "howManyFitWith", "(II)I"⟩
abbrev cX10_sureWeight : ByteArray := prog_12_method_12_code
def yX10_sureWeight : MethodName := ⟨RX10, "sureWeight", "(I)I"⟩
abbrev cX10_sureShown : ByteArray := prog_12_method_13_code
def yX10_sureShown : MethodName := ⟨RX10, "sureShown", "(I)I"⟩
abbrev cX10_fewestFalse : ByteArray := prog_12_method_14_code
def yX10_fewestFalse : MethodName := ⟨RX10, "fewestFalse", "()I"⟩
abbrev cX10_falseIn : ByteArray := prog_12_method_15_code
def yX10_falseIn : MethodName := ⟨RX10, "falseIn", "(II)I"⟩
abbrev cX10_forget : ByteArray := prog_12_method_16_code
def yX10_forget : MethodName := ⟨RX10, "forget", "()V"⟩
abbrev cX10_soonSet : ByteArray := prog_12_method_17_code
def yX10_soonSet : MethodName := ⟨RX10, "soonSet", "(I)I"⟩
abbrev cX10_learnSoon : ByteArray := prog_12_method_18_code
def yX10_learnSoon : MethodName := ⟨RX10, "learnSoon", "(LYesterdayScale$Port;)V"⟩
abbrev cX10_worldOf : ByteArray := prog_12_method_19_code
def yX10_worldOf : MethodName := ⟨RX10, "worldOf", "(LYesterdayScale$Port;)I"⟩
abbrev cX10_gatherTrue : ByteArray := prog_12_method_20_code
def yX10_gatherTrue : MethodName := ⟨RX10, "gatherTrue", "(LYesterdayScale$Port;)I"⟩
abbrev cX10_findOneDay : ByteArray := prog_12_method_21_code
def yX10_findOneDay : MethodName := ⟨RX10, "findOneDay", "(LYesterdayScale$Port;II)Z"⟩
abbrev cX10_findTwoDays : ByteArray := prog_12_method_22_code
def yX10_findTwoDays : MethodName := ⟨RX10, "findTwoDays", "(LYesterdayScale$Port;II)V"⟩
abbrev cX10_isAlone : ByteArray := prog_12_method_23_code
def yX10_isAlone : MethodName := ⟨RX10, "isAlone", "(III)Z"⟩
abbrev cX10_bringForward : ByteArray := prog_12_method_24_code
def yX10_bringForward : MethodName := ⟨RX10, "bringForward", "(II)I"⟩
def RX11 : String := "YesterdayScale"
def TX11 : u_T := fun k => match k with
  | 0 => ("YesterdayScale", "rows", "[LYesterdayScale$Row;", true)
  | 1 => ("YesterdayScale", "tape", "LYesterdayScale$Tape;", true)
  | 2 => ("YesterdayScale", "current", "LYesterdayScale$Port;", true)
  | 3 => ("YesterdayScale", "draft", "LYesterdayScale$Port;", true)
  | 4 => ("YesterdayScale", "images", "[LYesterdayScale$Port;", true)
  | 5 => ("YesterdayScale", "worlds", "LYesterdayScale$Worlds;", true)
  | 6 => ("YesterdayScale", "asking", "LYesterdayScale$Asking;", true)
  | 7 => ("YesterdayScale", "latestFault", "I", false)
  | _ => ("YesterdayScale", "latestFinding", "I", false)
def tyX11 : Nat → FieldType := fun k => match k with
  | 0 => .array (.object "YesterdayScale$Row")
  | 1 => .object "YesterdayScale$Tape"
  | 2 => .object "YesterdayScale$Port"
  | 3 => .object "YesterdayScale$Port"
  | 4 => .array (.object "YesterdayScale$Port")
  | 5 => .object "YesterdayScale$Worlds"
  | 6 => .object "YesterdayScale$Asking"
  | 7 => .int
  | _ => .int
abbrev wsX110 : List Cond := u_ws RX11 TX11 9
theorem nmX11 : ∀ a, a < 9 → ∀ b, b < 9 → a ≠ b → (TX11 a).2.1 ≠ (TX11 b).2.1 := by decide +kernel
theorem tyX11_ok : ∀ k, k < 9 → parseFieldDescriptor (TX11 k).2.2.1 = some (tyX11 k) := by decide +kernel
abbrev cX11_init : ByteArray := prog_1_method_1_code
def yX11_init : MethodName := ⟨RX11, "<init>", "()V"⟩
abbrev cX11_row : ByteArray := prog_1_method_2_code
def yX11_row : MethodName := ⟨RX11, "row", "(III)I"⟩
abbrev cX11_set : ByteArray := prog_1_method_3_code
def yX11_set : MethodName := ⟨RX11, "set", "(III)I"⟩
abbrev cX11_copy : ByteArray := prog_1_method_4_code
def yX11_copy : MethodName := ⟨RX11, "copy", "(IIIII)I"⟩
abbrev cX11_drop : ByteArray := prog_1_method_5_code
def yX11_drop : MethodName := ⟨RX11, "drop", "(I)I"⟩
abbrev cX11_feed : ByteArray := prog_1_method_6_code
def yX11_feed : MethodName := ⟨RX11, "feed", "(JI)I"⟩
abbrev cX11_port : ByteArray := prog_1_method_7_code
def yX11_port : MethodName := ⟨RX11, "port", "()I"⟩
abbrev cX11_fault : ByteArray := prog_1_method_8_code
def yX11_fault : MethodName := ⟨RX11, "fault", "()I"⟩
abbrev cX11_day : ByteArray := prog_1_method_9_code
def yX11_day : MethodName := ⟨RX11, "day", "(I)I"⟩
abbrev cX11_undo : ByteArray := prog_1_method_10_code
def yX11_undo : MethodName := ⟨RX11, "undo", "()I"⟩
abbrev cX11_shown : ByteArray := prog_1_method_11_code
def yX11_shown : MethodName := ⟨RX11, "shown", "(II)I"⟩
abbrev cX11_heavy : ByteArray := prog_1_method_12_code
def yX11_heavy : MethodName := ⟨RX11, "heavy", "(II)I"⟩
abbrev cX11_next : ByteArray := prog_1_method_13_code
def yX11_next : MethodName := ⟨RX11, "next", "(I)I"⟩
abbrev cX11_fits : ByteArray := prog_1_method_14_code
def yX11_fits : MethodName := ⟨RX11, "fits", "(III)I"⟩
abbrev cX11_sure : ByteArray := prog_1_method_15_code
def yX11_sure : MethodName := ⟨RX11, "sure", "(II)I"⟩
abbrev cX11_gap : ByteArray := prog_1_method_16_code
def yX11_gap : MethodName := ⟨RX11, "gap", "(II)I"⟩
abbrev cX11_wrong : ByteArray := prog_1_method_17_code
def yX11_wrong : MethodName := ⟨RX11, "wrong", "(II)I"⟩
abbrev cX11_soon : ByteArray := prog_1_method_18_code
def yX11_soon : MethodName := ⟨RX11, "soon", "(I)I"⟩
abbrev cX11_laws : ByteArray := prog_1_method_19_code
def yX11_laws : MethodName := ⟨RX11, "laws", "(I)I"⟩
abbrev cX11_error : ByteArray := prog_1_method_20_code
def yX11_error : MethodName := ⟨RX11, "error", "(I)I"⟩
abbrev cX11_sold : ByteArray := prog_1_method_21_code
def yX11_sold : MethodName := ⟨RX11, "sold", "(II)I"⟩
abbrev cX11_image : ByteArray := prog_1_method_22_code
def yX11_image : MethodName := ⟨RX11, "image", "(I)I"⟩
abbrev cX11_restore : ByteArray := prog_1_method_23_code
def yX11_restore : MethodName := ⟨RX11, "restore", "(I)I"⟩
abbrev cX11_kind : ByteArray := prog_1_method_24_code
def yX11_kind : MethodName := ⟨RX11, "kind", "(I)I"⟩
abbrev cX11_as : ByteArray := prog_1_method_25_code
def yX11_as : MethodName := ⟨RX11, "as", "(II)I"⟩
abbrev cX11_ask : ByteArray := prog_1_method_26_code
def yX11_ask : MethodName := ⟨RX11, "ask", "(II)I"⟩
abbrev cX11_trace : ByteArray := prog_1_method_27_code
def yX11_trace : MethodName := ⟨RX11, "trace", "(I)I"⟩
abbrev cX11_count : ByteArray := prog_1_method_28_code
def yX11_count : MethodName := ⟨RX11, "count", "(I)I"⟩
abbrev cX11_status : ByteArray := prog_1_method_29_code
def yX11_status : MethodName := ⟨RX11, "status", "()I"⟩
abbrev cX11_isRow : ByteArray := prog_1_method_30_code
def yX11_isRow : MethodName := ⟨RX11, "isRow", "(I)Z"⟩
abbrev cX11_isImage : ByteArray := prog_1_method_31_code
def yX11_isImage : MethodName := ⟨RX11, "isImage", "(I)Z"⟩
abbrev cX11_found : ByteArray := prog_1_method_32_code
def yX11_found : MethodName := ⟨RX11, "found", "(I)I"⟩
abbrev cX11_passed : ByteArray := prog_1_method_33_code
def yX11_passed : MethodName := ⟨RX11, "passed", "(I)I"⟩
abbrev cX11_howManyRows : ByteArray := prog_1_method_34_code
def yX11_howManyRows : MethodName := ⟨RX11, "howManyRows", "()I"⟩
abbrev cX11_refusalToTell : ByteArray := prog_1_method_35_code
def yX11_refusalToTell : MethodName := ⟨RX11, "refusalToTell", "(IZ)I"⟩
abbrev cX11_isOfKind : ByteArray := prog_1_method_36_code
def yX11_isOfKind : MethodName := ⟨RX11, "isOfKind", "(LYesterdayScale$Thing;I)Z"⟩
def RX12 : String := "YesterdayScaleModel"
def TX12 : u_T := fun k => match k with
  | 0 => ("YesterdayScaleModel", "thrown", "I", false)
  | 1 => ("YesterdayScaleModel", "status", "I", false)
  | 2 => ("YesterdayScaleModel", "lane", "[I", true)
  | 3 => ("YesterdayScaleModel", "many", "[I", true)
  | 4 => ("YesterdayScaleModel", "item", "[I", true)
  | 5 => ("YesterdayScaleModel", "port", "[I", true)
  | 6 => ("YesterdayScaleModel", "fresh", "[I", true)
  | 7 => ("YesterdayScaleModel", "tape", "[I", true)
  | 8 => ("YesterdayScaleModel", "taped", "I", false)
  | 9 => ("YesterdayScaleModel", "latest", "I", false)
  | 10 => ("YesterdayScaleModel", "length", "I", false)
  | 11 => ("YesterdayScaleModel", "cursor", "I", false)
  | 12 => ("YesterdayScaleModel", "token", "I", false)
  | 13 => ("YesterdayScaleModel", "start", "I", false)
  | 14 => ("YesterdayScaleModel", "till", "I", false)
  | 15 => ("YesterdayScaleModel", "fault", "I", false)
  | 16 => ("YesterdayScaleModel", "faultAt", "I", false)
  | 17 => ("YesterdayScaleModel", "weight", "[I", true)
  | 18 => ("YesterdayScaleModel", "keeps", "I", false)
  | 19 => ("YesterdayScaleModel", "half", "I", false)
  | 20 => ("YesterdayScaleModel", "errorAt", "I", false)
  | 21 => ("YesterdayScaleModel", "left", "[I", true)
  | 22 => ("YesterdayScaleModel", "leftMany", "I", false)
  | 23 => ("YesterdayScaleModel", "truly", "[I", true)
  | 24 => ("YesterdayScaleModel", "soonMany", "I", false)
  | 25 => ("YesterdayScaleModel", "soonSet", "I", false)
  | 26 => ("YesterdayScaleModel", "soonOther", "I", false)
  | 27 => ("YesterdayScaleModel", "isKept", "[Z", true)
  | 28 => ("YesterdayScaleModel", "kept", "[I", true)
  | 29 => ("YesterdayScaleModel", "trace", "[I", true)
  | _ => ("YesterdayScaleModel", "traced", "I", false)
def tyX12 : Nat → FieldType := fun k => match k with
  | 0 => .int
  | 1 => .int
  | 2 => .array .int
  | 3 => .array .int
  | 4 => .array .int
  | 5 => .array .int
  | 6 => .array .int
  | 7 => .array .int
  | 8 => .int
  | 9 => .int
  | 10 => .int
  | 11 => .int
  | 12 => .int
  | 13 => .int
  | 14 => .int
  | 15 => .int
  | 16 => .int
  | 17 => .array .int
  | 18 => .int
  | 19 => .int
  | 20 => .int
  | 21 => .array .int
  | 22 => .int
  | 23 => .array .int
  | 24 => .int
  | 25 => .int
  | 26 => .int
  | 27 => .array .boolean
  | 28 => .array .int
  | 29 => .array .int
  | _ => .int
abbrev wsX120 : List Cond := u_ws RX12 TX12 31
theorem nmX12 : ∀ a, a < 31 → ∀ b, b < 31 → a ≠ b → (TX12 a).2.1 ≠ (TX12 b).2.1 := by decide +kernel
theorem tyX12_ok : ∀ k, k < 31 → parseFieldDescriptor (TX12 k).2.2.1 = some (tyX12 k) := by decide +kernel
abbrev cX12_init : ByteArray := prog_14_method_1_code
def yX12_init : MethodName := ⟨RX12, "<init>", "()V"⟩
abbrev cX12_in : ByteArray := prog_14_method_3_code
def yX12_in : MethodName := ⟨RX12, "in", "(JJJ)Z"⟩
abbrev cX12_finding : ByteArray := prog_14_method_4_code
def yX12_finding : MethodName := ⟨RX12, "finding", "(I)I"⟩
abbrev cX12_isRow : ByteArray := prog_14_method_5_code
def yX12_isRow : MethodName := ⟨RX12, "isRow", "(I)Z"⟩
abbrev cX12_row : ByteArray := prog_14_method_6_code
def yX12_row : MethodName := ⟨RX12, "row", "(III)I"⟩
abbrev cX12_set : ByteArray := prog_14_method_7_code
def yX12_set : MethodName := ⟨RX12, "set", "(III)I"⟩
abbrev cX12_copy : ByteArray := prog_14_method_8_code
def yX12_copy : MethodName := ⟨RX12, "copy", "(IIIII)I"⟩
abbrev cX12_drop : ByteArray := prog_14_method_9_code
def yX12_drop : MethodName := ⟨RX12, "drop", "(I)I"⟩
abbrev cX12_feed : ByteArray := prog_14_method_10_code
def yX12_feed : MethodName := ⟨RX12, "feed", "(JI)I"⟩
abbrev cX12_byteAt : ByteArray := prog_14_method_11_code
def yX12_byteAt : MethodName := ⟨RX12, "byteAt", "(I)I"⟩
abbrev cX12_isLetter : ByteArray := prog_14_method_12_code
def yX12_isLetter : MethodName := ⟨RX12, "isLetter", "(I)Z"⟩
abbrev cX12_isFigure : ByteArray := prog_14_method_13_code
def yX12_isFigure : MethodName := ⟨RX12, "isFigure", "(I)Z"⟩
abbrev cX12_nextToken : ByteArray := prog_14_method_14_code
def yX12_nextToken : MethodName := ⟨RX12, "nextToken", "()V"⟩
abbrev cX12_begin : ByteArray := prog_14_method_15_code
def yX12_begin : MethodName := ⟨RX12, "begin", "()V"⟩
abbrev cX12_bad : ByteArray := prog_14_method_16_code
def yX12_bad : MethodName := ⟨RX12, "bad", "(I)V"⟩
abbrev cX12_must : ByteArray := prog_14_method_17_code
def yX12_must : MethodName := ⟨RX12, "must", "(Z)V"⟩
abbrev cX12_name : ByteArray := prog_14_method_18_code
def yX12_name : MethodName := ⟨RX12, "name", "()J"⟩
abbrev cX12_figures : ByteArray := prog_14_method_19_code
def yX12_figures : MethodName := ⟨RX12, "figures", "()I"⟩
abbrev cX12_number : ByteArray := prog_14_method_20_code
def yX12_number : MethodName := ⟨RX12, "number", "(II)I"⟩
abbrev cX12_kindBy : ByteArray := prog_14_method_21_code
def yX12_kindBy : MethodName := ⟨RX12, "kindBy", "(J)I"⟩
abbrev cX12_mustEnd : ByteArray := prog_14_method_22_code
def yX12_mustEnd : MethodName := ⟨RX12, "mustEnd", "()V"⟩
abbrev cX12_begins : ByteArray := prog_14_method_23_code
def yX12_begins : MethodName := ⟨RX12, "begins", "(II)V"⟩
abbrev cX12_readThing : ByteArray := prog_14_method_24_code
def yX12_readThing : MethodName := ⟨RX12, "readThing", "()V"⟩
abbrev cX12_readDay : ByteArray := prog_14_method_25_code
def yX12_readDay : MethodName := ⟨RX12, "readDay", "()V"⟩
abbrev cX12_port : ByteArray := prog_14_method_26_code
def yX12_port : MethodName := ⟨RX12, "port", "()I"⟩
abbrev cX12_fault : ByteArray := prog_14_method_27_code
def yX12_fault : MethodName := ⟨RX12, "fault", "()I"⟩
abbrev cX12_isThere : ByteArray := prog_14_method_28_code
def yX12_isThere : MethodName := ⟨RX12, "isThere", "()Z"⟩
abbrev cX12_isThing : ByteArray := prog_14_method_29_code
def yX12_isThing : MethodName := ⟨RX12, "isThing", "(I)Z"⟩
abbrev cX12_isDay : ByteArray := prog_14_method_30_code
def yX12_isDay : MethodName := ⟨RX12, "isDay", "(I)Z"⟩
abbrev cX12_isSet : ByteArray := prog_14_method_31_code
def yX12_isSet : MethodName := ⟨RX12, "isSet", "(I)Z"⟩
abbrev cX12_kindOf : ByteArray := prog_14_method_32_code
def yX12_kindOf : MethodName := ⟨RX12, "kindOf", "(I)I"⟩
abbrev cX12_layTruly : ByteArray := prog_14_method_33_code
def yX12_layTruly : MethodName := ⟨RX12, "layTruly", "()V"⟩
abbrev cX12_layWorld : ByteArray := prog_14_method_34_code
def yX12_layWorld : MethodName := ⟨RX12, "layWorld", "(I)V"⟩
abbrev cX12_worlds : ByteArray := prog_14_method_35_code
def yX12_worlds : MethodName := ⟨RX12, "worlds", "()I"⟩
abbrev cX12_heavyOn : ByteArray := prog_14_method_36_code
def yX12_heavyOn : MethodName := ⟨RX12, "heavyOn", "(II)I"⟩
abbrev cX12_loadOn : ByteArray := prog_14_method_37_code
def yX12_loadOn : MethodName := ⟨RX12, "loadOn", "(I)I"⟩
abbrev cX12_isFresh : ByteArray := prog_14_method_38_code
def yX12_isFresh : MethodName := ⟨RX12, "isFresh", "(I)Z"⟩
abbrev cX12_shows : ByteArray := prog_14_method_39_code
def yX12_shows : MethodName := ⟨RX12, "shows", "(I)I"⟩
abbrev cX12_day : ByteArray := prog_14_method_40_code
def yX12_day : MethodName := ⟨RX12, "day", "(I)I"⟩
abbrev cX12_undo : ByteArray := prog_14_method_41_code
def yX12_undo : MethodName := ⟨RX12, "undo", "()I"⟩
abbrev cX12_shown : ByteArray := prog_14_method_42_code
def yX12_shown : MethodName := ⟨RX12, "shown", "(II)I"⟩
abbrev cX12_heavy : ByteArray := prog_14_method_43_code
def yX12_heavy : MethodName := ⟨RX12, "heavy", "(II)I"⟩
abbrev cX12_next : ByteArray := prog_14_method_44_code
def yX12_next : MethodName := ⟨RX12, "next", "(I)I"⟩
abbrev cX12_barred : ByteArray := prog_14_method_45_code
def yX12_barred : MethodName := ⟨RX12, "barred", "(IZ)I"⟩
abbrev cX12_wrongDays : ByteArray := prog_14_method_46_code
def yX12_wrongDays : MethodName := ⟨RX12, "wrongDays", "(I)I"⟩
abbrev cX12_fits : ByteArray := prog_14_method_47_code
def yX12_fits : MethodName := ⟨RX12, "fits", "(III)I"⟩
abbrev cX12_sure : ByteArray := prog_14_method_48_code
def yX12_sure : MethodName := ⟨RX12, "sure", "(II)I"⟩
abbrev cX12_oneOf : ByteArray := prog_14_method_49_code
def yX12_oneOf : MethodName := ⟨RX12, "oneOf", "(I)I"⟩
abbrev cX12_gap : ByteArray := prog_14_method_50_code
def yX12_gap : MethodName := ⟨RX12, "gap", "(II)I"⟩
abbrev cX12_bits : ByteArray := prog_14_method_51_code
def yX12_bits : MethodName := ⟨RX12, "bits", "(I)I"⟩
abbrev cX12_wrong : ByteArray := prog_14_method_52_code
def yX12_wrong : MethodName := ⟨RX12, "wrong", "(II)I"⟩
abbrev cX12_layTrulyShown : ByteArray := prog_14_method_53_code
def yX12_layTrulyShown : MethodName := ⟨RX12, "layTrulyShown", "(I)V"⟩
abbrev cX12_layLeft : ByteArray := prog_14_method_54_code
def yX12_layLeft : MethodName := ⟨RX12, "layLeft", "()V"⟩
abbrev cX12_isOne : ByteArray := prog_14_method_55_code
def yX12_isOne : MethodName := ⟨RX12, "isOne", "(I)Z"⟩
abbrev cX12_laySoon : ByteArray := prog_14_method_56_code
def yX12_laySoon : MethodName := ⟨RX12, "laySoon", "()V"⟩
abbrev cX12_soon : ByteArray := prog_14_method_57_code
def yX12_soon : MethodName := ⟨RX12, "soon", "(I)I"⟩
abbrev cX12_laws : ByteArray := prog_14_method_58_code
def yX12_laws : MethodName := ⟨RX12, "laws", "(I)I"⟩
abbrev cX12_error : ByteArray := prog_14_method_59_code
def yX12_error : MethodName := ⟨RX12, "error", "(I)I"⟩
abbrev cX12_sold : ByteArray := prog_14_method_60_code
def yX12_sold : MethodName := ⟨RX12, "sold", "(II)I"⟩
abbrev cX12_image : ByteArray := prog_14_method_61_code
def yX12_image : MethodName := ⟨RX12, "image", "(I)I"⟩
abbrev cX12_restore : ByteArray := prog_14_method_62_code
def yX12_restore : MethodName := ⟨RX12, "restore", "(I)I"⟩
abbrev cX12_isOf : ByteArray := prog_14_method_63_code
def yX12_isOf : MethodName := ⟨RX12, "isOf", "(II)Z"⟩
abbrev cX12_kind : ByteArray := prog_14_method_64_code
def yX12_kind : MethodName := ⟨RX12, "kind", "(I)I"⟩
abbrev cX12_as : ByteArray := prog_14_method_65_code
def yX12_as : MethodName := ⟨RX12, "as", "(II)I"⟩
abbrev cX12_began : ByteArray := prog_14_method_66_code
def yX12_began : MethodName := ⟨RX12, "began", "(I)V"⟩
abbrev cX12_plainSize : ByteArray := prog_14_method_67_code
def yX12_plainSize : MethodName := ⟨RX12, "plainSize", "(I)I"⟩
abbrev cX12_stoneSize : ByteArray := prog_14_method_68_code
def yX12_stoneSize : MethodName := ⟨RX12, "stoneSize", "(I)I"⟩
abbrev cX12_markOf : ByteArray := prog_14_method_69_code
def yX12_markOf : MethodName := ⟨RX12, "markOf", "(I)I"⟩
abbrev cX12_sizeOf : ByteArray := prog_14_method_70_code
def yX12_sizeOf : MethodName := ⟨RX12, "sizeOf", "(I)I"⟩
abbrev cX12_ask : ByteArray := prog_14_method_71_code
def yX12_ask : MethodName := ⟨RX12, "ask", "(II)I"⟩
abbrev cX12_trace : ByteArray := prog_14_method_72_code
def yX12_trace : MethodName := ⟨RX12, "trace", "(I)I"⟩
abbrev cX12_count : ByteArray := prog_14_method_73_code
def yX12_count : MethodName := ⟨RX12, "count", "(I)I"⟩
abbrev cX12_status : ByteArray := prog_14_method_74_code
def yX12_status : MethodName := ⟨RX12, "status", "()I"⟩
def RJ6 : String := "java/lang/Integer"
def TJ6 : u_T := fun k => match k with
  | _ => ("", "", "", false)
def tyJ6 : Nat → FieldType := fun k => match k with
  | _ => .int
abbrev wsJ60 : List Cond := u_ws RJ6 TJ6 0
theorem nmJ6 : ∀ a, a < 0 → ∀ b, b < 0 → a ≠ b → (TJ6 a).2.1 ≠ (TJ6 b).2.1 := by decide +kernel
theorem tyJ6_ok : ∀ k, k < 0 → parseFieldDescriptor (TJ6 k).2.2.1 = some (tyJ6 k) := by decide +kernel
abbrev cJ6_bitCount_0f7a4 : ByteArray := prog_15_method_49_code
def yJ6_bitCount_0f7a4 : MethodName := ⟨RJ6, "bitCount", "(I)I"⟩
def RJ0 : String := "java/lang/String"
def TJ0 : u_T := fun k => match k with
  | _ => ("", "", "", false)
def tyJ0 : Nat → FieldType := fun k => match k with
  | _ => .int
abbrev wsJ00 : List Cond := u_ws RJ0 TJ0 0
theorem nmJ0 : ∀ a, a < 0 → ∀ b, b < 0 → a ≠ b → (TJ0 a).2.1 ≠ (TJ0 b).2.1 := by decide +kernel
theorem tyJ0_ok : ∀ k, k < 0 → parseFieldDescriptor (TJ0 k).2.2.1 = some (tyJ0 k) := by decide +kernel
abbrev cJ0_length_8abf5 : ByteArray := prog_16_method_54_code
def yJ0_length_8abf5 : MethodName := ⟨RJ0, "length", "()I"⟩
abbrev cJ0_charAt_5068e : ByteArray := prog_16_method_56_code
def yJ0_charAt_5068e : MethodName := ⟨RJ0, "charAt", "(I)C"⟩
abbrev cJ0_coder_7d493 : ByteArray := prog_16_method_152_code
def yJ0_coder_7d493 : MethodName := ⟨RJ0, "coder", "()B"⟩
abbrev cJ0_isLatin1_aae02 : ByteArray := prog_16_method_154_code
def yJ0_isLatin1_aae02 : MethodName := ⟨RJ0, "isLatin1", "()Z"⟩
abbrev cJ0_checkIndex_df160 : ByteArray := prog_16_method_155_code
def yJ0_checkIndex_df160 : MethodName := ⟨RJ0, "checkIndex", "(II)V"⟩
def RJ1 : String := "java/lang/StringLatin1"
def TJ1 : u_T := fun k => match k with
  | _ => ("", "", "", false)
def tyJ1 : Nat → FieldType := fun k => match k with
  | _ => .int
abbrev wsJ10 : List Cond := u_ws RJ1 TJ1 0
theorem nmJ1 : ∀ a, a < 0 → ∀ b, b < 0 → a ≠ b → (TJ1 a).2.1 ≠ (TJ1 b).2.1 := by decide +kernel
theorem tyJ1_ok : ∀ k, k < 0 → parseFieldDescriptor (TJ1 k).2.2.1 = some (tyJ1 k) := by decide +kernel
abbrev cJ1_charAt_3b067 : ByteArray := prog_17_method_2_code
def yJ1_charAt_3b067 : MethodName := ⟨RJ1, "charAt", "([BI)C"⟩
def RJ2 : String := "java/lang/StringUTF16"
def TJ2 : u_T := fun k => match k with
  | _ => ("", "", "", false)
def tyJ2 : Nat → FieldType := fun k => match k with
  | _ => .int
abbrev wsJ20 : List Cond := u_ws RJ2 TJ2 0
theorem nmJ2 : ∀ a, a < 0 → ∀ b, b < 0 → a ≠ b → (TJ2 a).2.1 ≠ (TJ2 b).2.1 := by decide +kernel
theorem tyJ2_ok : ∀ k, k < 0 → parseFieldDescriptor (TJ2 k).2.2.1 = some (tyJ2 k) := by decide +kernel
abbrev cJ2_getChar_3b067 : ByteArray := prog_18_method_5_code
def yJ2_getChar_3b067 : MethodName := ⟨RJ2, "getChar", "([BI)C"⟩
abbrev cJ2_length_9d52b : ByteArray := prog_18_method_6_code
def yJ2_length_9d52b : MethodName := ⟨RJ2, "length", "([B)I"⟩
abbrev cJ2_charAt_3b067 : ByteArray := prog_18_method_83_code
def yJ2_charAt_3b067 : MethodName := ⟨RJ2, "charAt", "([BI)C"⟩
abbrev cJ2_checkIndex_2214a : ByteArray := prog_18_method_91_code
def yJ2_checkIndex_2214a : MethodName := ⟨RJ2, "checkIndex", "(I[B)V"⟩
def RJ10 : String := "java/lang/System"
def TJ10 : u_T := fun k => match k with
  | _ => ("", "", "", false)
def tyJ10 : Nat → FieldType := fun k => match k with
  | _ => .int
abbrev wsJ100 : List Cond := u_ws RJ10 TJ10 0
theorem nmJ10 : ∀ a, a < 0 → ∀ b, b < 0 → a ≠ b → (TJ10 a).2.1 ≠ (TJ10 b).2.1 := by decide +kernel
theorem tyJ10_ok : ∀ k, k < 0 → parseFieldDescriptor (TJ10 k).2.2.1 = some (tyJ10 k) := by decide +kernel
def RJ3 : String := "jdk/internal/util/Preconditions"
def TJ3 : u_T := fun k => match k with
  | _ => ("", "", "", false)
def tyJ3 : Nat → FieldType := fun k => match k with
  | _ => .int
abbrev wsJ30 : List Cond := u_ws RJ3 TJ3 0
theorem nmJ3 : ∀ a, a < 0 → ∀ b, b < 0 → a ≠ b → (TJ3 a).2.1 ≠ (TJ3 b).2.1 := by decide +kernel
theorem tyJ3_ok : ∀ k, k < 0 → parseFieldDescriptor (TJ3 k).2.2.1 = some (tyJ3 k) := by decide +kernel
abbrev cJ3_checkIndex_8e157 : ByteArray := prog_20_method_11_code
def yJ3_checkIndex_8e157 : MethodName := ⟨RJ3, "checkIndex", "(IILjava/util/function/BiFunction;)I"⟩
def RL : String := "YesterdayScaleLaw"
abbrev cL_law : ByteArray := code
def yL_law : MethodName := ⟨RL, "law", "([I)Z"⟩
abbrev vwCl : List vw_C := [(RX0, TX0, 3), (RX1, TX1, 2), (RX2, TX2, 11), (RX3, TX3, 4), (RX4, TX4, 2), (RX5, TX5, 2), (RX6, TX6, 8), (RX8, TX8, 2), (RX9, TX9, 2), (RX10, TX10, 13), (RX11, TX11, 9), (RX12, TX12, 31)]

def gT : List Cond := lw_tbl.filter goodWord
theorem gT_in {w : Cond} (i : Nat) (h : lw_tbl[i]? = some w) (h2 : goodWord w = true) : w ∈ gT := List.mem_filter.mpr ⟨List.mem_of_getElem? h, h2⟩
theorem gT_good {big : List Cond} {c : Cond} (hb : ∀ w ∈ gT, w ∈ big) (hc : c ∈ gT) : GoodIn big (c :: gT) := fun w h => by
  rcases List.mem_cons.mp h with rfl | h
  · exact ⟨hb _ hc, good_of_word (List.mem_filter.mp hc).2⟩
  · exact ⟨hb _ h, good_of_word (List.mem_filter.mp h).2⟩
abbrev gMk (y : MethodName) (c : ByteArray) (n : Nat) (r : Option FieldType) : MethodName × ByteArray × Nat × Option FieldType × List Cond := (y, c, n, r, Cond.code y c n r :: gT)
theorem tU_X0 : ∀ w ∈ wsX00, w ∈ gT := fun w h => List.mem_filter.mpr ⟨(by decide +kernel : ∀ w ∈ wsX00, w ∈ lw_tbl) w h, (by decide +kernel : ∀ w ∈ wsX00, goodWord w = true) w h⟩
theorem tU_X1 : ∀ w ∈ wsX10, w ∈ gT := fun w h => List.mem_filter.mpr ⟨(by decide +kernel : ∀ w ∈ wsX10, w ∈ lw_tbl) w h, (by decide +kernel : ∀ w ∈ wsX10, goodWord w = true) w h⟩
theorem tU_X2 : ∀ w ∈ wsX20, w ∈ gT := fun w h => List.mem_filter.mpr ⟨(by decide +kernel : ∀ w ∈ wsX20, w ∈ lw_tbl) w h, (by decide +kernel : ∀ w ∈ wsX20, goodWord w = true) w h⟩
theorem tU_X3 : ∀ w ∈ wsX30, w ∈ gT := fun w h => List.mem_filter.mpr ⟨(by decide +kernel : ∀ w ∈ wsX30, w ∈ lw_tbl) w h, (by decide +kernel : ∀ w ∈ wsX30, goodWord w = true) w h⟩
theorem tU_X4 : ∀ w ∈ wsX40, w ∈ gT := fun w h => List.mem_filter.mpr ⟨(by decide +kernel : ∀ w ∈ wsX40, w ∈ lw_tbl) w h, (by decide +kernel : ∀ w ∈ wsX40, goodWord w = true) w h⟩
theorem tU_X5 : ∀ w ∈ wsX50, w ∈ gT := fun w h => List.mem_filter.mpr ⟨(by decide +kernel : ∀ w ∈ wsX50, w ∈ lw_tbl) w h, (by decide +kernel : ∀ w ∈ wsX50, goodWord w = true) w h⟩
theorem tU_X6 : ∀ w ∈ wsX60, w ∈ gT := fun w h => List.mem_filter.mpr ⟨(by decide +kernel : ∀ w ∈ wsX60, w ∈ lw_tbl) w h, (by decide +kernel : ∀ w ∈ wsX60, goodWord w = true) w h⟩
theorem tU_X7 : ∀ w ∈ wsX70, w ∈ gT := fun w h => List.mem_filter.mpr ⟨(by decide +kernel : ∀ w ∈ wsX70, w ∈ lw_tbl) w h, (by decide +kernel : ∀ w ∈ wsX70, goodWord w = true) w h⟩
theorem tU_X8 : ∀ w ∈ wsX80, w ∈ gT := fun w h => List.mem_filter.mpr ⟨(by decide +kernel : ∀ w ∈ wsX80, w ∈ lw_tbl) w h, (by decide +kernel : ∀ w ∈ wsX80, goodWord w = true) w h⟩
theorem tU_X9 : ∀ w ∈ wsX90, w ∈ gT := fun w h => List.mem_filter.mpr ⟨(by decide +kernel : ∀ w ∈ wsX90, w ∈ lw_tbl) w h, (by decide +kernel : ∀ w ∈ wsX90, goodWord w = true) w h⟩
theorem tU_X10 : ∀ w ∈ wsX100, w ∈ gT := fun w h => List.mem_filter.mpr ⟨(by decide +kernel : ∀ w ∈ wsX100, w ∈ lw_tbl) w h, (by decide +kernel : ∀ w ∈ wsX100, goodWord w = true) w h⟩
theorem tU_X11 : ∀ w ∈ wsX110, w ∈ gT := fun w h => List.mem_filter.mpr ⟨(by decide +kernel : ∀ w ∈ wsX110, w ∈ lw_tbl) w h, (by decide +kernel : ∀ w ∈ wsX110, goodWord w = true) w h⟩
theorem tU_X12 : ∀ w ∈ wsX120, w ∈ gT := fun w h => List.mem_filter.mpr ⟨(by decide +kernel : ∀ w ∈ wsX120, w ∈ lw_tbl) w h, (by decide +kernel : ∀ w ∈ wsX120, goodWord w = true) w h⟩
