def RX0 : String := "SieveHouse$Additive"
def TX0 : u_T := fun k => match k with
  | _ => ("", "", "", false)
def tyX0 : Nat → FieldType := fun k => match k with
  | _ => .int
theorem nmX0 : ∀ a, a < 0 → ∀ b, b < 0 → a ≠ b → (TX0 a).2.1 ≠ (TX0 b).2.1 := by decide +kernel
theorem tyX0_ok : ∀ k, k < 0 → parseFieldDescriptor (TX0 k).2.2.1 = some (tyX0 k) := by decide +kernel
def RX1 : String := "SieveHouse$Duel"
def TX1 : u_T := fun k => match k with
  | _ => ("", "", "", false)
def tyX1 : Nat → FieldType := fun k => match k with
  | _ => .int
theorem nmX1 : ∀ a, a < 0 → ∀ b, b < 0 → a ≠ b → (TX1 a).2.1 ≠ (TX1 b).2.1 := by decide +kernel
theorem tyX1_ok : ∀ k, k < 0 → parseFieldDescriptor (TX1 k).2.2.1 = some (tyX1 k) := by decide +kernel
def RX2 : String := "SieveHouse$Listed"
def TX2 : u_T := fun k => match k with
  | 0 => ("SieveHouse$Listed", "numbers", "[I", true)
  | _ => ("SieveHouse$Listed", "size", "I", false)
def tyX2 : Nat → FieldType := fun k => match k with
  | 0 => .array .int
  | _ => .int
theorem nmX2 : ∀ a, a < 2 → ∀ b, b < 2 → a ≠ b → (TX2 a).2.1 ≠ (TX2 b).2.1 := by decide +kernel
theorem tyX2_ok : ∀ k, k < 2 → parseFieldDescriptor (TX2 k).2.2.1 = some (tyX2 k) := by decide +kernel
abbrev cX2_init : ByteArray := prog_4_method_1_code
def yX2_init : MethodName := ⟨RX2, "<init>", "()V"⟩
abbrev cX2_takeOver : ByteArray := prog_4_method_2_code
def yX2_takeOver : MethodName := ⟨RX2, "takeOver", "(LSieveHouse$Listed;)V"⟩
abbrev cX2_append : ByteArray := prog_4_method_3_code
def yX2_append : MethodName := ⟨RX2, "append", "(I)V"⟩
def RX3 : String := "SieveHouse$Past"
def TX3 : u_T := fun k => match k with
  | _ => ("", "", "", false)
def tyX3 : Nat → FieldType := fun k => match k with
  | _ => .int
theorem nmX3 : ∀ a, a < 0 → ∀ b, b < 0 → a ≠ b → (TX3 a).2.1 ≠ (TX3 b).2.1 := by decide +kernel
theorem tyX3_ok : ∀ k, k < 0 → parseFieldDescriptor (TX3 k).2.2.1 = some (tyX3 k) := by decide +kernel
abbrev cX3_ofRound : ByteArray := prog_5_method_2_code
def yX3_ofRound : MethodName := ⟨RX3, "ofRound", "(LSieveHouse$Sieve;II)I"⟩
abbrev cX3_ofStruck : ByteArray := prog_5_method_3_code
def yX3_ofStruck : MethodName := ⟨RX3, "ofStruck", "(LSieveHouse$Sieve;II)I"⟩
abbrev cX3_ledBack : ByteArray := prog_5_method_4_code
def yX3_ledBack : MethodName := ⟨RX3, "ledBack", "(LSieveHouse$Sieve;III)I"⟩
abbrev cX3_ledOn : ByteArray := prog_5_method_5_code
def yX3_ledOn : MethodName := ⟨RX3, "ledOn", "(LSieveHouse$Sieve;II)I"⟩
abbrev cX3_struckNumber : ByteArray := prog_5_method_7_code
def yX3_struckNumber : MethodName := ⟨RX3, "struckNumber", "(LSieveHouse$Sieve;I)I"⟩
abbrev cX3_countFrom : ByteArray := prog_5_method_8_code
def yX3_countFrom : MethodName := ⟨RX3, "countFrom", "(LSieveHouse$Sieve;I)I"⟩
abbrev cX3_firstStruckBy : ByteArray := prog_5_method_9_code
def yX3_firstStruckBy : MethodName := ⟨RX3, "firstStruckBy", "(LSieveHouse$Sieve;I)I"⟩
abbrev cX3_roundOfEvent : ByteArray := prog_5_method_10_code
def yX3_roundOfEvent : MethodName := ⟨RX3, "roundOfEvent", "(LSieveHouse$Sieve;I)I"⟩
abbrev cX3_placeAhead : ByteArray := prog_5_method_11_code
def yX3_placeAhead : MethodName := ⟨RX3, "placeAhead", "(LSieveHouse$Sieve;II)I"⟩
abbrev cX3_indexAhead : ByteArray := prog_5_method_12_code
def yX3_indexAhead : MethodName := ⟨RX3, "indexAhead", "(LSieveHouse$Sieve;II)I"⟩
def RX4 : String := "SieveHouse$Printer"
def TX4 : u_T := fun k => match k with
  | 0 => ("SieveHouse$Printer", "bytes", "[I", true)
  | _ => ("SieveHouse$Printer", "length", "I", false)
def tyX4 : Nat → FieldType := fun k => match k with
  | 0 => .array .int
  | _ => .int
theorem nmX4 : ∀ a, a < 2 → ∀ b, b < 2 → a ≠ b → (TX4 a).2.1 ≠ (TX4 b).2.1 := by decide +kernel
theorem tyX4_ok : ∀ k, k < 2 → parseFieldDescriptor (TX4 k).2.2.1 = some (tyX4 k) := by decide +kernel
abbrev cX4_init : ByteArray := prog_6_method_1_code
def yX4_init : MethodName := ⟨RX4, "<init>", "()V"⟩
def RX5 : String := "SieveHouse$Reader"
def TX5 : u_T := fun k => match k with
  | 0 => ("SieveHouse$Reader", "tape", "[I", true)
  | 1 => ("SieveHouse$Reader", "fed", "I", false)
  | 2 => ("SieveHouse$Reader", "length", "I", false)
  | 3 => ("SieveHouse$Reader", "faultKind", "I", false)
  | 4 => ("SieveHouse$Reader", "faultPlace", "I", false)
  | 5 => ("SieveHouse$Reader", "token", "I", false)
  | 6 => ("SieveHouse$Reader", "start", "I", false)
  | 7 => ("SieveHouse$Reader", "end", "I", false)
  | 8 => ("SieveHouse$Reader", "value", "I", false)
  | 9 => ("SieveHouse$Reader", "sieves", "[LSieveHouse$Sieve;", true)
  | 10 => ("SieveHouse$Reader", "sieveCount", "I", false)
  | 11 => ("SieveHouse$Reader", "lists", "[LSieveHouse$Listed;", true)
  | 12 => ("SieveHouse$Reader", "listCount", "I", false)
  | 13 => ("SieveHouse$Reader", "nameStarts", "[I", true)
  | _ => ("SieveHouse$Reader", "nameEnds", "[I", true)
def tyX5 : Nat → FieldType := fun k => match k with
  | 0 => .array .int
  | 1 => .int
  | 2 => .int
  | 3 => .int
  | 4 => .int
  | 5 => .int
  | 6 => .int
  | 7 => .int
  | 8 => .int
  | 9 => .array (.object "SieveHouse$Sieve")
  | 10 => .int
  | 11 => .array (.object "SieveHouse$Listed")
  | 12 => .int
  | 13 => .array .int
  | _ => .array .int
theorem nmX5 : ∀ a, a < 15 → ∀ b, b < 15 → a ≠ b → (TX5 a).2.1 ≠ (TX5 b).2.1 := by decide +kernel
theorem tyX5_ok : ∀ k, k < 15 → parseFieldDescriptor (TX5 k).2.2.1 = some (tyX5 k) := by decide +kernel
abbrev cX5_init : ByteArray := prog_7_method_1_code
def yX5_init : MethodName := ⟨RX5, "<init>", "()V"⟩
abbrev cX5_sieveAt : ByteArray := prog_7_method_2_code
def yX5_sieveAt : MethodName := ⟨RX5, "sieveAt", "(I)LSieveHouse$Sieve;"⟩
abbrev cX5_listAt : ByteArray := prog_7_method_3_code
def yX5_listAt : MethodName := ⟨RX5, "listAt", "(I)LSieveHouse$Listed;"⟩
abbrev cX5_append : ByteArray := prog_7_method_4_code
def yX5_append : MethodName := ⟨RX5, "append", "(IIIII)I"⟩
abbrev cX5_appendInt : ByteArray := prog_7_method_5_code
def yX5_appendInt : MethodName := ⟨RX5, "appendInt", "(I)V"⟩
abbrev cX5_readText : ByteArray := prog_7_method_6_code
def yX5_readText : MethodName := ⟨RX5, "readText", "(I)Z"⟩
abbrev cX5_readSieve : ByteArray := prog_7_method_7_code
def yX5_readSieve : MethodName := ⟨RX5, "readSieve", "()Z"⟩
abbrev cX5_kindOfLaw : ByteArray := prog_7_method_8_code
def yX5_kindOfLaw : MethodName := ⟨RX5, "kindOfLaw", "()I"⟩
abbrev cX5_readFixed : ByteArray := prog_7_method_9_code
def yX5_readFixed : MethodName := ⟨RX5, "readFixed", "(LSieveHouse$Sieve;)Z"⟩
abbrev cX5_readTold : ByteArray := prog_7_method_10_code
def yX5_readTold : MethodName := ⟨RX5, "readTold", "(LSieveHouse$Sieve;)Z"⟩
abbrev cX5_readList : ByteArray := prog_7_method_11_code
def yX5_readList : MethodName := ⟨RX5, "readList", "()Z"⟩
abbrev cX5_readName : ByteArray := prog_7_method_12_code
def yX5_readName : MethodName := ⟨RX5, "readName", "()Z"⟩
abbrev cX5_readWord : ByteArray := prog_7_method_13_code
def yX5_readWord : MethodName := ⟨RX5, "readWord", "(Ljava/lang/String;)Z"⟩
abbrev cX5_readSign : ByteArray := prog_7_method_14_code
def yX5_readSign : MethodName := ⟨RX5, "readSign", "()Z"⟩
abbrev cX5_readNumber : ByteArray := prog_7_method_15_code
def yX5_readNumber : MethodName := ⟨RX5, "readNumber", "(II)I"⟩
abbrev cX5_refuseSurplus : ByteArray := prog_7_method_16_code
def yX5_refuseSurplus : MethodName := ⟨RX5, "refuseSurplus", "(II)Z"⟩
abbrev cX5_unexpected : ByteArray := prog_7_method_17_code
def yX5_unexpected : MethodName := ⟨RX5, "unexpected", "()Z"⟩
abbrev cX5_refuse : ByteArray := prog_7_method_18_code
def yX5_refuse : MethodName := ⟨RX5, "refuse", "(I)Z"⟩
abbrev cX5_look : ByteArray := prog_7_method_19_code
def yX5_look : MethodName := ⟨RX5, "look", "()V"⟩
abbrev cX5_isReserved : ByteArray := prog_7_method_20_code
def yX5_isReserved : MethodName := ⟨RX5, "isReserved", "()Z"⟩
abbrev cX5_is : ByteArray := prog_7_method_21_code
def yX5_is : MethodName := ⟨RX5, "is", "(Ljava/lang/String;)Z"⟩
abbrev cX5_isSameWord : ByteArray := prog_7_method_22_code
def yX5_isSameWord : MethodName := ⟨RX5, "isSameWord", "(II)Z"⟩
abbrev cX5_byteAt : ByteArray := prog_7_method_23_code
def yX5_byteAt : MethodName := ⟨RX5, "byteAt", "(I)I"⟩
abbrev cX5_isBlank : ByteArray := prog_7_method_24_code
def yX5_isBlank : MethodName := ⟨RX5, "isBlank", "(I)Z"⟩
abbrev cX5_isLetter : ByteArray := prog_7_method_25_code
def yX5_isLetter : MethodName := ⟨RX5, "isLetter", "(I)Z"⟩
abbrev cX5_isDigit : ByteArray := prog_7_method_26_code
def yX5_isDigit : MethodName := ⟨RX5, "isDigit", "(I)Z"⟩
def RX6 : String := "SieveHouse$Shelf"
def TX6 : u_T := fun k => match k with
  | 0 => ("SieveHouse$Shelf", "sieves", "[LSieveHouse$Sieve;", true)
  | 1 => ("SieveHouse$Shelf", "count", "I", false)
  | 2 => ("SieveHouse$Shelf", "lists", "[LSieveHouse$Listed;", true)
  | 3 => ("SieveHouse$Shelf", "listCount", "I", false)
  | 4 => ("SieveHouse$Shelf", "actKinds", "[I", true)
  | 5 => ("SieveHouse$Shelf", "actNumbers", "[I", true)
  | 6 => ("SieveHouse$Shelf", "actSieves", "[LSieveHouse$Sieve;", true)
  | _ => ("SieveHouse$Shelf", "acts", "I", false)
def tyX6 : Nat → FieldType := fun k => match k with
  | 0 => .array (.object "SieveHouse$Sieve")
  | 1 => .int
  | 2 => .array (.object "SieveHouse$Listed")
  | 3 => .int
  | 4 => .array .int
  | 5 => .array .int
  | 6 => .array (.object "SieveHouse$Sieve")
  | _ => .int
theorem nmX6 : ∀ a, a < 8 → ∀ b, b < 8 → a ≠ b → (TX6 a).2.1 ≠ (TX6 b).2.1 := by decide +kernel
theorem tyX6_ok : ∀ k, k < 8 → parseFieldDescriptor (TX6 k).2.2.1 = some (tyX6 k) := by decide +kernel
abbrev cX6_init : ByteArray := prog_8_method_1_code
def yX6_init : MethodName := ⟨RX6, "<init>", "()V"⟩
abbrev cX6_sieveAt : ByteArray := prog_8_method_2_code
def yX6_sieveAt : MethodName := ⟨RX6, "sieveAt", "(I)LSieveHouse$Sieve;"⟩
abbrev cX6_listAt : ByteArray := prog_8_method_3_code
def yX6_listAt : MethodName := ⟨RX6, "listAt", "(I)LSieveHouse$Listed;"⟩
abbrev cX6_takeOver : ByteArray := prog_8_method_4_code
def yX6_takeOver : MethodName := ⟨RX6, "takeOver", "(LSieveHouse$Reader;)V"⟩
abbrev cX6_keepAct : ByteArray := prog_8_method_5_code
def yX6_keepAct : MethodName := ⟨RX6, "keepAct", "(II)V"⟩
abbrev cX6_forgetOldest : ByteArray := prog_8_method_6_code
def yX6_forgetOldest : MethodName := ⟨RX6, "forgetOldest", "()V"⟩
def RX7 : String := "SieveHouse$Sieve"
def TX7 : u_T := fun k => match k with
  | 0 => ("SieveHouse$Sieve", "kind", "I", false)
  | 1 => ("SieveHouse$Sieve", "from", "I", false)
  | 2 => ("SieveHouse$Sieve", "by", "I", false)
  | 3 => ("SieveHouse$Sieve", "many", "I", false)
  | 4 => ("SieveHouse$Sieve", "limit", "I", false)
  | 5 => ("SieveHouse$Sieve", "gapsTold", "[I", true)
  | 6 => ("SieveHouse$Sieve", "rounds", "I", false)
  | 7 => ("SieveHouse$Sieve", "events", "I", false)
  | 8 => ("SieveHouse$Sieve", "hands", "I", false)
  | 9 => ("SieveHouse$Sieve", "struckAt", "[I", true)
  | 10 => ("SieveHouse$Sieve", "gapOfRound", "[I", true)
  | 11 => ("SieveHouse$Sieve", "eventOfRound", "[I", true)
  | 12 => ("SieveHouse$Sieve", "row", "[I", true)
  | _ => ("SieveHouse$Sieve", "size", "I", false)
def tyX7 : Nat → FieldType := fun k => match k with
  | 0 => .int
  | 1 => .int
  | 2 => .int
  | 3 => .int
  | 4 => .int
  | 5 => .array .int
  | 6 => .int
  | 7 => .int
  | 8 => .int
  | 9 => .array .int
  | 10 => .array .int
  | 11 => .array .int
  | 12 => .array .int
  | _ => .int
theorem nmX7 : ∀ a, a < 14 → ∀ b, b < 14 → a ≠ b → (TX7 a).2.1 ≠ (TX7 b).2.1 := by decide +kernel
theorem tyX7_ok : ∀ k, k < 14 → parseFieldDescriptor (TX7 k).2.2.1 = some (tyX7 k) := by decide +kernel
abbrev cX7_init : ByteArray := prog_9_method_1_code
def yX7_init : MethodName := ⟨RX7, "<init>", "()V"⟩
abbrev cX7_set : ByteArray := prog_9_method_2_code
def yX7_set : MethodName := ⟨RX7, "set", "(IIII)V"⟩
abbrev cX7_begin : ByteArray := prog_9_method_3_code
def yX7_begin : MethodName := ⟨RX7, "begin", "()V"⟩
abbrev cX7_takeOver : ByteArray := prog_9_method_4_code
def yX7_takeOver : MethodName := ⟨RX7, "takeOver", "(LSieveHouse$Sieve;)V"⟩
abbrev cX7_property : ByteArray := prog_9_method_5_code
def yX7_property : MethodName := ⟨RX7, "property", "(I)I"⟩
abbrev cX7_firstNumber : ByteArray := prog_9_method_6_code
def yX7_firstNumber : MethodName := ⟨RX7, "firstNumber", "(I)I"⟩
abbrev cX7_isHere : ByteArray := prog_9_method_7_code
def yX7_isHere : MethodName := ⟨RX7, "isHere", "(I)Z"⟩
abbrev cX7_closeUp : ByteArray := prog_9_method_8_code
def yX7_closeUp : MethodName := ⟨RX7, "closeUp", "()V"⟩
abbrev cX7_numberAt : ByteArray := prog_9_method_9_code
def yX7_numberAt : MethodName := ⟨RX7, "numberAt", "(I)I"⟩
abbrev cX7_indexOf : ByteArray := prog_9_method_11_code
def yX7_indexOf : MethodName := ⟨RX7, "indexOf", "(J)I"⟩
abbrev cX7_has : ByteArray := prog_9_method_12_code
def yX7_has : MethodName := ⟨RX7, "has", "(J)Z"⟩
abbrev cX7_placeOf : ByteArray := prog_9_method_13_code
def yX7_placeOf : MethodName := ⟨RX7, "placeOf", "(I)I"⟩
abbrev cX7_countUpTo : ByteArray := prog_9_method_14_code
def yX7_countUpTo : MethodName := ⟨RX7, "countUpTo", "(I)I"⟩
abbrev cX7_nextGap : ByteArray := prog_9_method_16_code
def yX7_nextGap : MethodName := ⟨RX7, "nextGap", "()I"⟩
abbrev cX7_gapByLaw : ByteArray := prog_9_method_17_code
def yX7_gapByLaw : MethodName := ⟨RX7, "gapByLaw", "()I"⟩
abbrev cX7_strikesAny : ByteArray := prog_9_method_18_code
def yX7_strikesAny : MethodName := ⟨RX7, "strikesAny", "(I)Z"⟩
abbrev cX7_strikesPlace : ByteArray := prog_9_method_19_code
def yX7_strikesPlace : MethodName := ⟨RX7, "strikesPlace", "(III)Z"⟩
abbrev cX7_sweep : ByteArray := prog_9_method_20_code
def yX7_sweep : MethodName := ⟨RX7, "sweep", "(I)I"⟩
abbrev cX7_sweepAtMost : ByteArray := prog_9_method_21_code
def yX7_sweepAtMost : MethodName := ⟨RX7, "sweepAtMost", "(I)I"⟩
abbrev cX7_takeOut : ByteArray := prog_9_method_23_code
def yX7_takeOut : MethodName := ⟨RX7, "takeOut", "(I)V"⟩
def RX8 : String := "SieveHouse$Spacing"
def TX8 : u_T := fun k => match k with
  | _ => ("", "", "", false)
def tyX8 : Nat → FieldType := fun k => match k with
  | _ => .int
theorem nmX8 : ∀ a, a < 0 → ∀ b, b < 0 → a ≠ b → (TX8 a).2.1 ≠ (TX8 b).2.1 := by decide +kernel
theorem tyX8_ok : ∀ k, k < 0 → parseFieldDescriptor (TX8 k).2.2.1 = some (tyX8 k) := by decide +kernel
def RX9 : String := "SieveHouse"
def TX9 : u_T := fun k => match k with
  | 0 => ("SieveHouse", "reader", "LSieveHouse$Reader;", true)
  | 1 => ("SieveHouse", "shelf", "LSieveHouse$Shelf;", true)
  | 2 => ("SieveHouse", "printer", "LSieveHouse$Printer;", true)
  | 3 => ("SieveHouse", "trial", "LSieveHouse$Sieve;", true)
  | 4 => ("SieveHouse", "scratch", "[I", true)
  | _ => ("SieveHouse", "status", "I", false)
def tyX9 : Nat → FieldType := fun k => match k with
  | 0 => .object "SieveHouse$Reader"
  | 1 => .object "SieveHouse$Shelf"
  | 2 => .object "SieveHouse$Printer"
  | 3 => .object "SieveHouse$Sieve"
  | 4 => .array .int
  | _ => .int
theorem nmX9 : ∀ a, a < 6 → ∀ b, b < 6 → a ≠ b → (TX9 a).2.1 ≠ (TX9 b).2.1 := by decide +kernel
theorem tyX9_ok : ∀ k, k < 6 → parseFieldDescriptor (TX9 k).2.2.1 = some (tyX9 k) := by decide +kernel
abbrev cX9_init : ByteArray := prog_1_method_1_code
def yX9_init : MethodName := ⟨RX9, "<init>", "()V"⟩
abbrev cX9_status : ByteArray := prog_1_method_2_code
def yX9_status : MethodName := ⟨RX9, "status", "()I"⟩
abbrev cX9_feed : ByteArray := prog_1_method_3_code
def yX9_feed : MethodName := ⟨RX9, "feed", "(IIIII)I"⟩
abbrev cX9_load : ByteArray := prog_1_method_4_code
def yX9_load : MethodName := ⟨RX9, "load", "(I)I"⟩
abbrev cX9_fault : ByteArray := prog_1_method_5_code
def yX9_fault : MethodName := ⟨RX9, "fault", "(I)I"⟩
abbrev cX9_many : ByteArray := prog_1_method_6_code
def yX9_many : MethodName := ⟨RX9, "many", "(I)I"⟩
abbrev cX9_sieve : ByteArray := prog_1_method_7_code
def yX9_sieve : MethodName := ⟨RX9, "sieve", "(II)I"⟩
abbrev cX9_round : ByteArray := prog_1_method_8_code
def yX9_round : MethodName := ⟨RX9, "round", "(I)I"⟩
abbrev cX9_all : ByteArray := prog_1_method_9_code
def yX9_all : MethodName := ⟨RX9, "all", "(I)I"⟩
abbrev cX9_told : ByteArray := prog_1_method_10_code
def yX9_told : MethodName := ⟨RX9, "told", "(III)I"⟩
abbrev cX9_strike : ByteArray := prog_1_method_11_code
def yX9_strike : MethodName := ⟨RX9, "strike", "(II)I"⟩
abbrev cX9_number : ByteArray := prog_1_method_16_code
def yX9_number : MethodName := ⟨RX9, "number", "(II)I"⟩
abbrev cX9_rank : ByteArray := prog_1_method_17_code
def yX9_rank : MethodName := ⟨RX9, "rank", "(II)I"⟩
abbrev cX9_fate : ByteArray := prog_1_method_18_code
def yX9_fate : MethodName := ⟨RX9, "fate", "(III)I"⟩
abbrev cX9_back : ByteArray := prog_1_method_19_code
def yX9_back : MethodName := ⟨RX9, "back", "(III)I"⟩
abbrev cX9_ahead : ByteArray := prog_1_method_20_code
def yX9_ahead : MethodName := ⟨RX9, "ahead", "(III)I"⟩
abbrev cX9_would : ByteArray := prog_1_method_21_code
def yX9_would : MethodName := ⟨RX9, "would", "(II)I"⟩
abbrev cX9_gone : ByteArray := prog_1_method_24_code
def yX9_gone : MethodName := ⟨RX9, "gone", "(II)I"⟩
abbrev cX9_upTo : ByteArray := prog_1_method_25_code
def yX9_upTo : MethodName := ⟨RX9, "upTo", "(II)I"⟩
abbrev cX9_balance : ByteArray := prog_1_method_41_code
def yX9_balance : MethodName := ⟨RX9, "balance", "(II)I"⟩
abbrev cX9_fail : ByteArray := prog_1_method_57_code
def yX9_fail : MethodName := ⟨RX9, "fail", "(I)I"⟩
abbrev cX9_succeed : ByteArray := prog_1_method_58_code
def yX9_succeed : MethodName := ⟨RX9, "succeed", "(I)I"⟩
abbrev cX9_answer : ByteArray := prog_1_method_59_code
def yX9_answer : MethodName := ⟨RX9, "answer", "(I)I"⟩
abbrev cX9_finishTrial : ByteArray := prog_1_method_60_code
def yX9_finishTrial : MethodName := ⟨RX9, "finishTrial", "(LSieveHouse$Sieve;)V"⟩
abbrev cX9_within : ByteArray := prog_1_method_61_code
def yX9_within : MethodName := ⟨RX9, "within", "(III)Z"⟩
abbrev cX9_at : ByteArray := prog_1_method_62_code
def yX9_at : MethodName := ⟨RX9, "at", "([II)I"⟩
abbrev cX9_put : ByteArray := prog_1_method_63_code
def yX9_put : MethodName := ⟨RX9, "put", "([III)V"⟩
abbrev cX9_copyCells : ByteArray := prog_1_method_64_code
def yX9_copyCells : MethodName := ⟨RX9, "copyCells", "([I[I)V"⟩
abbrev cX9_remainder : ByteArray := prog_1_method_67_code
def yX9_remainder : MethodName := ⟨RX9, "remainder", "(II)I"⟩
def RX10 : String := "SieveHouseModel"
def TX10 : u_T := fun k => match k with
  | _ => ("", "", "", false)
def tyX10 : Nat → FieldType := fun k => match k with
  | _ => .int
theorem nmX10 : ∀ a, a < 0 → ∀ b, b < 0 → a ≠ b → (TX10 a).2.1 ≠ (TX10 b).2.1 := by decide +kernel
theorem tyX10_ok : ∀ k, k < 0 → parseFieldDescriptor (TX10 k).2.2.1 = some (tyX10 k) := by decide +kernel
def RJ5 : String := "java/lang/AbstractStringBuilder"
def TJ5 : u_T := fun k => match k with
  | _ => ("", "", "", false)
def tyJ5 : Nat → FieldType := fun k => match k with
  | _ => .int
theorem nmJ5 : ∀ a, a < 0 → ∀ b, b < 0 → a ≠ b → (TJ5 a).2.1 ≠ (TJ5 b).2.1 := by decide +kernel
theorem tyJ5_ok : ∀ k, k < 0 → parseFieldDescriptor (TJ5 k).2.2.1 = some (tyJ5 k) := by decide +kernel
abbrev cJ5_init_d00df : ByteArray := prog_13_method_2_code
def yJ5_init_d00df : MethodName := ⟨RJ5, "<init>", "(I)V"⟩
abbrev cJ5_length_8abf5 : ByteArray := prog_13_method_6_code
def yJ5_length_8abf5 : MethodName := ⟨RJ5, "length", "()I"⟩
abbrev cJ5_ensureCapacityInternal_d00df : ByteArray := prog_13_method_9_code
def yJ5_ensureCapacityInternal_d00df : MethodName := ⟨RJ5, "ensureCapacityInternal", "(I)V"⟩
abbrev cJ5_newCapacity_0f7a4 : ByteArray := prog_13_method_10_code
def yJ5_newCapacity_0f7a4 : MethodName := ⟨RJ5, "newCapacity", "(I)I"⟩
abbrev cJ5_inflate_da8c8 : ByteArray := prog_13_method_11_code
def yJ5_inflate_da8c8 : MethodName := ⟨RJ5, "inflate", "()V"⟩
abbrev cJ5_append_cf1ce : ByteArray := prog_13_method_22_code
def yJ5_append_cf1ce : MethodName := ⟨RJ5, "append", "(Ljava/lang/String;)Ljava/lang/AbstractStringBuilder;"⟩
abbrev cJ5_appendNull_278bc : ByteArray := prog_13_method_26_code
def yJ5_appendNull_278bc : MethodName := ⟨RJ5, "appendNull", "()Ljava/lang/AbstractStringBuilder;"⟩
abbrev cJ5_append_3fe6f : ByteArray := prog_13_method_31_code
def yJ5_append_3fe6f : MethodName := ⟨RJ5, "append", "(C)Ljava/lang/AbstractStringBuilder;"⟩
abbrev cJ5_append_c97b9 : ByteArray := prog_13_method_32_code
def yJ5_append_c97b9 : MethodName := ⟨RJ5, "append", "(I)Ljava/lang/AbstractStringBuilder;"⟩
abbrev cJ5_getValue_6d5f1 : ByteArray := prog_13_method_64_code
def yJ5_getValue_6d5f1 : MethodName := ⟨RJ5, "getValue", "()[B"⟩
abbrev cJ5_isLatin1_aae02 : ByteArray := prog_13_method_68_code
def yJ5_isLatin1_aae02 : MethodName := ⟨RJ5, "isLatin1", "()Z"⟩
abbrev cJ5_inflateIfNeededFor_a7421 : ByteArray := prog_13_method_71_code
def yJ5_inflateIfNeededFor_a7421 : MethodName := ⟨RJ5, "inflateIfNeededFor", "(Ljava/lang/String;)V"⟩
abbrev cJ5_putStringAt_47b60 : ByteArray := prog_13_method_73_code
def yJ5_putStringAt_47b60 : MethodName := ⟨RJ5, "putStringAt", "(ILjava/lang/String;)V"⟩
def RJx8e188 : String := "java/lang/Cloneable"
def TJx8e188 : u_T := fun k => match k with
  | _ => ("", "", "", false)
def tyJx8e188 : Nat → FieldType := fun k => match k with
  | _ => .int
theorem nmJx8e188 : ∀ a, a < 0 → ∀ b, b < 0 → a ≠ b → (TJx8e188 a).2.1 ≠ (TJx8e188 b).2.1 := by decide +kernel
theorem tyJx8e188_ok : ∀ k, k < 0 → parseFieldDescriptor (TJx8e188 k).2.2.1 = some (tyJx8e188 k) := by decide +kernel
def RJ6 : String := "java/lang/Integer"
def TJ6 : u_T := fun k => match k with
  | _ => ("", "", "", false)
def tyJ6 : Nat → FieldType := fun k => match k with
  | _ => .int
theorem nmJ6 : ∀ a, a < 0 → ∀ b, b < 0 → a ≠ b → (TJ6 a).2.1 ≠ (TJ6 b).2.1 := by decide +kernel
theorem tyJ6_ok : ∀ k, k < 0 → parseFieldDescriptor (TJ6 k).2.2.1 = some (tyJ6 k) := by decide +kernel
abbrev cJ6_getChars_ba4f3 : ByteArray := prog_15_method_12_code
def yJ6_getChars_ba4f3 : MethodName := ⟨RJ6, "getChars", "(II[B)I"⟩
abbrev cJ6_stringSize_0f7a4 : ByteArray := prog_15_method_13_code
def yJ6_stringSize_0f7a4 : MethodName := ⟨RJ6, "stringSize", "(I)I"⟩
def RJ9 : String := "java/lang/Math"
def TJ9 : u_T := fun k => match k with
  | _ => ("", "", "", false)
def tyJ9 : Nat → FieldType := fun k => match k with
  | _ => .int
theorem nmJ9 : ∀ a, a < 0 → ∀ b, b < 0 → a ≠ b → (TJ9 a).2.1 ≠ (TJ9 b).2.1 := by decide +kernel
theorem tyJ9_ok : ∀ k, k < 0 → parseFieldDescriptor (TJ9 k).2.2.1 = some (tyJ9 k) := by decide +kernel
abbrev cJ9_max_7cf53 : ByteArray := prog_16_method_65_code
def yJ9_max_7cf53 : MethodName := ⟨RJ9, "max", "(II)I"⟩
abbrev cJ9_min_7cf53 : ByteArray := prog_16_method_69_code
def yJ9_min_7cf53 : MethodName := ⟨RJ9, "min", "(II)I"⟩
def RJ0 : String := "java/lang/String"
def TJ0 : u_T := fun k => match k with
  | 0 => ("java/lang/String", "value", "[B", true)
  | 1 => ("java/lang/String", "coder", "B", true)
  | 2 => ("java/lang/String", "hash", "I", false)
  | _ => ("java/lang/String", "hashIsZero", "Z", false)
def tyJ0 : Nat → FieldType := fun k => match k with
  | 0 => .array .byte
  | 1 => .byte
  | 2 => .int
  | _ => .boolean
theorem nmJ0 : ∀ a, a < 4 → ∀ b, b < 4 → a ≠ b → (TJ0 a).2.1 ≠ (TJ0 b).2.1 := by decide +kernel
theorem tyJ0_ok : ∀ k, k < 4 → parseFieldDescriptor (TJ0 k).2.2.1 = some (tyJ0 k) := by decide +kernel
abbrev cJ0_init_81219 : ByteArray := prog_17_method_53_code
def yJ0_init_81219 : MethodName := ⟨RJ0, "<init>", "(Ljava/lang/StringBuilder;)V"⟩
abbrev cJ0_length_8abf5 : ByteArray := prog_17_method_54_code
def yJ0_length_8abf5 : MethodName := ⟨RJ0, "length", "()I"⟩
abbrev cJ0_charAt_5068e : ByteArray := prog_17_method_56_code
def yJ0_charAt_5068e : MethodName := ⟨RJ0, "charAt", "(I)C"⟩
abbrev cJ0_getBytes_840e7 : ByteArray := prog_17_method_147_code
def yJ0_getBytes_840e7 : MethodName := ⟨RJ0, "getBytes", "([BIB)V"⟩
abbrev cJ0_init_db425 : ByteArray := prog_17_method_150_code
def yJ0_init_db425 : MethodName := ⟨RJ0, "<init>", "(Ljava/lang/AbstractStringBuilder;Ljava/lang/Void;)V"⟩
abbrev cJ0_coder_7d493 : ByteArray := prog_17_method_152_code
def yJ0_coder_7d493 : MethodName := ⟨RJ0, "coder", "()B"⟩
abbrev cJ0_isLatin1_aae02 : ByteArray := prog_17_method_154_code
def yJ0_isLatin1_aae02 : MethodName := ⟨RJ0, "isLatin1", "()Z"⟩
abbrev cJ0_checkIndex_df160 : ByteArray := prog_17_method_155_code
def yJ0_checkIndex_df160 : MethodName := ⟨RJ0, "checkIndex", "(II)V"⟩
abbrev cJ0_checkBoundsOffCount_cabcc : ByteArray := prog_17_method_157_code
def yJ0_checkBoundsOffCount_cabcc : MethodName := ⟨RJ0, "checkBoundsOffCount", "(III)I"⟩
abbrev cJ0_checkBoundsBeginEnd_23922 : ByteArray := prog_17_method_158_code
def yJ0_checkBoundsBeginEnd_23922 : MethodName := ⟨RJ0, "checkBoundsBeginEnd", "(III)V"⟩
def RJ4 : String := "java/lang/StringBuilder"
def TJ4 : u_T := fun k => match k with
  | 0 => ("java/lang/AbstractStringBuilder", "value", "[B", false)
  | 1 => ("java/lang/AbstractStringBuilder", "coder", "B", false)
  | 2 => ("java/lang/AbstractStringBuilder", "maybeLatin1", "Z", false)
  | _ => ("java/lang/AbstractStringBuilder", "count", "I", false)
def tyJ4 : Nat → FieldType := fun k => match k with
  | 0 => .array .byte
  | 1 => .byte
  | 2 => .boolean
  | _ => .int
theorem nmJ4 : ∀ a, a < 4 → ∀ b, b < 4 → a ≠ b → (TJ4 a).2.1 ≠ (TJ4 b).2.1 := by decide +kernel
theorem tyJ4_ok : ∀ k, k < 4 → parseFieldDescriptor (TJ4 k).2.2.1 = some (tyJ4 k) := by decide +kernel
abbrev cJ4_init_da8c8 : ByteArray := prog_18_method_1_code
def yJ4_init_da8c8 : MethodName := ⟨RJ4, "<init>", "()V"⟩
abbrev cJ4_append_15ec4 : ByteArray := prog_18_method_7_code
def yJ4_append_15ec4 : MethodName := ⟨RJ4, "append", "(Ljava/lang/String;)Ljava/lang/StringBuilder;"⟩
abbrev cJ4_append_cf468 : ByteArray := prog_18_method_14_code
def yJ4_append_cf468 : MethodName := ⟨RJ4, "append", "(C)Ljava/lang/StringBuilder;"⟩
abbrev cJ4_append_bf812 : ByteArray := prog_18_method_15_code
def yJ4_append_bf812 : MethodName := ⟨RJ4, "append", "(I)Ljava/lang/StringBuilder;"⟩
abbrev cJ4_toString_0e30d : ByteArray := prog_18_method_42_code
def yJ4_toString_0e30d : MethodName := ⟨RJ4, "toString", "()Ljava/lang/String;"⟩
abbrev cJ4_length_8abf5 : ByteArray := prog_18_method_93_code
def yJ4_length_8abf5 : MethodName := ⟨RJ4, "length", "()I"⟩
def RJ1 : String := "java/lang/StringLatin1"
def TJ1 : u_T := fun k => match k with
  | _ => ("", "", "", false)
def tyJ1 : Nat → FieldType := fun k => match k with
  | _ => .int
theorem nmJ1 : ∀ a, a < 0 → ∀ b, b < 0 → a ≠ b → (TJ1 a).2.1 ≠ (TJ1 b).2.1 := by decide +kernel
theorem tyJ1_ok : ∀ k, k < 0 → parseFieldDescriptor (TJ1 k).2.2.1 = some (tyJ1 k) := by decide +kernel
abbrev cJ1_charAt_3b067 : ByteArray := prog_19_method_2_code
def yJ1_charAt_3b067 : MethodName := ⟨RJ1, "charAt", "([BI)C"⟩
abbrev cJ1_canEncode_fc78d : ByteArray := prog_19_method_3_code
def yJ1_canEncode_fc78d : MethodName := ⟨RJ1, "canEncode", "(C)Z"⟩
abbrev cJ1_inflate_0e8fd : ByteArray := prog_19_method_50_code
def yJ1_inflate_0e8fd : MethodName := ⟨RJ1, "inflate", "([BI[BII)V"⟩
def RJ2 : String := "java/lang/StringUTF16"
def TJ2 : u_T := fun k => match k with
  | _ => ("", "", "", false)
def tyJ2 : Nat → FieldType := fun k => match k with
  | _ => .int
theorem nmJ2 : ∀ a, a < 0 → ∀ b, b < 0 → a ≠ b → (TJ2 a).2.1 ≠ (TJ2 b).2.1 := by decide +kernel
theorem tyJ2_ok : ∀ k, k < 0 → parseFieldDescriptor (TJ2 k).2.2.1 = some (tyJ2 k) := by decide +kernel
abbrev cJ2_newBytesFor_77867 : ByteArray := prog_20_method_2_code
def yJ2_newBytesFor_77867 : MethodName := ⟨RJ2, "newBytesFor", "(I)[B"⟩
abbrev cJ2_newBytesLength_0f7a4 : ByteArray := prog_20_method_3_code
def yJ2_newBytesLength_0f7a4 : MethodName := ⟨RJ2, "newBytesLength", "(I)I"⟩
abbrev cJ2_putChar_b72d1 : ByteArray := prog_20_method_4_code
def yJ2_putChar_b72d1 : MethodName := ⟨RJ2, "putChar", "([BII)V"⟩
abbrev cJ2_getChar_3b067 : ByteArray := prog_20_method_5_code
def yJ2_getChar_3b067 : MethodName := ⟨RJ2, "getChar", "([BI)C"⟩
abbrev cJ2_length_9d52b : ByteArray := prog_20_method_6_code
def yJ2_length_9d52b : MethodName := ⟨RJ2, "length", "([B)I"⟩
abbrev cJ2_coderFromArrayLen_85cad : ByteArray := prog_20_method_15_code
def yJ2_coderFromArrayLen_85cad : MethodName := ⟨RJ2, "coderFromArrayLen", "([BI)B"⟩
abbrev cJ2_compress_39247 : ByteArray := prog_20_method_17_code
def yJ2_compress_39247 : MethodName := ⟨RJ2, "compress", "([BII)[B"⟩
abbrev cJ2_compress_5af95 : ByteArray := prog_20_method_22_code
def yJ2_compress_5af95 : MethodName := ⟨RJ2, "compress", "([BI[BII)I"⟩
abbrev cJ2_putCharSB_b72d1 : ByteArray := prog_20_method_71_code
def yJ2_putCharSB_b72d1 : MethodName := ⟨RJ2, "putCharSB", "([BII)V"⟩
abbrev cJ2_getChars_46870 : ByteArray := prog_20_method_77_code
def yJ2_getChars_46870 : MethodName := ⟨RJ2, "getChars", "(III[B)I"⟩
abbrev cJ2_putCharsAt_cd4e5 : ByteArray := prog_20_method_81_code
def yJ2_putCharsAt_cd4e5 : MethodName := ⟨RJ2, "putCharsAt", "([BICCCC)I"⟩
abbrev cJ2_charAt_3b067 : ByteArray := prog_20_method_83_code
def yJ2_charAt_3b067 : MethodName := ⟨RJ2, "charAt", "([BI)C"⟩
abbrev cJ2_inflate_0e8fd : ByteArray := prog_20_method_86_code
def yJ2_inflate_0e8fd : MethodName := ⟨RJ2, "inflate", "([BI[BII)V"⟩
abbrev cJ2_getChars_ba4f3 : ByteArray := prog_20_method_89_code
def yJ2_getChars_ba4f3 : MethodName := ⟨RJ2, "getChars", "(II[B)I"⟩
abbrev cJ2_checkIndex_2214a : ByteArray := prog_20_method_91_code
def yJ2_checkIndex_2214a : MethodName := ⟨RJ2, "checkIndex", "(I[B)V"⟩
abbrev cJ2_checkBoundsBeginEnd_d044e : ByteArray := prog_20_method_93_code
def yJ2_checkBoundsBeginEnd_d044e : MethodName := ⟨RJ2, "checkBoundsBeginEnd", "(II[B)V"⟩
abbrev cJ2_checkBoundsOffCount_d044e : ByteArray := prog_20_method_94_code
def yJ2_checkBoundsOffCount_d044e : MethodName := ⟨RJ2, "checkBoundsOffCount", "(II[B)V"⟩
def RJ10 : String := "java/lang/System"
def TJ10 : u_T := fun k => match k with
  | _ => ("", "", "", false)
def tyJ10 : Nat → FieldType := fun k => match k with
  | _ => .int
theorem nmJ10 : ∀ a, a < 0 → ∀ b, b < 0 → a ≠ b → (TJ10 a).2.1 ≠ (TJ10 b).2.1 := by decide +kernel
theorem tyJ10_ok : ∀ k, k < 0 → parseFieldDescriptor (TJ10 k).2.2.1 = some (tyJ10 k) := by decide +kernel
def RJ7 : String := "java/util/Arrays"
def TJ7 : u_T := fun k => match k with
  | _ => ("", "", "", false)
def tyJ7 : Nat → FieldType := fun k => match k with
  | _ => .int
theorem nmJ7 : ∀ a, a < 0 → ∀ b, b < 0 → a ≠ b → (TJ7 a).2.1 ≠ (TJ7 b).2.1 := by decide +kernel
theorem tyJ7_ok : ∀ k, k < 0 → parseFieldDescriptor (TJ7 k).2.2.1 = some (tyJ7 k) := by decide +kernel
abbrev cJ7_copyOf_9075b : ByteArray := prog_22_method_121_code
def yJ7_copyOf_9075b : MethodName := ⟨RJ7, "copyOf", "([BI)[B"⟩
abbrev cJ7_checkLength_df160 : ByteArray := prog_22_method_131_code
def yJ7_checkLength_df160 : MethodName := ⟨RJ7, "checkLength", "(II)V"⟩
abbrev cJ7_copyOfRange_39247 : ByteArray := prog_22_method_132_code
def yJ7_copyOfRange_39247 : MethodName := ⟨RJ7, "copyOfRange", "([BII)[B"⟩
abbrev cJ7_copyOfRangeByte_39247 : ByteArray := prog_22_method_133_code
def yJ7_copyOfRangeByte_39247 : MethodName := ⟨RJ7, "copyOfRangeByte", "([BII)[B"⟩
def RJ8 : String := "jdk/internal/util/ArraysSupport"
def TJ8 : u_T := fun k => match k with
  | _ => ("", "", "", false)
def tyJ8 : Nat → FieldType := fun k => match k with
  | _ => .int
theorem nmJ8 : ∀ a, a < 0 → ∀ b, b < 0 → a ≠ b → (TJ8 a).2.1 ≠ (TJ8 b).2.1 := by decide +kernel
theorem tyJ8_ok : ∀ k, k < 0 → parseFieldDescriptor (TJ8 k).2.2.1 = some (tyJ8 k) := by decide +kernel
abbrev cJ8_newLength_cabcc : ByteArray := prog_23_method_27_code
def yJ8_newLength_cabcc : MethodName := ⟨RJ8, "newLength", "(III)I"⟩
abbrev cJ8_hugeLength_7cf53 : ByteArray := prog_23_method_28_code
def yJ8_hugeLength_7cf53 : MethodName := ⟨RJ8, "hugeLength", "(II)I"⟩
def RJ3 : String := "jdk/internal/util/Preconditions"
def TJ3 : u_T := fun k => match k with
  | _ => ("", "", "", false)
def tyJ3 : Nat → FieldType := fun k => match k with
  | _ => .int
theorem nmJ3 : ∀ a, a < 0 → ∀ b, b < 0 → a ≠ b → (TJ3 a).2.1 ≠ (TJ3 b).2.1 := by decide +kernel
theorem tyJ3_ok : ∀ k, k < 0 → parseFieldDescriptor (TJ3 k).2.2.1 = some (tyJ3 k) := by decide +kernel
abbrev cJ3_checkIndex_8e157 : ByteArray := prog_24_method_11_code
def yJ3_checkIndex_8e157 : MethodName := ⟨RJ3, "checkIndex", "(IILjava/util/function/BiFunction;)I"⟩
abbrev cJ3_checkFromToIndex_8c36e : ByteArray := prog_24_method_12_code
def yJ3_checkFromToIndex_8c36e : MethodName := ⟨RJ3, "checkFromToIndex", "(IIILjava/util/function/BiFunction;)I"⟩
abbrev cJ3_checkFromIndexSize_8c36e : ByteArray := prog_24_method_13_code
def yJ3_checkFromIndexSize_8c36e : MethodName := ⟨RJ3, "checkFromIndexSize", "(IIILjava/util/function/BiFunction;)I"⟩
def RL : String := "SieveHouseLaw"
abbrev cL_cell : ByteArray := method_2_code
def yL_cell : MethodName := ⟨RL, "cell", "([II)I"⟩
abbrev cL_part : ByteArray := method_3_code
def yL_part : MethodName := ⟨RL, "part", "(II)I"⟩
abbrev cL_feed : ByteArray := method_4_code
def yL_feed : MethodName := ⟨RL, "feed", "(LSieveHouse;Ljava/lang/String;)V"⟩
abbrev cL_load : ByteArray := method_5_code
def yL_load : MethodName := ⟨RL, "load", "(LSieveHouse;Ljava/lang/String;)I"⟩
abbrev cL_says : ByteArray := method_6_code
def yL_says : MethodName := ⟨RL, "says", "(Ljava/lang/StringBuilder;I)V"⟩
abbrev cL_sieves : ByteArray := method_7_code
def yL_sieves : MethodName := ⟨RL, "sieves", "([I)Ljava/lang/String;"⟩
abbrev cL_row : ByteArray := method_8_code
def yL_row : MethodName := ⟨RL, "row", "(LSieveHouse;I)[I"⟩
abbrev cL_gapOf : ByteArray := method_9_code
def yL_gapOf : MethodName := ⟨RL, "gapOf", "(LSieveHouse;I[III)I"⟩
abbrev cL_strikes : ByteArray := method_10_code
def yL_strikes : MethodName := ⟨RL, "strikes", "(I[IIII)Z"⟩
abbrev cL_isRound : ByteArray := method_11_code
def yL_isRound : MethodName := ⟨RL, "isRound", "(LSieveHouse;II)Z"⟩
abbrev cL_leads : ByteArray := method_12_code
def yL_leads : MethodName := ⟨RL, "leads", "(LSieveHouse;II[I[I)Z"⟩
abbrev cL_areAll : ByteArray := method_13_code
def yL_areAll : MethodName := ⟨RL, "areAll", "(LSieveHouse;I)Z"⟩
abbrev cL_law : ByteArray := code
def yL_law : MethodName := ⟨RL, "law", "([I)Z"⟩
abbrev vwCl : List vw_C := [(RJ0, TJ0, 4), (RJ4, TJ4, 4), (RX2, TX2, 2), (RX4, TX4, 2), (RX5, TX5, 15), (RX6, TX6, 8), (RX7, TX7, 14), (RX9, TX9, 6)]
