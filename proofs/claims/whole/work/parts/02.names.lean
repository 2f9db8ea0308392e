/-! names of the classes, their fields, the methods: out of the printed names -/
def RX0 : String := "LoanedRound$Law"
def TX0 : u_T := fun k => match k with
  | 0 => ("LoanedRound$Law", "steps", "LLoanedRound$Row;", true)
  | 1 => ("LoanedRound$Law", "hold", "[I", true)
  | _ => ("LoanedRound$Law", "use", "I", true)
def tyX0 : Nat → FieldType := fun k => match k with
  | 0 => .object "LoanedRound$Row"
  | 1 => .array .int
  | _ => .int
theorem nmX0 : ∀ a, a < 3 → ∀ b, b < 3 → a ≠ b → (TX0 a).2.1 ≠ (TX0 b).2.1 := by decide +kernel
theorem tyX0_ok : ∀ k, k < 3 → parseFieldDescriptor (TX0 k).2.2.1 = some (tyX0 k) := by decide +kernel
abbrev cX0_init : ByteArray := prog_2_method_1_code
def yX0_init : MethodName := ⟨RX0, "<init>", "(I)V"⟩
abbrev cX0_takeSteps : ByteArray := prog_2_method_2_code
def yX0_takeSteps : MethodName := ⟨RX0, "takeSteps", "(LLoanedRound$Row;)V"⟩
abbrev cX0_gives : ByteArray := prog_2_method_3_code
def yX0_gives : MethodName := ⟨RX0, "gives", "(III)I"⟩
abbrev cX0_worth : ByteArray := prog_2_method_4_code
def yX0_worth : MethodName := ⟨RX0, "worth", "(IIII)I"⟩
abbrev cX0_combine : ByteArray := prog_2_method_5_code
def yX0_combine : MethodName := ⟨RX0, "combine", "(III)I"⟩
def RX1 : String := "LoanedRound$Reader"
def TX1 : u_T := fun k => match k with
  | 0 => ("LoanedRound$Reader", "steps", "LLoanedRound$Row;", true)
  | 1 => ("LoanedRound$Reader", "tape", "LLoanedRound$Row;", false)
  | 2 => ("LoanedRound$Reader", "names", "Ljava/lang/String;", false)
  | 3 => ("LoanedRound$Reader", "place", "I", false)
  | _ => ("LoanedRound$Reader", "fault", "I", false)
def tyX1 : Nat → FieldType := fun k => match k with
  | 0 => .object "LoanedRound$Row"
  | 1 => .object "LoanedRound$Row"
  | 2 => .object "java/lang/String"
  | 3 => .int
  | _ => .int
theorem nmX1 : ∀ a, a < 5 → ∀ b, b < 5 → a ≠ b → (TX1 a).2.1 ≠ (TX1 b).2.1 := by decide +kernel
theorem tyX1_ok : ∀ k, k < 5 → parseFieldDescriptor (TX1 k).2.2.1 = some (tyX1 k) := by decide +kernel
abbrev cX1_init : ByteArray := prog_3_method_1_code
def yX1_init : MethodName := ⟨RX1, "<init>", "()V"⟩
abbrev cX1_read : ByteArray := prog_3_method_2_code
def yX1_read : MethodName := ⟨RX1, "read", "(LLoanedRound$Row;I)I"⟩
abbrev cX1_next : ByteArray := prog_3_method_3_code
def yX1_next : MethodName := ⟨RX1, "next", "()I"⟩
abbrev cX1_fail : ByteArray := prog_3_method_4_code
def yX1_fail : MethodName := ⟨RX1, "fail", "()V"⟩
abbrev cX1_isNext : ByteArray := prog_3_method_5_code
def yX1_isNext : MethodName := ⟨RX1, "isNext", "(C)Z"⟩
abbrev cX1_readT : ByteArray := prog_3_method_6_code
def yX1_readT : MethodName := ⟨RX1, "readT", "(I)V"⟩
abbrev cX1_readA : ByteArray := prog_3_method_7_code
def yX1_readA : MethodName := ⟨RX1, "readA", "(I)V"⟩
abbrev cX1_readB : ByteArray := prog_3_method_8_code
def yX1_readB : MethodName := ⟨RX1, "readB", "(I)V"⟩
abbrev cX1_readS : ByteArray := prog_3_method_9_code
def yX1_readS : MethodName := ⟨RX1, "readS", "(I)V"⟩
abbrev cX1_readP : ByteArray := prog_3_method_10_code
def yX1_readP : MethodName := ⟨RX1, "readP", "(I)V"⟩
abbrev cX1_readQ : ByteArray := prog_3_method_11_code
def yX1_readQ : MethodName := ⟨RX1, "readQ", "(I)V"⟩
abbrev cX1_readNot : ByteArray := prog_3_method_12_code
def yX1_readNot : MethodName := ⟨RX1, "readNot", "(I)V"⟩
abbrev cX1_readInner : ByteArray := prog_3_method_13_code
def yX1_readInner : MethodName := ⟨RX1, "readInner", "(I)V"⟩
abbrev cX1_readNumber : ByteArray := prog_3_method_14_code
def yX1_readNumber : MethodName := ⟨RX1, "readNumber", "()V"⟩
abbrev cX1_isDigit : ByteArray := prog_3_method_15_code
def yX1_isDigit : MethodName := ⟨RX1, "isDigit", "()Z"⟩
abbrev cX1_nameNext : ByteArray := prog_3_method_16_code
def yX1_nameNext : MethodName := ⟨RX1, "nameNext", "()I"⟩
def RX2 : String := "LoanedRound$Round"
def TX2 : u_T := fun k => match k with
  | 0 => ("LoanedRound$Round", "said", "LLoanedRound$Law;", true)
  | 1 => ("LoanedRound$Round", "behind", "LLoanedRound$Law;", true)
  | 2 => ("LoanedRound$Round", "kinds", "[I", true)
  | 3 => ("LoanedRound$Round", "ms", "[I", true)
  | 4 => ("LoanedRound$Round", "heard", "[I", true)
  | 5 => ("LoanedRound$Round", "turns", "[I", true)
  | 6 => ("LoanedRound$Round", "past", "I", false)
  | 7 => ("LoanedRound$Round", "homes", "I", false)
  | 8 => ("LoanedRound$Round", "day", "I", false)
  | 9 => ("LoanedRound$Round", "view", "I", false)
  | 10 => ("LoanedRound$Round", "sharp", "I", false)
  | 11 => ("LoanedRound$Round", "steel", "I", false)
  | 12 => ("LoanedRound$Round", "at", "I", false)
  | _ => ("LoanedRound$Round", "z", "I", false)
def tyX2 : Nat → FieldType := fun k => match k with
  | 0 => .object "LoanedRound$Law"
  | 1 => .object "LoanedRound$Law"
  | 2 => .array .int
  | 3 => .array .int
  | 4 => .array .int
  | 5 => .array .int
  | 6 => .int
  | 7 => .int
  | 8 => .int
  | 9 => .int
  | 10 => .int
  | 11 => .int
  | 12 => .int
  | _ => .int
theorem nmX2 : ∀ a, a < 14 → ∀ b, b < 14 → a ≠ b → (TX2 a).2.1 ≠ (TX2 b).2.1 := by decide +kernel
theorem tyX2_ok : ∀ k, k < 14 → parseFieldDescriptor (TX2 k).2.2.1 = some (tyX2 k) := by decide +kernel
abbrev cX2_init : ByteArray := prog_4_method_1_code
def yX2_init : MethodName := ⟨RX2, "<init>", "()V"⟩
abbrev cX2_lawOf : ByteArray := prog_4_method_2_code
def yX2_lawOf : MethodName := ⟨RX2, "lawOf", "(I)LLoanedRound$Law;"⟩
abbrev cX2_takeOver : ByteArray := prog_4_method_3_code
def yX2_takeOver : MethodName := ⟨RX2, "takeOver", "(LLoanedRound$Round;)V"⟩
abbrev cX2_has : ByteArray := prog_4_method_4_code
def yX2_has : MethodName := ⟨RX2, "has", "(I)Z"⟩
abbrev cX2_takeIn : ByteArray := prog_4_method_5_code
def yX2_takeIn : MethodName := ⟨RX2, "takeIn", "(I)I"⟩
abbrev cX2_pastAt : ByteArray := prog_4_method_6_code
def yX2_pastAt : MethodName := ⟨RX2, "pastAt", "(I)I"⟩
abbrev cX2_putPast : ByteArray := prog_4_method_7_code
def yX2_putPast : MethodName := ⟨RX2, "putPast", "(II)V"⟩
abbrev cX2_saidAt : ByteArray := prog_4_method_8_code
def yX2_saidAt : MethodName := ⟨RX2, "saidAt", "(I)I"⟩
abbrev cX2_behindAt : ByteArray := prog_4_method_9_code
def yX2_behindAt : MethodName := ⟨RX2, "behindAt", "(I)I"⟩
abbrev cX2_tellsAt : ByteArray := prog_4_method_10_code
def yX2_tellsAt : MethodName := ⟨RX2, "tellsAt", "(I)I"⟩
abbrev cX2_leavesAt : ByteArray := prog_4_method_11_code
def yX2_leavesAt : MethodName := ⟨RX2, "leavesAt", "(I)I"⟩
abbrev cX2_bluntsAt : ByteArray := prog_4_method_12_code
def yX2_bluntsAt : MethodName := ⟨RX2, "bluntsAt", "(I)I"⟩
abbrev cX2_passDays : ByteArray := prog_4_method_13_code
def yX2_passDays : MethodName := ⟨RX2, "passDays", "(I)V"⟩
abbrev cX2_passDaysFor : ByteArray := prog_4_method_14_code
def yX2_passDaysFor : MethodName := ⟨RX2, "passDaysFor", "(II)V"⟩
abbrev cX2_hear : ByteArray := prog_4_method_15_code
def yX2_hear : MethodName := ⟨RX2, "hear", "()V"⟩
abbrev cX2_carryOn : ByteArray := prog_4_method_16_code
def yX2_carryOn : MethodName := ⟨RX2, "carryOn", "()V"⟩
abbrev cX2_nextPlace : ByteArray := prog_4_method_17_code
def yX2_nextPlace : MethodName := ⟨RX2, "nextPlace", "()I"⟩
abbrev cX2_drawPlace : ByteArray := prog_4_method_18_code
def yX2_drawPlace : MethodName := ⟨RX2, "drawPlace", "()V"⟩
abbrev cX2_heardTogether : ByteArray := prog_4_method_19_code
def yX2_heardTogether : MethodName := ⟨RX2, "heardTogether", "()I"⟩
abbrev cX2_takeHeard : ByteArray := prog_4_method_20_code
def yX2_takeHeard : MethodName := ⟨RX2, "takeHeard", "(LLoanedRound$Row;)I"⟩
abbrev cX2_rightTurns : ByteArray := prog_4_method_21_code
def yX2_rightTurns : MethodName := ⟨RX2, "rightTurns", "(LLoanedRound$Row;)I"⟩
abbrev cX2_rightSaid : ByteArray := prog_4_method_22_code
def yX2_rightSaid : MethodName := ⟨RX2, "rightSaid", "(LLoanedRound$Row;)I"⟩
abbrev cX2_changePlaces : ByteArray := prog_4_method_23_code
def yX2_changePlaces : MethodName := ⟨RX2, "changePlaces", "(II)V"⟩
abbrev cX2_changeNumbers : ByteArray := prog_4_method_24_code
def yX2_changeNumbers : MethodName := ⟨RX2, "changeNumbers", "([III)V"⟩
def RX3 : String := "LoanedRound$Row"
def TX3 : u_T := fun k => match k with
  | 0 => ("LoanedRound$Row", "numbers", "[I", true)
  | _ => ("LoanedRound$Row", "size", "I", false)
def tyX3 : Nat → FieldType := fun k => match k with
  | 0 => .array .int
  | _ => .int
theorem nmX3 : ∀ a, a < 2 → ∀ b, b < 2 → a ≠ b → (TX3 a).2.1 ≠ (TX3 b).2.1 := by decide +kernel
theorem tyX3_ok : ∀ k, k < 2 → parseFieldDescriptor (TX3 k).2.2.1 = some (tyX3 k) := by decide +kernel
abbrev cX3_init : ByteArray := prog_5_method_1_code
def yX3_init : MethodName := ⟨RX3, "<init>", "(I)V"⟩
abbrev cX3_has : ByteArray := prog_5_method_2_code
def yX3_has : MethodName := ⟨RX3, "has", "(I)Z"⟩
abbrev cX3_hasRun : ByteArray := prog_5_method_3_code
def yX3_hasRun : MethodName := ⟨RX3, "hasRun", "(II)Z"⟩
abbrev cX3_add : ByteArray := prog_5_method_4_code
def yX3_add : MethodName := ⟨RX3, "add", "(I)V"⟩
abbrev cX3_empty : ByteArray := prog_5_method_5_code
def yX3_empty : MethodName := ⟨RX3, "empty", "()V"⟩
abbrev cX3_takeOver : ByteArray := prog_5_method_6_code
def yX3_takeOver : MethodName := ⟨RX3, "takeOver", "(LLoanedRound$Row;)V"⟩
def RX4 : String := "LoanedRound$Sheet"
def TX4 : u_T := fun k => match k with
  | 0 => ("LoanedRound$Sheet", "numbers", "LLoanedRound$Row;", true)
  | _ => ("LoanedRound$Sheet", "bits", "I", false)
def tyX4 : Nat → FieldType := fun k => match k with
  | 0 => .object "LoanedRound$Row"
  | _ => .int
theorem nmX4 : ∀ a, a < 2 → ∀ b, b < 2 → a ≠ b → (TX4 a).2.1 ≠ (TX4 b).2.1 := by decide +kernel
theorem tyX4_ok : ∀ k, k < 2 → parseFieldDescriptor (TX4 k).2.2.1 = some (tyX4 k) := by decide +kernel
abbrev cX4_init : ByteArray := prog_6_method_1_code
def yX4_init : MethodName := ⟨RX4, "<init>", "()V"⟩
abbrev cX4_isWidth : ByteArray := prog_6_method_2_code
def yX4_isWidth : MethodName := ⟨RX4, "isWidth", "(I)Z"⟩
abbrev cX4_isMissing : ByteArray := prog_6_method_3_code
def yX4_isMissing : MethodName := ⟨RX4, "isMissing", "()Z"⟩
abbrev cX4_layOut : ByteArray := prog_6_method_4_code
def yX4_layOut : MethodName := ⟨RX4, "layOut", "(II)V"⟩
abbrev cX4_lowestBits : ByteArray := prog_6_method_5_code
def yX4_lowestBits : MethodName := ⟨RX4, "lowestBits", "(I)I"⟩
def RX5 : String := "LoanedRound$State"
def TX5 : u_T := fun k => match k with
  | 0 => ("LoanedRound$State", "round", "LLoanedRound$Round;", true)
  | 1 => ("LoanedRound$State", "tape", "LLoanedRound$Row;", true)
  | _ => ("LoanedRound$State", "waiting", "LLoanedRound$Row;", true)
def tyX5 : Nat → FieldType := fun k => match k with
  | 0 => .object "LoanedRound$Round"
  | 1 => .object "LoanedRound$Row"
  | _ => .object "LoanedRound$Row"
theorem nmX5 : ∀ a, a < 3 → ∀ b, b < 3 → a ≠ b → (TX5 a).2.1 ≠ (TX5 b).2.1 := by decide +kernel
theorem tyX5_ok : ∀ k, k < 3 → parseFieldDescriptor (TX5 k).2.2.1 = some (tyX5 k) := by decide +kernel
abbrev cX5_init : ByteArray := prog_7_method_1_code
def yX5_init : MethodName := ⟨RX5, "<init>", "()V"⟩
abbrev cX5_takeOver : ByteArray := prog_7_method_2_code
def yX5_takeOver : MethodName := ⟨RX5, "takeOver", "(LLoanedRound$State;)V"⟩
def RX6 : String := "LoanedRound$Thought"
def TX6 : u_T := fun k => match k with
  | 0 => ("LoanedRound$Thought", "trial", "LLoanedRound$Round;", true)
  | 1 => ("LoanedRound$Thought", "which", "I", false)
  | _ => ("LoanedRound$Thought", "much", "I", false)
def tyX6 : Nat → FieldType := fun k => match k with
  | 0 => .object "LoanedRound$Round"
  | 1 => .int
  | _ => .int
theorem nmX6 : ∀ a, a < 3 → ∀ b, b < 3 → a ≠ b → (TX6 a).2.1 ≠ (TX6 b).2.1 := by decide +kernel
theorem tyX6_ok : ∀ k, k < 3 → parseFieldDescriptor (TX6 k).2.2.1 = some (tyX6 k) := by decide +kernel
abbrev cX6_init : ByteArray := prog_8_method_1_code
def yX6_init : MethodName := ⟨RX6, "<init>", "()V"⟩
abbrev cX6_daysOn : ByteArray := prog_8_method_2_code
def yX6_daysOn : MethodName := ⟨RX6, "daysOn", "(LLoanedRound$Round;I)LLoanedRound$Round;"⟩
abbrev cX6_daysUntil : ByteArray := prog_8_method_3_code
def yX6_daysUntil : MethodName := ⟨RX6, "daysUntil", "(LLoanedRound$Round;II)I"⟩
abbrev cX6_seekStart : ByteArray := prog_8_method_4_code
def yX6_seekStart : MethodName := ⟨RX6, "seekStart", "(LLoanedRound$Round;II)V"⟩
abbrev cX6_seekSwap : ByteArray := prog_8_method_5_code
def yX6_seekSwap : MethodName := ⟨RX6, "seekSwap", "(LLoanedRound$Round;I)V"⟩
abbrev cX6_fewestPast : ByteArray := prog_8_method_6_code
def yX6_fewestPast : MethodName := ⟨RX6, "fewestPast", "(LLoanedRound$Round;II)I"⟩
abbrev cX6_viewWithout : ByteArray := prog_8_method_7_code
def yX6_viewWithout : MethodName := ⟨RX6, "viewWithout", "(LLoanedRound$Round;II)I"⟩
abbrev cX6_likelyViews : ByteArray := prog_8_method_8_code
def yX6_likelyViews : MethodName := ⟨RX6, "likelyViews", "(LLoanedRound$Round;III)I"⟩
abbrev cX6_placesThatFit : ByteArray := prog_8_method_9_code
def yX6_placesThatFit : MethodName := ⟨RX6, "placesThatFit", "(LLoanedRound$Round;LLoanedRound$Row;)I"⟩
abbrev cX6_isFitting : ByteArray := prog_8_method_10_code
def yX6_isFitting : MethodName := ⟨RX6, "isFitting", "(LLoanedRound$Round;ILLoanedRound$Row;)Z"⟩
def RX7 : String := "LoanedRound$Voices"
def TX7 : u_T := fun k => match k with
  | 0 => ("LoanedRound$Voices", "trace", "LLoanedRound$Row;", true)
  | 1 => ("LoanedRound$Voices", "parted", "Z", false)
  | 2 => ("LoanedRound$Voices", "kind", "I", false)
  | 3 => ("LoanedRound$Voices", "k", "I", false)
  | _ => ("LoanedRound$Voices", "m", "I", false)
def tyX7 : Nat → FieldType := fun k => match k with
  | 0 => .object "LoanedRound$Row"
  | 1 => .boolean
  | 2 => .int
  | 3 => .int
  | _ => .int
theorem nmX7 : ∀ a, a < 5 → ∀ b, b < 5 → a ≠ b → (TX7 a).2.1 ≠ (TX7 b).2.1 := by decide +kernel
theorem tyX7_ok : ∀ k, k < 5 → parseFieldDescriptor (TX7 k).2.2.1 = some (tyX7 k) := by decide +kernel
abbrev cX7_init : ByteArray := prog_9_method_1_code
def yX7_init : MethodName := ⟨RX7, "<init>", "()V"⟩
abbrev cX7_answer : ByteArray := prog_9_method_2_code
def yX7_answer : MethodName := ⟨RX7, "answer", "(LLoanedRound$Round;III)I"⟩
abbrev cX7_speak : ByteArray := prog_9_method_3_code
def yX7_speak : MethodName := ⟨RX7, "speak", "(IIII)I"⟩
abbrev cX7_workOut : ByteArray := prog_9_method_4_code
def yX7_workOut : MethodName := ⟨RX7, "workOut", "(IIII)I"⟩
abbrev cX7_ownerOf : ByteArray := prog_9_method_5_code
def yX7_ownerOf : MethodName := ⟨RX7, "ownerOf", "(II)I"⟩
abbrev cX7_part : ByteArray := prog_9_method_6_code
def yX7_part : MethodName := ⟨RX7, "part", "(I)I"⟩
def RX8 : String := "LoanedRound"
def TX8 : u_T := fun k => match k with
  | 0 => ("LoanedRound", "now", "LLoanedRound$State;", true)
  | 1 => ("LoanedRound", "kept", "LLoanedRound$State;", true)
  | 2 => ("LoanedRound", "reader", "LLoanedRound$Reader;", true)
  | 3 => ("LoanedRound", "thought", "LLoanedRound$Thought;", true)
  | 4 => ("LoanedRound", "voices", "LLoanedRound$Voices;", true)
  | 5 => ("LoanedRound", "sheets", "[LLoanedRound$Sheet;", true)
  | 6 => ("LoanedRound", "errors", "[I", true)
  | _ => ("LoanedRound", "images", "I", false)
def tyX8 : Nat → FieldType := fun k => match k with
  | 0 => .object "LoanedRound$State"
  | 1 => .object "LoanedRound$State"
  | 2 => .object "LoanedRound$Reader"
  | 3 => .object "LoanedRound$Thought"
  | 4 => .object "LoanedRound$Voices"
  | 5 => .array (.object "LoanedRound$Sheet")
  | 6 => .array .int
  | _ => .int
theorem nmX8 : ∀ a, a < 8 → ∀ b, b < 8 → a ≠ b → (TX8 a).2.1 ≠ (TX8 b).2.1 := by decide +kernel
theorem tyX8_ok : ∀ k, k < 8 → parseFieldDescriptor (TX8 k).2.2.1 = some (tyX8 k) := by decide +kernel
abbrev cX8_init : ByteArray := prog_1_method_1_code
def yX8_init : MethodName := ⟨RX8, "<init>", "()V"⟩
abbrev cX8_home : ByteArray := prog_1_method_2_code
def yX8_home : MethodName := ⟨RX8, "home", "(I)I"⟩
abbrev cX8_homeIs : ByteArray := prog_1_method_3_code
def yX8_homeIs : MethodName := ⟨RX8, "homeIs", "(II)I"⟩
abbrev cX8_become : ByteArray := prog_1_method_4_code
def yX8_become : MethodName := ⟨RX8, "become", "(II)I"⟩
abbrev cX8_as : ByteArray := prog_1_method_5_code
def yX8_as : MethodName := ⟨RX8, "as", "(II)I"⟩
abbrev cX8_past : ByteArray := prog_1_method_6_code
def yX8_past : MethodName := ⟨RX8, "past", "(II)I"⟩
abbrev cX8_goes : ByteArray := prog_1_method_7_code
def yX8_goes : MethodName := ⟨RX8, "goes", "(I)I"⟩
abbrev cX8_set : ByteArray := prog_1_method_8_code
def yX8_set : MethodName := ⟨RX8, "set", "(II)I"⟩
abbrev cX8_hears : ByteArray := prog_1_method_9_code
def yX8_hears : MethodName := ⟨RX8, "hears", "(II)I"⟩
abbrev cX8_feed : ByteArray := prog_1_method_10_code
def yX8_feed : MethodName := ⟨RX8, "feed", "(JI)I"⟩
abbrev cX8_text : ByteArray := prog_1_method_11_code
def yX8_text : MethodName := ⟨RX8, "text", "(I)I"⟩
abbrev cX8_untell : ByteArray := prog_1_method_12_code
def yX8_untell : MethodName := ⟨RX8, "untell", "(I)I"⟩
abbrev cX8_law : ByteArray := prog_1_method_13_code
def yX8_law : MethodName := ⟨RX8, "law", "(IIII)I"⟩
abbrev cX8_days : ByteArray := prog_1_method_14_code
def yX8_days : MethodName := ⟨RX8, "days", "(I)I"⟩
abbrev cX8_loose : ByteArray := prog_1_method_15_code
def yX8_loose : MethodName := ⟨RX8, "loose", "(I)I"⟩
abbrev cX8_day : ByteArray := prog_1_method_16_code
def yX8_day : MethodName := ⟨RX8, "day", "(I)I"⟩
abbrev cX8_seed : ByteArray := prog_1_method_17_code
def yX8_seed : MethodName := ⟨RX8, "seed", "(I)I"⟩
abbrev cX8_then : ByteArray := prog_1_method_18_code
def yX8_then : MethodName := ⟨RX8, "then", "(II)I"⟩
abbrev cX8_soonest : ByteArray := prog_1_method_19_code
def yX8_soonest : MethodName := ⟨RX8, "soonest", "(II)I"⟩
abbrev cX8_startFor : ByteArray := prog_1_method_20_code
def yX8_startFor : MethodName := ⟨RX8, "startFor", "(III)I"⟩
abbrev cX8_swapFor : ByteArray := prog_1_method_21_code
def yX8_swapFor : MethodName := ⟨RX8, "swapFor", "(II)I"⟩
abbrev cX8_spare : ByteArray := prog_1_method_22_code
def yX8_spare : MethodName := ⟨RX8, "spare", "(II)I"⟩
abbrev cX8_odds : ByteArray := prog_1_method_23_code
def yX8_odds : MethodName := ⟨RX8, "odds", "(IIII)I"⟩
abbrev cX8_fits : ByteArray := prog_1_method_24_code
def yX8_fits : MethodName := ⟨RX8, "fits", "(II)I"⟩
abbrev cX8_voice : ByteArray := prog_1_method_25_code
def yX8_voice : MethodName := ⟨RX8, "voice", "(III)I"⟩
abbrev cX8_body : ByteArray := prog_1_method_26_code
def yX8_body : MethodName := ⟨RX8, "body", "(I)I"⟩
abbrev cX8_sheet : ByteArray := prog_1_method_27_code
def yX8_sheet : MethodName := ⟨RX8, "sheet", "(III)I"⟩
abbrev cX8_put : ByteArray := prog_1_method_28_code
def yX8_put : MethodName := ⟨RX8, "put", "(III)I"⟩
abbrev cX8_move : ByteArray := prog_1_method_29_code
def yX8_move : MethodName := ⟨RX8, "move", "(IIIII)I"⟩
abbrev cX8_hearAll : ByteArray := prog_1_method_30_code
def yX8_hearAll : MethodName := ⟨RX8, "hearAll", "(I)I"⟩
abbrev cX8_judge : ByteArray := prog_1_method_31_code
def yX8_judge : MethodName := ⟨RX8, "judge", "(I)I"⟩
abbrev cX8_image : ByteArray := prog_1_method_32_code
def yX8_image : MethodName := ⟨RX8, "image", "()I"⟩
abbrev cX8_restore : ByteArray := prog_1_method_33_code
def yX8_restore : MethodName := ⟨RX8, "restore", "()I"⟩
abbrev cX8_tell : ByteArray := prog_1_method_34_code
def yX8_tell : MethodName := ⟨RX8, "tell", "(I)I"⟩
abbrev cX8_check : ByteArray := prog_1_method_35_code
def yX8_check : MethodName := ⟨RX8, "check", "()I"⟩
abbrev cX8_count : ByteArray := prog_1_method_36_code
def yX8_count : MethodName := ⟨RX8, "count", "(I)I"⟩
abbrev cX8_told : ByteArray := prog_1_method_37_code
def yX8_told : MethodName := ⟨RX8, "told", "(I)I"⟩
abbrev cX8_error : ByteArray := prog_1_method_38_code
def yX8_error : MethodName := ⟨RX8, "error", "(I)I"⟩
abbrev cX8_becomeView : ByteArray := prog_1_method_39_code
def yX8_becomeView : MethodName := ⟨RX8, "becomeView", "(I)I"⟩
abbrev cX8_becomeSharp : ByteArray := prog_1_method_40_code
def yX8_becomeSharp : MethodName := ⟨RX8, "becomeSharp", "(I)I"⟩
abbrev cX8_becomeSteel : ByteArray := prog_1_method_41_code
def yX8_becomeSteel : MethodName := ⟨RX8, "becomeSteel", "(I)I"⟩
abbrev cX8_isWithin : ByteArray := prog_1_method_42_code
def yX8_isWithin : MethodName := ⟨RX8, "isWithin", "(III)Z"⟩
abbrev cX8_isUse : ByteArray := prog_1_method_43_code
def yX8_isUse : MethodName := ⟨RX8, "isUse", "(I)Z"⟩
abbrev cX8_isSheet : ByteArray := prog_1_method_44_code
def yX8_isSheet : MethodName := ⟨RX8, "isSheet", "(I)Z"⟩
abbrev cX8_isOfKind : ByteArray := prog_1_method_45_code
def yX8_isOfKind : MethodName := ⟨RX8, "isOfKind", "(II)Z"⟩
abbrev cX8_greatestShared : ByteArray := prog_1_method_46_code
def yX8_greatestShared : MethodName := ⟨RX8, "greatestShared", "(II)I"⟩
def RX9 : String := "LoanedRoundModel"
def TX9 : u_T := fun k => match k with
  | 0 => ("LoanedRoundModel", "s", "[I", true)
  | 1 => ("LoanedRoundModel", "kept", "[I", true)
  | 2 => ("LoanedRoundModel", "beside", "[I", true)
  | 3 => ("LoanedRoundModel", "images", "I", false)
  | 4 => ("LoanedRoundModel", "errors", "[I", true)
  | 5 => ("LoanedRoundModel", "at", "I", false)
  | 6 => ("LoanedRoundModel", "open", "I", false)
  | 7 => ("LoanedRoundModel", "steps", "I", false)
  | 8 => ("LoanedRoundModel", "use", "I", false)
  | 9 => ("LoanedRoundModel", "step", "[I", true)
  | 10 => ("LoanedRoundModel", "named", "[I", true)
  | 11 => ("LoanedRoundModel", "pile", "[I", true)
  | 12 => ("LoanedRoundModel", "traced", "I", false)
  | 13 => ("LoanedRoundModel", "trace", "[I", true)
  | 14 => ("LoanedRoundModel", "speaks", "I", false)
  | 15 => ("LoanedRoundModel", "isParted", "Z", false)
  | 16 => ("LoanedRoundModel", "bits", "[I", true)
  | 17 => ("LoanedRoundModel", "sizes", "[I", true)
  | 18 => ("LoanedRoundModel", "number", "[I", true)
  | _ => ("LoanedRoundModel", "aside", "[I", true)
def tyX9 : Nat → FieldType := fun k => match k with
  | 0 => .array .int
  | 1 => .array .int
  | 2 => .array .int
  | 3 => .int
  | 4 => .array .int
  | 5 => .int
  | 6 => .int
  | 7 => .int
  | 8 => .int
  | 9 => .array .int
  | 10 => .array .int
  | 11 => .array .int
  | 12 => .int
  | 13 => .array .int
  | 14 => .int
  | 15 => .boolean
  | 16 => .array .int
  | 17 => .array .int
  | 18 => .array .int
  | _ => .array .int
theorem nmX9 : ∀ a, a < 20 → ∀ b, b < 20 → a ≠ b → (TX9 a).2.1 ≠ (TX9 b).2.1 := by decide +kernel
theorem tyX9_ok : ∀ k, k < 20 → parseFieldDescriptor (TX9 k).2.2.1 = some (tyX9 k) := by decide +kernel
abbrev cX9_init : ByteArray := prog_11_method_1_code
def yX9_init : MethodName := ⟨RX9, "<init>", "()V"⟩
abbrev cX9_error : ByteArray := prog_11_method_2_code
def yX9_error : MethodName := ⟨RX9, "error", "(I)I"⟩
abbrev cX9_in : ByteArray := prog_11_method_3_code
def yX9_in : MethodName := ⟨RX9, "in", "(III)Z"⟩
abbrev cX9_held : ByteArray := prog_11_method_4_code
def yX9_held : MethodName := ⟨RX9, "held", "(III)I"⟩
abbrev cX9_copyAll : ByteArray := prog_11_method_5_code
def yX9_copyAll : MethodName := ⟨RX9, "copyAll", "([I[I)V"⟩
abbrev cX9_saves : ByteArray := prog_11_method_6_code
def yX9_saves : MethodName := ⟨RX9, "saves", "()V"⟩
abbrev cX9_putsBack : ByteArray := prog_11_method_7_code
def yX9_putsBack : MethodName := ⟨RX9, "putsBack", "()V"⟩
abbrev cX9_isHome : ByteArray := prog_11_method_8_code
def yX9_isHome : MethodName := ⟨RX9, "isHome", "(I)Z"⟩
abbrev cX9_its : ByteArray := prog_11_method_9_code
def yX9_its : MethodName := ⟨RX9, "its", "(II)I"⟩
abbrev cX9_lays1 : ByteArray := prog_11_method_10_code
def yX9_lays1 : MethodName := ⟨RX9, "lays1", "(III)V"⟩
abbrev cX9_change1 : ByteArray := prog_11_method_11_code
def yX9_change1 : MethodName := ⟨RX9, "change1", "(II)I"⟩
abbrev cX9_feed : ByteArray := prog_11_method_12_code
def yX9_feed : MethodName := ⟨RX9, "feed", "(JI)I"⟩
abbrev cX9_look : ByteArray := prog_11_method_13_code
def yX9_look : MethodName := ⟨RX9, "look", "()I"⟩
abbrev cX9_isName : ByteArray := prog_11_method_14_code
def yX9_isName : MethodName := ⟨RX9, "isName", "(I)Z"⟩
abbrev cX9_step1 : ByteArray := prog_11_method_15_code
def yX9_step1 : MethodName := ⟨RX9, "step1", "(II)V"⟩
abbrev cX9_whole : ByteArray := prog_11_method_16_code
def yX9_whole : MethodName := ⟨RX9, "whole", "()Z"⟩
abbrev cX9_both : ByteArray := prog_11_method_17_code
def yX9_both : MethodName := ⟨RX9, "both", "()Z"⟩
abbrev cX9_compared : ByteArray := prog_11_method_18_code
def yX9_compared : MethodName := ⟨RX9, "compared", "()Z"⟩
abbrev cX9_sum : ByteArray := prog_11_method_19_code
def yX9_sum : MethodName := ⟨RX9, "sum", "()Z"⟩
abbrev cX9_product : ByteArray := prog_11_method_20_code
def yX9_product : MethodName := ⟨RX9, "product", "()Z"⟩
abbrev cX9_opens : ByteArray := prog_11_method_21_code
def yX9_opens : MethodName := ⟨RX9, "opens", "()Z"⟩
abbrev cX9_one : ByteArray := prog_11_method_22_code
def yX9_one : MethodName := ⟨RX9, "one", "()Z"⟩
abbrev cX9_hasText : ByteArray := prog_11_method_23_code
def yX9_hasText : MethodName := ⟨RX9, "hasText", "(I)Z"⟩
abbrev cX9_text : ByteArray := prog_11_method_24_code
def yX9_text : MethodName := ⟨RX9, "text", "(I)I"⟩
abbrev cX9_untell : ByteArray := prog_11_method_25_code
def yX9_untell : MethodName := ⟨RX9, "untell", "(I)I"⟩
abbrev cX9_joined : ByteArray := prog_11_method_26_code
def yX9_joined : MethodName := ⟨RX9, "joined", "(III)I"⟩
abbrev cX9_worked : ByteArray := prog_11_method_27_code
def yX9_worked : MethodName := ⟨RX9, "worked", "(I)I"⟩
abbrev cX9_tellsOf : ByteArray := prog_11_method_28_code
def yX9_tellsOf : MethodName := ⟨RX9, "tellsOf", "(I)I"⟩
abbrev cX9_leavesOf : ByteArray := prog_11_method_29_code
def yX9_leavesOf : MethodName := ⟨RX9, "leavesOf", "(I)I"⟩
abbrev cX9_bluntsOf : ByteArray := prog_11_method_30_code
def yX9_bluntsOf : MethodName := ⟨RX9, "bluntsOf", "(I)I"⟩
abbrev cX9_restOf : ByteArray := prog_11_method_31_code
def yX9_restOf : MethodName := ⟨RX9, "restOf", "(I)I"⟩
abbrev cX9_givenBy : ByteArray := prog_11_method_32_code
def yX9_givenBy : MethodName := ⟨RX9, "givenBy", "(IIII)I"⟩
abbrev cX9_saidAt : ByteArray := prog_11_method_33_code
def yX9_saidAt : MethodName := ⟨RX9, "saidAt", "(I)I"⟩
abbrev cX9_behindAt : ByteArray := prog_11_method_34_code
def yX9_behindAt : MethodName := ⟨RX9, "behindAt", "(I)I"⟩
abbrev cX9_nextOne : ByteArray := prog_11_method_35_code
def yX9_nextOne : MethodName := ⟨RX9, "nextOne", "()I"⟩
abbrev cX9_day1 : ByteArray := prog_11_method_36_code
def yX9_day1 : MethodName := ⟨RX9, "day1", "()V"⟩
abbrev cX9_goesOn : ByteArray := prog_11_method_37_code
def yX9_goesOn : MethodName := ⟨RX9, "goesOn", "(I)V"⟩
abbrev cX9_heardAll : ByteArray := prog_11_method_38_code
def yX9_heardAll : MethodName := ⟨RX9, "heardAll", "()I"⟩
abbrev cX9_isKm : ByteArray := prog_11_method_39_code
def yX9_isKm : MethodName := ⟨RX9, "isKm", "(I)Z"⟩
abbrev cX9_home : ByteArray := prog_11_method_40_code
def yX9_home : MethodName := ⟨RX9, "home", "(I)I"⟩
abbrev cX9_homeIs : ByteArray := prog_11_method_41_code
def yX9_homeIs : MethodName := ⟨RX9, "homeIs", "(II)I"⟩
abbrev cX9_become : ByteArray := prog_11_method_42_code
def yX9_become : MethodName := ⟨RX9, "become", "(II)I"⟩
abbrev cX9_as : ByteArray := prog_11_method_43_code
def yX9_as : MethodName := ⟨RX9, "as", "(II)I"⟩
abbrev cX9_past : ByteArray := prog_11_method_44_code
def yX9_past : MethodName := ⟨RX9, "past", "(II)I"⟩
abbrev cX9_goes : ByteArray := prog_11_method_45_code
def yX9_goes : MethodName := ⟨RX9, "goes", "(I)I"⟩
abbrev cX9_set : ByteArray := prog_11_method_46_code
def yX9_set : MethodName := ⟨RX9, "set", "(II)I"⟩
abbrev cX9_hears : ByteArray := prog_11_method_47_code
def yX9_hears : MethodName := ⟨RX9, "hears", "(II)I"⟩
abbrev cX9_law : ByteArray := prog_11_method_48_code
def yX9_law : MethodName := ⟨RX9, "law", "(IIII)I"⟩
abbrev cX9_days : ByteArray := prog_11_method_49_code
def yX9_days : MethodName := ⟨RX9, "days", "(I)I"⟩
abbrev cX9_loose : ByteArray := prog_11_method_50_code
def yX9_loose : MethodName := ⟨RX9, "loose", "(I)I"⟩
abbrev cX9_day : ByteArray := prog_11_method_51_code
def yX9_day : MethodName := ⟨RX9, "day", "(I)I"⟩
abbrev cX9_seed : ByteArray := prog_11_method_52_code
def yX9_seed : MethodName := ⟨RX9, "seed", "(I)I"⟩
abbrev cX9_then : ByteArray := prog_11_method_53_code
def yX9_then : MethodName := ⟨RX9, "then", "(II)I"⟩
abbrev cX9_soonest : ByteArray := prog_11_method_54_code
def yX9_soonest : MethodName := ⟨RX9, "soonest", "(II)I"⟩
abbrev cX9_isAsked : ByteArray := prog_11_method_55_code
def yX9_isAsked : MethodName := ⟨RX9, "isAsked", "(II)Z"⟩
abbrev cX9_startFor : ByteArray := prog_11_method_56_code
def yX9_startFor : MethodName := ⟨RX9, "startFor", "(III)I"⟩
abbrev cX9_changePlaces : ByteArray := prog_11_method_57_code
def yX9_changePlaces : MethodName := ⟨RX9, "changePlaces", "(II)V"⟩
abbrev cX9_swapFor : ByteArray := prog_11_method_58_code
def yX9_swapFor : MethodName := ⟨RX9, "swapFor", "(II)I"⟩
abbrev cX9_ones : ByteArray := prog_11_method_59_code
def yX9_ones : MethodName := ⟨RX9, "ones", "(I)I"⟩
abbrev cX9_viewWith : ByteArray := prog_11_method_60_code
def yX9_viewWith : MethodName := ⟨RX9, "viewWith", "(II)I"⟩
abbrev cX9_spare : ByteArray := prog_11_method_61_code
def yX9_spare : MethodName := ⟨RX9, "spare", "(II)I"⟩
abbrev cX9_common : ByteArray := prog_11_method_62_code
def yX9_common : MethodName := ⟨RX9, "common", "(II)I"⟩
abbrev cX9_odds : ByteArray := prog_11_method_63_code
def yX9_odds : MethodName := ⟨RX9, "odds", "(IIII)I"⟩
abbrev cX9_fits : ByteArray := prog_11_method_64_code
def yX9_fits : MethodName := ⟨RX9, "fits", "(II)I"⟩
abbrev cX9_begins : ByteArray := prog_11_method_65_code
def yX9_begins : MethodName := ⟨RX9, "begins", "(I)V"⟩
abbrev cX9_above : ByteArray := prog_11_method_66_code
def yX9_above : MethodName := ⟨RX9, "above", "(I)I"⟩
abbrev cX9_kindNow : ByteArray := prog_11_method_67_code
def yX9_kindNow : MethodName := ⟨RX9, "kindNow", "()I"⟩
abbrev cX9_mNow : ByteArray := prog_11_method_68_code
def yX9_mNow : MethodName := ⟨RX9, "mNow", "()I"⟩
abbrev cX9_cutsAs : ByteArray := prog_11_method_69_code
def yX9_cutsAs : MethodName := ⟨RX9, "cutsAs", "(II)I"⟩
abbrev cX9_saysAs : ByteArray := prog_11_method_70_code
def yX9_saysAs : MethodName := ⟨RX9, "saysAs", "(II)I"⟩
abbrev cX9_steelsAs : ByteArray := prog_11_method_71_code
def yX9_steelsAs : MethodName := ⟨RX9, "steelsAs", "(II)I"⟩
abbrev cX9_partsAs : ByteArray := prog_11_method_72_code
def yX9_partsAs : MethodName := ⟨RX9, "partsAs", "(II)I"⟩
abbrev cX9_voice : ByteArray := prog_11_method_73_code
def yX9_voice : MethodName := ⟨RX9, "voice", "(III)I"⟩
abbrev cX9_body : ByteArray := prog_11_method_74_code
def yX9_body : MethodName := ⟨RX9, "body", "(I)I"⟩
abbrev cX9_isSheet : ByteArray := prog_11_method_75_code
def yX9_isSheet : MethodName := ⟨RX9, "isSheet", "(I)Z"⟩
abbrev cX9_sheet : ByteArray := prog_11_method_76_code
def yX9_sheet : MethodName := ⟨RX9, "sheet", "(III)I"⟩
abbrev cX9_put : ByteArray := prog_11_method_77_code
def yX9_put : MethodName := ⟨RX9, "put", "(III)I"⟩
abbrev cX9_move : ByteArray := prog_11_method_78_code
def yX9_move : MethodName := ⟨RX9, "move", "(IIIII)I"⟩
abbrev cX9_lacks : ByteArray := prog_11_method_79_code
def yX9_lacks : MethodName := ⟨RX9, "lacks", "(I)I"⟩
abbrev cX9_hearAll : ByteArray := prog_11_method_80_code
def yX9_hearAll : MethodName := ⟨RX9, "hearAll", "(I)I"⟩
abbrev cX9_judge : ByteArray := prog_11_method_81_code
def yX9_judge : MethodName := ⟨RX9, "judge", "(I)I"⟩
abbrev cX9_image : ByteArray := prog_11_method_82_code
def yX9_image : MethodName := ⟨RX9, "image", "()I"⟩
abbrev cX9_restore : ByteArray := prog_11_method_83_code
def yX9_restore : MethodName := ⟨RX9, "restore", "()I"⟩
abbrev cX9_tell : ByteArray := prog_11_method_84_code
def yX9_tell : MethodName := ⟨RX9, "tell", "(I)I"⟩
abbrev cX9_check : ByteArray := prog_11_method_85_code
def yX9_check : MethodName := ⟨RX9, "check", "()I"⟩
abbrev cX9_pastNow : ByteArray := prog_11_method_86_code
def yX9_pastNow : MethodName := ⟨RX9, "pastNow", "()I"⟩
abbrev cX9_count : ByteArray := prog_11_method_87_code
def yX9_count : MethodName := ⟨RX9, "count", "(I)I"⟩
abbrev cX9_told : ByteArray := prog_11_method_88_code
def yX9_told : MethodName := ⟨RX9, "told", "(I)I"⟩
def RJ11 : String := "java/lang/Character"
def TJ11 : u_T := fun k => match k with
  | _ => ("", "", "", false)
def tyJ11 : Nat → FieldType := fun k => match k with
  | _ => .int
theorem nmJ11 : ∀ a, a < 0 → ∀ b, b < 0 → a ≠ b → (TJ11 a).2.1 ≠ (TJ11 b).2.1 := by decide +kernel
theorem tyJ11_ok : ∀ k, k < 0 → parseFieldDescriptor (TJ11 k).2.2.1 = some (tyJ11 k) := by decide +kernel
abbrev cJ11_isValidCodePoint_9a6ad : ByteArray := prog_12_method_11_code
def yJ11_isValidCodePoint_9a6ad : MethodName := ⟨RJ11, "isValidCodePoint", "(I)Z"⟩
abbrev cJ11_highSurrogate_5068e : ByteArray := prog_12_method_28_code
def yJ11_highSurrogate_5068e : MethodName := ⟨RJ11, "highSurrogate", "(I)C"⟩
abbrev cJ11_lowSurrogate_5068e : ByteArray := prog_12_method_29_code
def yJ11_lowSurrogate_5068e : MethodName := ⟨RJ11, "lowSurrogate", "(I)C"⟩
def RJ6 : String := "java/lang/Integer"
def TJ6 : u_T := fun k => match k with
  | _ => ("", "", "", false)
def tyJ6 : Nat → FieldType := fun k => match k with
  | _ => .int
theorem nmJ6 : ∀ a, a < 0 → ∀ b, b < 0 → a ≠ b → (TJ6 a).2.1 ≠ (TJ6 b).2.1 := by decide +kernel
theorem tyJ6_ok : ∀ k, k < 0 → parseFieldDescriptor (TJ6 k).2.2.1 = some (tyJ6 k) := by decide +kernel
abbrev cJ6_bitCount_0f7a4 : ByteArray := prog_13_method_49_code
def yJ6_bitCount_0f7a4 : MethodName := ⟨RJ6, "bitCount", "(I)I"⟩
def RJ9 : String := "java/lang/Math"
def TJ9 : u_T := fun k => match k with
  | _ => ("", "", "", false)
def tyJ9 : Nat → FieldType := fun k => match k with
  | _ => .int
theorem nmJ9 : ∀ a, a < 0 → ∀ b, b < 0 → a ≠ b → (TJ9 a).2.1 ≠ (TJ9 b).2.1 := by decide +kernel
theorem tyJ9_ok : ∀ k, k < 0 → parseFieldDescriptor (TJ9 k).2.2.1 = some (tyJ9 k) := by decide +kernel
abbrev cJ9_floorMod_7cf53 : ByteArray := prog_14_method_50_code
def yJ9_floorMod_7cf53 : MethodName := ⟨RJ9, "floorMod", "(II)I"⟩
abbrev cJ9_max_7cf53 : ByteArray := prog_14_method_65_code
def yJ9_max_7cf53 : MethodName := ⟨RJ9, "max", "(II)I"⟩
abbrev cJ9_min_7cf53 : ByteArray := prog_14_method_69_code
def yJ9_min_7cf53 : MethodName := ⟨RJ9, "min", "(II)I"⟩
def RJ0 : String := "java/lang/String"
def TJ0 : u_T := fun k => match k with
  | _ => ("", "", "", false)
def tyJ0 : Nat → FieldType := fun k => match k with
  | _ => .int
theorem nmJ0 : ∀ a, a < 0 → ∀ b, b < 0 → a ≠ b → (TJ0 a).2.1 ≠ (TJ0 b).2.1 := by decide +kernel
theorem tyJ0_ok : ∀ k, k < 0 → parseFieldDescriptor (TJ0 k).2.2.1 = some (tyJ0 k) := by decide +kernel
abbrev cJ0_length_8abf5 : ByteArray := prog_15_method_54_code
def yJ0_length_8abf5 : MethodName := ⟨RJ0, "length", "()I"⟩
abbrev cJ0_indexOf_0f7a4 : ByteArray := prog_15_method_79_code
def yJ0_indexOf_0f7a4 : MethodName := ⟨RJ0, "indexOf", "(I)I"⟩
abbrev cJ0_indexOf_7cf53 : ByteArray := prog_15_method_80_code
def yJ0_indexOf_7cf53 : MethodName := ⟨RJ0, "indexOf", "(II)I"⟩
abbrev cJ0_coder_7d493 : ByteArray := prog_15_method_152_code
def yJ0_coder_7d493 : MethodName := ⟨RJ0, "coder", "()B"⟩
abbrev cJ0_isLatin1_aae02 : ByteArray := prog_15_method_154_code
def yJ0_isLatin1_aae02 : MethodName := ⟨RJ0, "isLatin1", "()Z"⟩
abbrev cJ0_checkBoundsBeginEnd_23922 : ByteArray := prog_15_method_158_code
def yJ0_checkBoundsBeginEnd_23922 : MethodName := ⟨RJ0, "checkBoundsBeginEnd", "(III)V"⟩
def RJ1 : String := "java/lang/StringLatin1"
def TJ1 : u_T := fun k => match k with
  | _ => ("", "", "", false)
def tyJ1 : Nat → FieldType := fun k => match k with
  | _ => .int
theorem nmJ1 : ∀ a, a < 0 → ∀ b, b < 0 → a ≠ b → (TJ1 a).2.1 ≠ (TJ1 b).2.1 := by decide +kernel
theorem tyJ1_ok : ∀ k, k < 0 → parseFieldDescriptor (TJ1 k).2.2.1 = some (tyJ1 k) := by decide +kernel
abbrev cJ1_canEncode_9a6ad : ByteArray := prog_16_method_4_code
def yJ1_canEncode_9a6ad : MethodName := ⟨RJ1, "canEncode", "(I)Z"⟩
abbrev cJ1_indexOf_4cfef : ByteArray := prog_16_method_22_code
def yJ1_indexOf_4cfef : MethodName := ⟨RJ1, "indexOf", "([BIII)I"⟩
abbrev cJ1_indexOfChar_4cfef : ByteArray := prog_16_method_23_code
def yJ1_indexOfChar_4cfef : MethodName := ⟨RJ1, "indexOfChar", "([BIII)I"⟩
def RJ2 : String := "java/lang/StringUTF16"
def TJ2 : u_T := fun k => match k with
  | _ => ("", "", "", false)
def tyJ2 : Nat → FieldType := fun k => match k with
  | _ => .int
theorem nmJ2 : ∀ a, a < 0 → ∀ b, b < 0 → a ≠ b → (TJ2 a).2.1 ≠ (TJ2 b).2.1 := by decide +kernel
theorem tyJ2_ok : ∀ k, k < 0 → parseFieldDescriptor (TJ2 k).2.2.1 = some (tyJ2 k) := by decide +kernel
abbrev cJ2_getChar_3b067 : ByteArray := prog_17_method_5_code
def yJ2_getChar_3b067 : MethodName := ⟨RJ2, "getChar", "([BI)C"⟩
abbrev cJ2_length_9d52b : ByteArray := prog_17_method_6_code
def yJ2_length_9d52b : MethodName := ⟨RJ2, "length", "([B)I"⟩
abbrev cJ2_indexOf_4cfef : ByteArray := prog_17_method_40_code
def yJ2_indexOf_4cfef : MethodName := ⟨RJ2, "indexOf", "([BIII)I"⟩
abbrev cJ2_indexOfChar_4cfef : ByteArray := prog_17_method_47_code
def yJ2_indexOfChar_4cfef : MethodName := ⟨RJ2, "indexOfChar", "([BIII)I"⟩
abbrev cJ2_indexOfCharUnsafe_4cfef : ByteArray := prog_17_method_48_code
def yJ2_indexOfCharUnsafe_4cfef : MethodName := ⟨RJ2, "indexOfCharUnsafe", "([BIII)I"⟩
abbrev cJ2_indexOfSupplementary_4cfef : ByteArray := prog_17_method_49_code
def yJ2_indexOfSupplementary_4cfef : MethodName := ⟨RJ2, "indexOfSupplementary", "([BIII)I"⟩
abbrev cJ2_checkBoundsBeginEnd_d044e : ByteArray := prog_17_method_93_code
def yJ2_checkBoundsBeginEnd_d044e : MethodName := ⟨RJ2, "checkBoundsBeginEnd", "(II[B)V"⟩
def RJ10 : String := "java/lang/System"
def TJ10 : u_T := fun k => match k with
  | _ => ("", "", "", false)
def tyJ10 : Nat → FieldType := fun k => match k with
  | _ => .int
theorem nmJ10 : ∀ a, a < 0 → ∀ b, b < 0 → a ≠ b → (TJ10 a).2.1 ≠ (TJ10 b).2.1 := by decide +kernel
theorem tyJ10_ok : ∀ k, k < 0 → parseFieldDescriptor (TJ10 k).2.2.1 = some (tyJ10 k) := by decide +kernel
def RJ3 : String := "jdk/internal/util/Preconditions"
def TJ3 : u_T := fun k => match k with
  | _ => ("", "", "", false)
def tyJ3 : Nat → FieldType := fun k => match k with
  | _ => .int
theorem nmJ3 : ∀ a, a < 0 → ∀ b, b < 0 → a ≠ b → (TJ3 a).2.1 ≠ (TJ3 b).2.1 := by decide +kernel
theorem tyJ3_ok : ∀ k, k < 0 → parseFieldDescriptor (TJ3 k).2.2.1 = some (tyJ3 k) := by decide +kernel
abbrev cJ3_checkFromToIndex_8c36e : ByteArray := prog_19_method_12_code
def yJ3_checkFromToIndex_8c36e : MethodName := ⟨RJ3, "checkFromToIndex", "(IIILjava/util/function/BiFunction;)I"⟩
def RL : String := "LoanedRoundLaw"
abbrev cL_law : ByteArray := code
def yL_law : MethodName := ⟨RL, "law", "([I)Z"⟩
abbrev vwCl : List vw_C := [(RX0, TX0, 3), (RX1, TX1, 5), (RX2, TX2, 14), (RX3, TX3, 2), (RX4, TX4, 2), (RX5, TX5, 3), (RX6, TX6, 3), (RX7, TX7, 5), (RX8, TX8, 8), (RX9, TX9, 20)]
/-- the words that stay true while the machine runs -/
def lw_g : List Cond := lw_tbl.filter goodWord
theorem lg_m {w : Cond} (i : Nat) (h : lw_tbl[i]? = some w) (hg : goodWord w = true) : w ∈ lw_g := List.mem_filter.mpr ⟨List.mem_of_getElem? h, hg⟩
theorem lg_good {y : MethodName} {b : ByteArray} {n : Nat} {r : Option FieldType} (h : Cond.code y b n r ∈ lw_g) : GoodIn lw_g (Cond.code y b n r :: lw_g) := by
  intro w hw
  have hm : w ∈ lw_g := by
    rcases List.mem_cons.mp hw with rfl | h1
    · exact h
    · exact h1
  exact ⟨hm, good_of_word (List.mem_filter.mp hm).2⟩
/-- a class whose objects the worlds hold -/
def CK (ci : Nat) (C : String) (T : u_T) (N : Nat) : Prop := vwCl[ci]? = some (C, T, N) ∧ (∀ w ∈ u_ws C T N, w ∈ lw_g) ∧ (∃ ty : Nat → FieldType, ∀ k, k < N → parseFieldDescriptor (T k).2.2.1 = some (ty k)) ∧ (∀ a, a < N → ∀ b, b < N → a ≠ b → (T a).2.1 ≠ (T b).2.1)
/-- field number k of class number ci, as place idx of the class own links it -/
def FK (own : String) (idx ci k : Nat) (fin : Bool) (ty : FieldType) : Prop := ∃ (C : String) (T : u_T) (N : Nat), CK ci C T N ∧ k < N ∧ Cond.fieldLink own idx C (T k).2.1 (T k).2.2.1 ∈ lw_g ∧ (T k).1 = C ∧ (T k).2.2.2 = fin ∧ parseFieldDescriptor (T k).2.2.1 = some ty
/-- a method, as place idx of the class own links it: its code, its words -/
def MK (own : String) (idx : Nat) (y : MethodName) (cc : ByteArray) (nL : Nat) (ret : Option FieldType) (np : Nat) : Prop := Cond.methodLink own idx y ∈ lw_g ∧ Cond.code y cc nL ret ∈ lw_g ∧ Cond.initialized y.cls ∈ lw_g ∧ y.cls ≠ "java/lang/invoke/MethodHandle" ∧ y.cls ≠ "java/lang/invoke/VarHandle" ∧ (parseMethodDescriptor y.desc).map (fun d => d.parameters.length) = some np
def MKV (own : String) (idx : Nat) (y : MethodName) (cc : ByteArray) (nL : Nat) (ret : Option FieldType) (np : Nat) (ci : Nat) : Prop := MK own idx y cc nL ret np ∧ Cond.instanceMethod y ∈ lw_g ∧ Cond.selects y.cls y y ∈ lw_g ∧ ∃ (T : u_T) (N : Nat), vwCl[ci]? = some (y.cls, T, N)
def MKS (own : String) (idx : Nat) (y : MethodName) (cc : ByteArray) (nL : Nat) (ret : Option FieldType) (np : Nat) : Prop := MK own idx y cc nL ret np ∧ Cond.static y ∈ lw_g
def MKI (own : String) (idx : Nat) (y : MethodName) (cc : ByteArray) (nL : Nat) (np : Nat) : Prop := MK own idx y cc nL none np ∧ Cond.instanceMethod y ∈ lw_g ∧ y.name = "<init>"

theorem layX0 : ∀ w ∈ u_ws RX0 TX0 3, w ∈ lw_g := by
  intro w hw
  rw [show u_ws RX0 TX0 3 = [142, 144, 146].filterMap (fun i => lw_tbl[i]?) by decide +kernel] at hw
  obtain ⟨i, -, hi⟩ := List.mem_filterMap.mp hw
  have hg : ∀ w ∈ u_ws RX0 TX0 3, goodWord w = true := by decide +kernel
  refine lg_m i hi (hg w ?_)
  rw [show u_ws RX0 TX0 3 = [142, 144, 146].filterMap (fun i => lw_tbl[i]?) by decide +kernel]
  exact hw
theorem ckX0 : CK 0 RX0 TX0 3 := ⟨rfl, layX0, ⟨tyX0, tyX0_ok⟩, nmX0⟩
theorem layX1 : ∀ w ∈ u_ws RX1 TX1 5, w ∈ lw_g := by
  intro w hw
  rw [show u_ws RX1 TX1 5 = [241, 243, 245, 247, 249].filterMap (fun i => lw_tbl[i]?) by decide +kernel] at hw
  obtain ⟨i, -, hi⟩ := List.mem_filterMap.mp hw
  have hg : ∀ w ∈ u_ws RX1 TX1 5, goodWord w = true := by decide +kernel
  refine lg_m i hi (hg w ?_)
  rw [show u_ws RX1 TX1 5 = [241, 243, 245, 247, 249].filterMap (fun i => lw_tbl[i]?) by decide +kernel]
  exact hw
theorem ckX1 : CK 1 RX1 TX1 5 := ⟨rfl, layX1, ⟨tyX1, tyX1_ok⟩, nmX1⟩
theorem layX2 : ∀ w ∈ u_ws RX2 TX2 14, w ∈ lw_g := by
  intro w hw
  rw [show u_ws RX2 TX2 14 = [182, 184, 186, 188, 190, 192, 194, 196, 198, 200, 202, 204, 206, 208].filterMap (fun i => lw_tbl[i]?) by decide +kernel] at hw
  obtain ⟨i, -, hi⟩ := List.mem_filterMap.mp hw
  have hg : ∀ w ∈ u_ws RX2 TX2 14, goodWord w = true := by decide +kernel
  refine lg_m i hi (hg w ?_)
  rw [show u_ws RX2 TX2 14 = [182, 184, 186, 188, 190, 192, 194, 196, 198, 200, 202, 204, 206, 208].filterMap (fun i => lw_tbl[i]?) by decide +kernel]
  exact hw
theorem ckX2 : CK 2 RX2 TX2 14 := ⟨rfl, layX2, ⟨tyX2, tyX2_ok⟩, nmX2⟩
theorem layX3 : ∀ w ∈ u_ws RX3 TX3 2, w ∈ lw_g := by
  intro w hw
  rw [show u_ws RX3 TX3 2 = [131, 133].filterMap (fun i => lw_tbl[i]?) by decide +kernel] at hw
  obtain ⟨i, -, hi⟩ := List.mem_filterMap.mp hw
  have hg : ∀ w ∈ u_ws RX3 TX3 2, goodWord w = true := by decide +kernel
  refine lg_m i hi (hg w ?_)
  rw [show u_ws RX3 TX3 2 = [131, 133].filterMap (fun i => lw_tbl[i]?) by decide +kernel]
  exact hw
theorem ckX3 : CK 3 RX3 TX3 2 := ⟨rfl, layX3, ⟨tyX3, tyX3_ok⟩, nmX3⟩
theorem layX4 : ∀ w ∈ u_ws RX4 TX4 2, w ∈ lw_g := by
  intro w hw
  rw [show u_ws RX4 TX4 2 = [312, 314].filterMap (fun i => lw_tbl[i]?) by decide +kernel] at hw
  obtain ⟨i, -, hi⟩ := List.mem_filterMap.mp hw
  have hg : ∀ w ∈ u_ws RX4 TX4 2, goodWord w = true := by decide +kernel
  refine lg_m i hi (hg w ?_)
  rw [show u_ws RX4 TX4 2 = [312, 314].filterMap (fun i => lw_tbl[i]?) by decide +kernel]
  exact hw
theorem ckX4 : CK 4 RX4 TX4 2 := ⟨rfl, layX4, ⟨tyX4, tyX4_ok⟩, nmX4⟩
theorem layX5 : ∀ w ∈ u_ws RX5 TX5 3, w ∈ lw_g := by
  intro w hw
  rw [show u_ws RX5 TX5 3 = [219, 221, 223].filterMap (fun i => lw_tbl[i]?) by decide +kernel] at hw
  obtain ⟨i, -, hi⟩ := List.mem_filterMap.mp hw
  have hg : ∀ w ∈ u_ws RX5 TX5 3, goodWord w = true := by decide +kernel
  refine lg_m i hi (hg w ?_)
  rw [show u_ws RX5 TX5 3 = [219, 221, 223].filterMap (fun i => lw_tbl[i]?) by decide +kernel]
  exact hw
theorem ckX5 : CK 5 RX5 TX5 3 := ⟨rfl, layX5, ⟨tyX5, tyX5_ok⟩, nmX5⟩
theorem layX6 : ∀ w ∈ u_ws RX6 TX6 3, w ∈ lw_g := by
  intro w hw
  rw [show u_ws RX6 TX6 3 = [266, 268, 270].filterMap (fun i => lw_tbl[i]?) by decide +kernel] at hw
  obtain ⟨i, -, hi⟩ := List.mem_filterMap.mp hw
  have hg : ∀ w ∈ u_ws RX6 TX6 3, goodWord w = true := by decide +kernel
  refine lg_m i hi (hg w ?_)
  rw [show u_ws RX6 TX6 3 = [266, 268, 270].filterMap (fun i => lw_tbl[i]?) by decide +kernel]
  exact hw
theorem ckX6 : CK 6 RX6 TX6 3 := ⟨rfl, layX6, ⟨tyX6, tyX6_ok⟩, nmX6⟩
theorem layX7 : ∀ w ∈ u_ws RX7 TX7 5, w ∈ lw_g := by
  intro w hw
  rw [show u_ws RX7 TX7 5 = [288, 290, 292, 294, 296].filterMap (fun i => lw_tbl[i]?) by decide +kernel] at hw
  obtain ⟨i, -, hi⟩ := List.mem_filterMap.mp hw
  have hg : ∀ w ∈ u_ws RX7 TX7 5, goodWord w = true := by decide +kernel
  refine lg_m i hi (hg w ?_)
  rw [show u_ws RX7 TX7 5 = [288, 290, 292, 294, 296].filterMap (fun i => lw_tbl[i]?) by decide +kernel]
  exact hw
theorem ckX7 : CK 7 RX7 TX7 5 := ⟨rfl, layX7, ⟨tyX7, tyX7_ok⟩, nmX7⟩
theorem layX8 : ∀ w ∈ u_ws RX8 TX8 8, w ∈ lw_g := by
  intro w hw
  rw [show u_ws RX8 TX8 8 = [325, 327, 329, 331, 333, 335, 337, 339].filterMap (fun i => lw_tbl[i]?) by decide +kernel] at hw
  obtain ⟨i, -, hi⟩ := List.mem_filterMap.mp hw
  have hg : ∀ w ∈ u_ws RX8 TX8 8, goodWord w = true := by decide +kernel
  refine lg_m i hi (hg w ?_)
  rw [show u_ws RX8 TX8 8 = [325, 327, 329, 331, 333, 335, 337, 339].filterMap (fun i => lw_tbl[i]?) by decide +kernel]
  exact hw
theorem ckX8 : CK 8 RX8 TX8 8 := ⟨rfl, layX8, ⟨tyX8, tyX8_ok⟩, nmX8⟩
theorem layX9 : ∀ w ∈ u_ws RX9 TX9 20, w ∈ lw_g := by
  intro w hw
  rw [show u_ws RX9 TX9 20 = [936, 938, 940, 942, 944, 946, 948, 950, 952, 954, 956, 958, 960, 962, 964, 966, 968, 970, 972, 974].filterMap (fun i => lw_tbl[i]?) by decide +kernel] at hw
  obtain ⟨i, -, hi⟩ := List.mem_filterMap.mp hw
  have hg : ∀ w ∈ u_ws RX9 TX9 20, goodWord w = true := by decide +kernel
  refine lg_m i hi (hg w ?_)
  rw [show u_ws RX9 TX9 20 = [936, 938, 940, 942, 944, 946, 948, 950, 952, 954, 956, 958, 960, 962, 964, 966, 968, 970, 972, 974].filterMap (fun i => lw_tbl[i]?) by decide +kernel]
  exact hw
theorem ckX9 : CK 9 RX9 TX9 20 := ⟨rfl, layX9, ⟨tyX9, tyX9_ok⟩, nmX9⟩
theorem fkX3_19 : FK RX3 19 3 0 true (.array .int) := ⟨_, _, _, ckX3, Nat.le_of_ble_eq_true rfl, lg_m 120 (by decide +kernel) rfl, rfl, rfl, by decide +kernel⟩
theorem fkX1_57 : FK RX1 57 3 0 true (.array .int) := ⟨_, _, _, ckX3, Nat.le_of_ble_eq_true rfl, lg_m 121 (by decide +kernel) rfl, rfl, rfl, by decide +kernel⟩
theorem fkX0_35 : FK RX0 35 3 0 true (.array .int) := ⟨_, _, _, ckX3, Nat.le_of_ble_eq_true rfl, lg_m 122 (by decide +kernel) rfl, rfl, rfl, by decide +kernel⟩
theorem fkX6_82 : FK RX6 82 3 0 true (.array .int) := ⟨_, _, _, ckX3, Nat.le_of_ble_eq_true rfl, lg_m 123 (by decide +kernel) rfl, rfl, rfl, by decide +kernel⟩
theorem fkX2_127 : FK RX2 127 3 0 true (.array .int) := ⟨_, _, _, ckX3, Nat.le_of_ble_eq_true rfl, lg_m 124 (by decide +kernel) rfl, rfl, rfl, by decide +kernel⟩
theorem fkX8_249 : FK RX8 249 3 0 true (.array .int) := ⟨_, _, _, ckX3, Nat.le_of_ble_eq_true rfl, lg_m 125 (by decide +kernel) rfl, rfl, rfl, by decide +kernel⟩
theorem fkX3_7 : FK RX3 7 3 1 false .int := ⟨_, _, _, ckX3, Nat.le_of_ble_eq_true rfl, lg_m 126 (by decide +kernel) rfl, rfl, rfl, by decide +kernel⟩
theorem fkX0_32 : FK RX0 32 3 1 false .int := ⟨_, _, _, ckX3, Nat.le_of_ble_eq_true rfl, lg_m 127 (by decide +kernel) rfl, rfl, rfl, by decide +kernel⟩
theorem fkX6_77 : FK RX6 77 3 1 false .int := ⟨_, _, _, ckX3, Nat.le_of_ble_eq_true rfl, lg_m 128 (by decide +kernel) rfl, rfl, rfl, by decide +kernel⟩
theorem fkX8_127 : FK RX8 127 3 1 false .int := ⟨_, _, _, ckX3, Nat.le_of_ble_eq_true rfl, lg_m 129 (by decide +kernel) rfl, rfl, rfl, by decide +kernel⟩
theorem fkX2_122 : FK RX2 122 3 1 false .int := ⟨_, _, _, ckX3, Nat.le_of_ble_eq_true rfl, lg_m 130 (by decide +kernel) rfl, rfl, rfl, by decide +kernel⟩
theorem fkX0_14 : FK RX0 14 0 0 true (.object "LoanedRound$Row") := ⟨_, _, _, ckX0, Nat.le_of_ble_eq_true rfl, lg_m 137 (by decide +kernel) rfl, rfl, rfl, by decide +kernel⟩
theorem fkX2_61 : FK RX2 61 0 0 true (.object "LoanedRound$Row") := ⟨_, _, _, ckX0, Nat.le_of_ble_eq_true rfl, lg_m 138 (by decide +kernel) rfl, rfl, rfl, by decide +kernel⟩
theorem fkX8_159 : FK RX8 159 0 0 true (.object "LoanedRound$Row") := ⟨_, _, _, ckX0, Nat.le_of_ble_eq_true rfl, lg_m 139 (by decide +kernel) rfl, rfl, rfl, by decide +kernel⟩
theorem fkX0_20 : FK RX0 20 0 1 true (.array .int) := ⟨_, _, _, ckX0, Nat.le_of_ble_eq_true rfl, lg_m 140 (by decide +kernel) rfl, rfl, rfl, by decide +kernel⟩
theorem fkX0_24 : FK RX0 24 0 2 true .int := ⟨_, _, _, ckX0, Nat.le_of_ble_eq_true rfl, lg_m 141 (by decide +kernel) rfl, rfl, rfl, by decide +kernel⟩
theorem fkX2_14 : FK RX2 14 2 0 true (.object "LoanedRound$Law") := ⟨_, _, _, ckX2, Nat.le_of_ble_eq_true rfl, lg_m 149 (by decide +kernel) rfl, rfl, rfl, by decide +kernel⟩
theorem fkX2_20 : FK RX2 20 2 1 true (.object "LoanedRound$Law") := ⟨_, _, _, ckX2, Nat.le_of_ble_eq_true rfl, lg_m 150 (by decide +kernel) rfl, rfl, rfl, by decide +kernel⟩
theorem fkX2_23 : FK RX2 23 2 2 true (.array .int) := ⟨_, _, _, ckX2, Nat.le_of_ble_eq_true rfl, lg_m 151 (by decide +kernel) rfl, rfl, rfl, by decide +kernel⟩
theorem fkX7_37 : FK RX7 37 2 2 true (.array .int) := ⟨_, _, _, ckX2, Nat.le_of_ble_eq_true rfl, lg_m 152 (by decide +kernel) rfl, rfl, rfl, by decide +kernel⟩
theorem fkX8_79 : FK RX8 79 2 2 true (.array .int) := ⟨_, _, _, ckX2, Nat.le_of_ble_eq_true rfl, lg_m 153 (by decide +kernel) rfl, rfl, rfl, by decide +kernel⟩
theorem fkX2_27 : FK RX2 27 2 3 true (.array .int) := ⟨_, _, _, ckX2, Nat.le_of_ble_eq_true rfl, lg_m 154 (by decide +kernel) rfl, rfl, rfl, by decide +kernel⟩
theorem fkX7_43 : FK RX7 43 2 3 true (.array .int) := ⟨_, _, _, ckX2, Nat.le_of_ble_eq_true rfl, lg_m 155 (by decide +kernel) rfl, rfl, rfl, by decide +kernel⟩
theorem fkX8_82 : FK RX8 82 2 3 true (.array .int) := ⟨_, _, _, ckX2, Nat.le_of_ble_eq_true rfl, lg_m 156 (by decide +kernel) rfl, rfl, rfl, by decide +kernel⟩
theorem fkX2_30 : FK RX2 30 2 4 true (.array .int) := ⟨_, _, _, ckX2, Nat.le_of_ble_eq_true rfl, lg_m 157 (by decide +kernel) rfl, rfl, rfl, by decide +kernel⟩
theorem fkX6_33 : FK RX6 33 2 4 true (.array .int) := ⟨_, _, _, ckX2, Nat.le_of_ble_eq_true rfl, lg_m 158 (by decide +kernel) rfl, rfl, rfl, by decide +kernel⟩
theorem fkX8_85 : FK RX8 85 2 4 true (.array .int) := ⟨_, _, _, ckX2, Nat.le_of_ble_eq_true rfl, lg_m 159 (by decide +kernel) rfl, rfl, rfl, by decide +kernel⟩
theorem fkX2_33 : FK RX2 33 2 5 true (.array .int) := ⟨_, _, _, ckX2, Nat.le_of_ble_eq_true rfl, lg_m 160 (by decide +kernel) rfl, rfl, rfl, by decide +kernel⟩
theorem fkX8_88 : FK RX8 88 2 5 true (.array .int) := ⟨_, _, _, ckX2, Nat.le_of_ble_eq_true rfl, lg_m 161 (by decide +kernel) rfl, rfl, rfl, by decide +kernel⟩
theorem fkX2_36 : FK RX2 36 2 6 false .int := ⟨_, _, _, ckX2, Nat.le_of_ble_eq_true rfl, lg_m 162 (by decide +kernel) rfl, rfl, rfl, by decide +kernel⟩
theorem fkX6_60 : FK RX6 60 2 6 false .int := ⟨_, _, _, ckX2, Nat.le_of_ble_eq_true rfl, lg_m 163 (by decide +kernel) rfl, rfl, rfl, by decide +kernel⟩
theorem fkX8_292 : FK RX8 292 2 6 false .int := ⟨_, _, _, ckX2, Nat.le_of_ble_eq_true rfl, lg_m 164 (by decide +kernel) rfl, rfl, rfl, by decide +kernel⟩
theorem fkX2_40 : FK RX2 40 2 7 false .int := ⟨_, _, _, ckX2, Nat.le_of_ble_eq_true rfl, lg_m 165 (by decide +kernel) rfl, rfl, rfl, by decide +kernel⟩
theorem fkX8_67 : FK RX8 67 2 7 false .int := ⟨_, _, _, ckX2, Nat.le_of_ble_eq_true rfl, lg_m 166 (by decide +kernel) rfl, rfl, rfl, by decide +kernel⟩
theorem fkX6_41 : FK RX6 41 2 7 false .int := ⟨_, _, _, ckX2, Nat.le_of_ble_eq_true rfl, lg_m 167 (by decide +kernel) rfl, rfl, rfl, by decide +kernel⟩
theorem fkX2_43 : FK RX2 43 2 8 false .int := ⟨_, _, _, ckX2, Nat.le_of_ble_eq_true rfl, lg_m 168 (by decide +kernel) rfl, rfl, rfl, by decide +kernel⟩
theorem fkX8_164 : FK RX8 164 2 8 false .int := ⟨_, _, _, ckX2, Nat.le_of_ble_eq_true rfl, lg_m 169 (by decide +kernel) rfl, rfl, rfl, by decide +kernel⟩
theorem fkX2_46 : FK RX2 46 2 9 false .int := ⟨_, _, _, ckX2, Nat.le_of_ble_eq_true rfl, lg_m 170 (by decide +kernel) rfl, rfl, rfl, by decide +kernel⟩
theorem fkX6_70 : FK RX6 70 2 9 false .int := ⟨_, _, _, ckX2, Nat.le_of_ble_eq_true rfl, lg_m 171 (by decide +kernel) rfl, rfl, rfl, by decide +kernel⟩
theorem fkX8_170 : FK RX8 170 2 9 false .int := ⟨_, _, _, ckX2, Nat.le_of_ble_eq_true rfl, lg_m 172 (by decide +kernel) rfl, rfl, rfl, by decide +kernel⟩
theorem fkX2_49 : FK RX2 49 2 10 false .int := ⟨_, _, _, ckX2, Nat.le_of_ble_eq_true rfl, lg_m 173 (by decide +kernel) rfl, rfl, rfl, by decide +kernel⟩
theorem fkX8_183 : FK RX8 183 2 10 false .int := ⟨_, _, _, ckX2, Nat.le_of_ble_eq_true rfl, lg_m 174 (by decide +kernel) rfl, rfl, rfl, by decide +kernel⟩
theorem fkX2_52 : FK RX2 52 2 11 false .int := ⟨_, _, _, ckX2, Nat.le_of_ble_eq_true rfl, lg_m 175 (by decide +kernel) rfl, rfl, rfl, by decide +kernel⟩
theorem fkX8_289 : FK RX8 289 2 11 false .int := ⟨_, _, _, ckX2, Nat.le_of_ble_eq_true rfl, lg_m 176 (by decide +kernel) rfl, rfl, rfl, by decide +kernel⟩
theorem fkX2_55 : FK RX2 55 2 12 false .int := ⟨_, _, _, ckX2, Nat.le_of_ble_eq_true rfl, lg_m 177 (by decide +kernel) rfl, rfl, rfl, by decide +kernel⟩
theorem fkX6_44 : FK RX6 44 2 12 false .int := ⟨_, _, _, ckX2, Nat.le_of_ble_eq_true rfl, lg_m 178 (by decide +kernel) rfl, rfl, rfl, by decide +kernel⟩
theorem fkX8_111 : FK RX8 111 2 12 false .int := ⟨_, _, _, ckX2, Nat.le_of_ble_eq_true rfl, lg_m 179 (by decide +kernel) rfl, rfl, rfl, by decide +kernel⟩
theorem fkX2_58 : FK RX2 58 2 13 false .int := ⟨_, _, _, ckX2, Nat.le_of_ble_eq_true rfl, lg_m 180 (by decide +kernel) rfl, rfl, rfl, by decide +kernel⟩
theorem fkX8_176 : FK RX8 176 2 13 false .int := ⟨_, _, _, ckX2, Nat.le_of_ble_eq_true rfl, lg_m 181 (by decide +kernel) rfl, rfl, rfl, by decide +kernel⟩
theorem fkX5_12 : FK RX5 12 5 0 true (.object "LoanedRound$Round") := ⟨_, _, _, ckX5, Nat.le_of_ble_eq_true rfl, lg_m 213 (by decide +kernel) rfl, rfl, rfl, by decide +kernel⟩
theorem fkX8_63 : FK RX8 63 5 0 true (.object "LoanedRound$Round") := ⟨_, _, _, ckX5, Nat.le_of_ble_eq_true rfl, lg_m 214 (by decide +kernel) rfl, rfl, rfl, by decide +kernel⟩
theorem fkX5_23 : FK RX5 23 5 1 true (.object "LoanedRound$Row") := ⟨_, _, _, ckX5, Nat.le_of_ble_eq_true rfl, lg_m 215 (by decide +kernel) rfl, rfl, rfl, by decide +kernel⟩
theorem fkX8_123 : FK RX8 123 5 1 true (.object "LoanedRound$Row") := ⟨_, _, _, ckX5, Nat.le_of_ble_eq_true rfl, lg_m 216 (by decide +kernel) rfl, rfl, rfl, by decide +kernel⟩
theorem fkX5_27 : FK RX5 27 5 2 true (.object "LoanedRound$Row") := ⟨_, _, _, ckX5, Nat.le_of_ble_eq_true rfl, lg_m 217 (by decide +kernel) rfl, rfl, rfl, by decide +kernel⟩
theorem fkX8_283 : FK RX8 283 5 2 true (.object "LoanedRound$Row") := ⟨_, _, _, ckX5, Nat.le_of_ble_eq_true rfl, lg_m 218 (by decide +kernel) rfl, rfl, rfl, by decide +kernel⟩
theorem fkX1_14 : FK RX1 14 1 0 true (.object "LoanedRound$Row") := ⟨_, _, _, ckX1, Nat.le_of_ble_eq_true rfl, lg_m 235 (by decide +kernel) rfl, rfl, rfl, by decide +kernel⟩
theorem fkX8_150 : FK RX8 150 1 0 true (.object "LoanedRound$Row") := ⟨_, _, _, ckX1, Nat.le_of_ble_eq_true rfl, lg_m 236 (by decide +kernel) rfl, rfl, rfl, by decide +kernel⟩
theorem fkX1_20 : FK RX1 20 1 1 false (.object "LoanedRound$Row") := ⟨_, _, _, ckX1, Nat.le_of_ble_eq_true rfl, lg_m 237 (by decide +kernel) rfl, rfl, rfl, by decide +kernel⟩
theorem fkX1_25 : FK RX1 25 1 2 false (.object "java/lang/String") := ⟨_, _, _, ckX1, Nat.le_of_ble_eq_true rfl, lg_m 238 (by decide +kernel) rfl, rfl, rfl, by decide +kernel⟩
theorem fkX1_29 : FK RX1 29 1 3 false .int := ⟨_, _, _, ckX1, Nat.le_of_ble_eq_true rfl, lg_m 239 (by decide +kernel) rfl, rfl, rfl, by decide +kernel⟩
theorem fkX1_33 : FK RX1 33 1 4 false .int := ⟨_, _, _, ckX1, Nat.le_of_ble_eq_true rfl, lg_m 240 (by decide +kernel) rfl, rfl, rfl, by decide +kernel⟩
theorem fkX6_12 : FK RX6 12 6 0 true (.object "LoanedRound$Round") := ⟨_, _, _, ckX6, Nat.le_of_ble_eq_true rfl, lg_m 261 (by decide +kernel) rfl, rfl, rfl, by decide +kernel⟩
theorem fkX6_18 : FK RX6 18 6 1 false .int := ⟨_, _, _, ckX6, Nat.le_of_ble_eq_true rfl, lg_m 262 (by decide +kernel) rfl, rfl, rfl, by decide +kernel⟩
theorem fkX8_198 : FK RX8 198 6 1 false .int := ⟨_, _, _, ckX6, Nat.le_of_ble_eq_true rfl, lg_m 263 (by decide +kernel) rfl, rfl, rfl, by decide +kernel⟩
theorem fkX6_22 : FK RX6 22 6 2 false .int := ⟨_, _, _, ckX6, Nat.le_of_ble_eq_true rfl, lg_m 264 (by decide +kernel) rfl, rfl, rfl, by decide +kernel⟩
theorem fkX8_201 : FK RX8 201 6 2 false .int := ⟨_, _, _, ckX6, Nat.le_of_ble_eq_true rfl, lg_m 265 (by decide +kernel) rfl, rfl, rfl, by decide +kernel⟩
theorem fkX7_14 : FK RX7 14 7 0 true (.object "LoanedRound$Row") := ⟨_, _, _, ckX7, Nat.le_of_ble_eq_true rfl, lg_m 281 (by decide +kernel) rfl, rfl, rfl, by decide +kernel⟩
theorem fkX8_245 : FK RX8 245 7 0 true (.object "LoanedRound$Row") := ⟨_, _, _, ckX7, Nat.le_of_ble_eq_true rfl, lg_m 282 (by decide +kernel) rfl, rfl, rfl, by decide +kernel⟩
theorem fkX7_20 : FK RX7 20 7 1 false .boolean := ⟨_, _, _, ckX7, Nat.le_of_ble_eq_true rfl, lg_m 283 (by decide +kernel) rfl, rfl, rfl, by decide +kernel⟩
theorem fkX8_241 : FK RX8 241 7 1 false .boolean := ⟨_, _, _, ckX7, Nat.le_of_ble_eq_true rfl, lg_m 284 (by decide +kernel) rfl, rfl, rfl, by decide +kernel⟩
theorem fkX7_24 : FK RX7 24 7 2 false .int := ⟨_, _, _, ckX7, Nat.le_of_ble_eq_true rfl, lg_m 285 (by decide +kernel) rfl, rfl, rfl, by decide +kernel⟩
theorem fkX7_28 : FK RX7 28 7 3 false .int := ⟨_, _, _, ckX7, Nat.le_of_ble_eq_true rfl, lg_m 286 (by decide +kernel) rfl, rfl, rfl, by decide +kernel⟩
theorem fkX7_31 : FK RX7 31 7 4 false .int := ⟨_, _, _, ckX7, Nat.le_of_ble_eq_true rfl, lg_m 287 (by decide +kernel) rfl, rfl, rfl, by decide +kernel⟩
theorem fkX4_14 : FK RX4 14 4 0 true (.object "LoanedRound$Row") := ⟨_, _, _, ckX4, Nat.le_of_ble_eq_true rfl, lg_m 308 (by decide +kernel) rfl, rfl, rfl, by decide +kernel⟩
theorem fkX8_226 : FK RX8 226 4 0 true (.object "LoanedRound$Row") := ⟨_, _, _, ckX4, Nat.le_of_ble_eq_true rfl, lg_m 309 (by decide +kernel) rfl, rfl, rfl, by decide +kernel⟩
theorem fkX4_20 : FK RX4 20 4 1 false .int := ⟨_, _, _, ckX4, Nat.le_of_ble_eq_true rfl, lg_m 310 (by decide +kernel) rfl, rfl, rfl, by decide +kernel⟩
theorem fkX8_260 : FK RX8 260 4 1 false .int := ⟨_, _, _, ckX4, Nat.le_of_ble_eq_true rfl, lg_m 311 (by decide +kernel) rfl, rfl, rfl, by decide +kernel⟩
theorem fkX8_10 : FK RX8 10 8 0 true (.object "LoanedRound$State") := ⟨_, _, _, ckX8, Nat.le_of_ble_eq_true rfl, lg_m 317 (by decide +kernel) rfl, rfl, rfl, by decide +kernel⟩
theorem fkX8_16 : FK RX8 16 8 1 true (.object "LoanedRound$State") := ⟨_, _, _, ckX8, Nat.le_of_ble_eq_true rfl, lg_m 318 (by decide +kernel) rfl, rfl, rfl, by decide +kernel⟩
theorem fkX8_22 : FK RX8 22 8 2 true (.object "LoanedRound$Reader") := ⟨_, _, _, ckX8, Nat.le_of_ble_eq_true rfl, lg_m 319 (by decide +kernel) rfl, rfl, rfl, by decide +kernel⟩
theorem fkX8_29 : FK RX8 29 8 3 true (.object "LoanedRound$Thought") := ⟨_, _, _, ckX8, Nat.le_of_ble_eq_true rfl, lg_m 320 (by decide +kernel) rfl, rfl, rfl, by decide +kernel⟩
theorem fkX8_36 : FK RX8 36 8 4 true (.object "LoanedRound$Voices") := ⟨_, _, _, ckX8, Nat.le_of_ble_eq_true rfl, lg_m 321 (by decide +kernel) rfl, rfl, rfl, by decide +kernel⟩
theorem fkX8_42 : FK RX8 42 8 5 true (.array (.object "LoanedRound$Sheet")) := ⟨_, _, _, ckX8, Nat.le_of_ble_eq_true rfl, lg_m 322 (by decide +kernel) rfl, rfl, rfl, by decide +kernel⟩
theorem fkX8_46 : FK RX8 46 8 6 true (.array .int) := ⟨_, _, _, ckX8, Nat.le_of_ble_eq_true rfl, lg_m 323 (by decide +kernel) rfl, rfl, rfl, by decide +kernel⟩
theorem fkX8_50 : FK RX8 50 8 7 false .int := ⟨_, _, _, ckX8, Nat.le_of_ble_eq_true rfl, lg_m 324 (by decide +kernel) rfl, rfl, rfl, by decide +kernel⟩
theorem fkX9_7 : FK RX9 7 9 0 true (.array .int) := ⟨_, _, _, ckX9, Nat.le_of_ble_eq_true rfl, lg_m 916 (by decide +kernel) rfl, rfl, rfl, by decide +kernel⟩
theorem fkX9_13 : FK RX9 13 9 1 true (.array .int) := ⟨_, _, _, ckX9, Nat.le_of_ble_eq_true rfl, lg_m 917 (by decide +kernel) rfl, rfl, rfl, by decide +kernel⟩
theorem fkX9_16 : FK RX9 16 9 2 true (.array .int) := ⟨_, _, _, ckX9, Nat.le_of_ble_eq_true rfl, lg_m 918 (by decide +kernel) rfl, rfl, rfl, by decide +kernel⟩
theorem fkX9_236 : FK RX9 236 9 3 false .int := ⟨_, _, _, ckX9, Nat.le_of_ble_eq_true rfl, lg_m 919 (by decide +kernel) rfl, rfl, rfl, by decide +kernel⟩
theorem fkX9_19 : FK RX9 19 9 4 true (.array .int) := ⟨_, _, _, ckX9, Nat.le_of_ble_eq_true rfl, lg_m 920 (by decide +kernel) rfl, rfl, rfl, by decide +kernel⟩
theorem fkX9_57 : FK RX9 57 9 5 false .int := ⟨_, _, _, ckX9, Nat.le_of_ble_eq_true rfl, lg_m 921 (by decide +kernel) rfl, rfl, rfl, by decide +kernel⟩
theorem fkX9_91 : FK RX9 91 9 6 false .int := ⟨_, _, _, ckX9, Nat.le_of_ble_eq_true rfl, lg_m 922 (by decide +kernel) rfl, rfl, rfl, by decide +kernel⟩
theorem fkX9_64 : FK RX9 64 9 7 false .int := ⟨_, _, _, ckX9, Nat.le_of_ble_eq_true rfl, lg_m 923 (by decide +kernel) rfl, rfl, rfl, by decide +kernel⟩
theorem fkX9_61 : FK RX9 61 9 8 false .int := ⟨_, _, _, ckX9, Nat.le_of_ble_eq_true rfl, lg_m 924 (by decide +kernel) rfl, rfl, rfl, by decide +kernel⟩
theorem fkX9_22 : FK RX9 22 9 9 true (.array .int) := ⟨_, _, _, ckX9, Nat.le_of_ble_eq_true rfl, lg_m 925 (by decide +kernel) rfl, rfl, rfl, by decide +kernel⟩
theorem fkX9_25 : FK RX9 25 9 10 true (.array .int) := ⟨_, _, _, ckX9, Nat.le_of_ble_eq_true rfl, lg_m 926 (by decide +kernel) rfl, rfl, rfl, by decide +kernel⟩
theorem fkX9_28 : FK RX9 28 9 11 true (.array .int) := ⟨_, _, _, ckX9, Nat.le_of_ble_eq_true rfl, lg_m 927 (by decide +kernel) rfl, rfl, rfl, by decide +kernel⟩
theorem fkX9_198 : FK RX9 198 9 12 false .int := ⟨_, _, _, ckX9, Nat.le_of_ble_eq_true rfl, lg_m 928 (by decide +kernel) rfl, rfl, rfl, by decide +kernel⟩
theorem fkX9_31 : FK RX9 31 9 13 true (.array .int) := ⟨_, _, _, ckX9, Nat.le_of_ble_eq_true rfl, lg_m 929 (by decide +kernel) rfl, rfl, rfl, by decide +kernel⟩
theorem fkX9_201 : FK RX9 201 9 14 false .int := ⟨_, _, _, ckX9, Nat.le_of_ble_eq_true rfl, lg_m 930 (by decide +kernel) rfl, rfl, rfl, by decide +kernel⟩
theorem fkX9_222 : FK RX9 222 9 15 false .boolean := ⟨_, _, _, ckX9, Nat.le_of_ble_eq_true rfl, lg_m 931 (by decide +kernel) rfl, rfl, rfl, by decide +kernel⟩
theorem fkX9_34 : FK RX9 34 9 16 true (.array .int) := ⟨_, _, _, ckX9, Nat.le_of_ble_eq_true rfl, lg_m 932 (by decide +kernel) rfl, rfl, rfl, by decide +kernel⟩
theorem fkX9_37 : FK RX9 37 9 17 true (.array .int) := ⟨_, _, _, ckX9, Nat.le_of_ble_eq_true rfl, lg_m 933 (by decide +kernel) rfl, rfl, rfl, by decide +kernel⟩
theorem fkX9_40 : FK RX9 40 9 18 true (.array .int) := ⟨_, _, _, ckX9, Nat.le_of_ble_eq_true rfl, lg_m 934 (by decide +kernel) rfl, rfl, rfl, by decide +kernel⟩
theorem fkX9_43 : FK RX9 43 9 19 true (.array .int) := ⟨_, _, _, ckX9, Nat.le_of_ble_eq_true rfl, lg_m 935 (by decide +kernel) rfl, rfl, rfl, by decide +kernel⟩
theorem mkL_9 : MKI RL 9 yX8_init cX8_init 2 0 := ⟨⟨lg_m 87 (by decide +kernel) rfl, lg_m 89 (by decide +kernel) rfl, lg_m 67 (by decide +kernel) rfl, by decide +kernel, by decide +kernel, by decide +kernel⟩, lg_m 88 (by decide +kernel) rfl, rfl⟩
theorem mkX8_9 : MKI RX8 9 yX5_init cX5_init 1 0 := ⟨⟨lg_m 95 (by decide +kernel) rfl, lg_m 97 (by decide +kernel) rfl, lg_m 68 (by decide +kernel) rfl, by decide +kernel, by decide +kernel, by decide +kernel⟩, lg_m 96 (by decide +kernel) rfl, rfl⟩
theorem mkX5_11 : MKI RX5 11 yX2_init cX2_init 1 0 := ⟨⟨lg_m 101 (by decide +kernel) rfl, lg_m 103 (by decide +kernel) rfl, lg_m 69 (by decide +kernel) rfl, by decide +kernel, by decide +kernel, by decide +kernel⟩, lg_m 102 (by decide +kernel) rfl, rfl⟩
theorem mkX2_11 : MKI RX2 11 yX0_init cX0_init 2 1 := ⟨⟨lg_m 107 (by decide +kernel) rfl, lg_m 109 (by decide +kernel) rfl, lg_m 70 (by decide +kernel) rfl, by decide +kernel, by decide +kernel, by decide +kernel⟩, lg_m 108 (by decide +kernel) rfl, rfl⟩
theorem mkX0_11 : MKI RX0 11 yX3_init cX3_init 2 1 := ⟨⟨lg_m 113 (by decide +kernel) rfl, lg_m 115 (by decide +kernel) rfl, lg_m 71 (by decide +kernel) rfl, by decide +kernel, by decide +kernel, by decide +kernel⟩, lg_m 114 (by decide +kernel) rfl, rfl⟩
theorem mkX3_13 : MKS RX3 13 yJ9_max_7cf53 cJ9_max_7cf53 2 (some (.int)) 2 := ⟨⟨lg_m 117 (by decide +kernel) rfl, lg_m 119 (by decide +kernel) rfl, lg_m 72 (by decide +kernel) rfl, by decide +kernel, by decide +kernel, by decide +kernel⟩, lg_m 118 (by decide +kernel) rfl⟩
theorem mkX5_20 : MKI RX5 20 yX3_init cX3_init 2 1 := ⟨⟨lg_m 212 (by decide +kernel) rfl, lg_m 115 (by decide +kernel) rfl, lg_m 71 (by decide +kernel) rfl, by decide +kernel, by decide +kernel, by decide +kernel⟩, lg_m 114 (by decide +kernel) rfl, rfl⟩
theorem mkX8_21 : MKI RX8 21 yX1_init cX1_init 1 0 := ⟨⟨lg_m 228 (by decide +kernel) rfl, lg_m 230 (by decide +kernel) rfl, lg_m 73 (by decide +kernel) rfl, by decide +kernel, by decide +kernel, by decide +kernel⟩, lg_m 229 (by decide +kernel) rfl, rfl⟩
theorem mkX1_11 : MKI RX1 11 yX3_init cX3_init 2 1 := ⟨⟨lg_m 233 (by decide +kernel) rfl, lg_m 115 (by decide +kernel) rfl, lg_m 71 (by decide +kernel) rfl, by decide +kernel, by decide +kernel, by decide +kernel⟩, lg_m 114 (by decide +kernel) rfl, rfl⟩
theorem mkX8_28 : MKI RX8 28 yX6_init cX6_init 1 0 := ⟨⟨lg_m 255 (by decide +kernel) rfl, lg_m 257 (by decide +kernel) rfl, lg_m 74 (by decide +kernel) rfl, by decide +kernel, by decide +kernel, by decide +kernel⟩, lg_m 256 (by decide +kernel) rfl, rfl⟩
theorem mkX6_11 : MKI RX6 11 yX2_init cX2_init 1 0 := ⟨⟨lg_m 260 (by decide +kernel) rfl, lg_m 103 (by decide +kernel) rfl, lg_m 69 (by decide +kernel) rfl, by decide +kernel, by decide +kernel, by decide +kernel⟩, lg_m 102 (by decide +kernel) rfl, rfl⟩
theorem mkX8_35 : MKI RX8 35 yX7_init cX7_init 1 0 := ⟨⟨lg_m 275 (by decide +kernel) rfl, lg_m 277 (by decide +kernel) rfl, lg_m 75 (by decide +kernel) rfl, by decide +kernel, by decide +kernel, by decide +kernel⟩, lg_m 276 (by decide +kernel) rfl, rfl⟩
theorem mkX7_11 : MKI RX7 11 yX3_init cX3_init 2 1 := ⟨⟨lg_m 280 (by decide +kernel) rfl, lg_m 115 (by decide +kernel) rfl, lg_m 71 (by decide +kernel) rfl, by decide +kernel, by decide +kernel, by decide +kernel⟩, lg_m 114 (by decide +kernel) rfl, rfl⟩
theorem mkX8_54 : MKI RX8 54 yX4_init cX4_init 1 0 := ⟨⟨lg_m 302 (by decide +kernel) rfl, lg_m 304 (by decide +kernel) rfl, lg_m 76 (by decide +kernel) rfl, by decide +kernel, by decide +kernel, by decide +kernel⟩, lg_m 303 (by decide +kernel) rfl, rfl⟩
theorem mkX4_11 : MKI RX4 11 yX3_init cX3_init 2 1 := ⟨⟨lg_m 307 (by decide +kernel) rfl, lg_m 115 (by decide +kernel) rfl, lg_m 71 (by decide +kernel) rfl, by decide +kernel, by decide +kernel, by decide +kernel⟩, lg_m 114 (by decide +kernel) rfl, rfl⟩
theorem mkL_13 : MKV RL 13 yX8_home cX8_home 2 (some (.int)) 1 8 := ⟨⟨lg_m 342 (by decide +kernel) rfl, lg_m 345 (by decide +kernel) rfl, lg_m 67 (by decide +kernel) rfl, by decide +kernel, by decide +kernel, by decide +kernel⟩, lg_m 343 (by decide +kernel) rfl, lg_m 344 (by decide +kernel) rfl, _, _, rfl⟩
theorem mkX8_55 : MKS RX8 55 yX8_isWithin cX8_isWithin 3 (some (.boolean)) 3 := ⟨⟨lg_m 346 (by decide +kernel) rfl, lg_m 348 (by decide +kernel) rfl, lg_m 67 (by decide +kernel) rfl, by decide +kernel, by decide +kernel, by decide +kernel⟩, lg_m 347 (by decide +kernel) rfl⟩
theorem mkX8_59 : MKV RX8 59 yX8_error cX8_error 2 (some (.int)) 1 8 := ⟨⟨lg_m 349 (by decide +kernel) rfl, lg_m 352 (by decide +kernel) rfl, lg_m 67 (by decide +kernel) rfl, by decide +kernel, by decide +kernel, by decide +kernel⟩, lg_m 351 (by decide +kernel) rfl, lg_m 0 (by decide +kernel) rfl, _, _, rfl⟩
theorem mkX8_72 : MKV RX8 72 yX2_takeIn cX2_takeIn 2 (some (.int)) 1 2 := ⟨⟨lg_m 354 (by decide +kernel) rfl, lg_m 357 (by decide +kernel) rfl, lg_m 69 (by decide +kernel) rfl, by decide +kernel, by decide +kernel, by decide +kernel⟩, lg_m 355 (by decide +kernel) rfl, lg_m 356 (by decide +kernel) rfl, _, _, rfl⟩
theorem mkL_18 : MKV RL 18 yX8_homeIs cX8_homeIs 4 (some (.int)) 2 8 := ⟨⟨lg_m 358 (by decide +kernel) rfl, lg_m 361 (by decide +kernel) rfl, lg_m 67 (by decide +kernel) rfl, by decide +kernel, by decide +kernel, by decide +kernel⟩, lg_m 359 (by decide +kernel) rfl, lg_m 360 (by decide +kernel) rfl, _, _, rfl⟩
theorem mkX8_75 : MKV RX8 75 yX2_has cX2_has 2 (some (.boolean)) 1 2 := ⟨⟨lg_m 362 (by decide +kernel) rfl, lg_m 365 (by decide +kernel) rfl, lg_m 69 (by decide +kernel) rfl, by decide +kernel, by decide +kernel, by decide +kernel⟩, lg_m 363 (by decide +kernel) rfl, lg_m 364 (by decide +kernel) rfl, _, _, rfl⟩
theorem mkX8_91 : MKV RX8 91 yX2_pastAt cX2_pastAt 2 (some (.int)) 1 2 := ⟨⟨lg_m 366 (by decide +kernel) rfl, lg_m 369 (by decide +kernel) rfl, lg_m 69 (by decide +kernel) rfl, by decide +kernel, by decide +kernel, by decide +kernel⟩, lg_m 367 (by decide +kernel) rfl, lg_m 368 (by decide +kernel) rfl, _, _, rfl⟩
theorem mkX8_94 : MKV RX8 94 yX2_saidAt cX2_saidAt 2 (some (.int)) 1 2 := ⟨⟨lg_m 370 (by decide +kernel) rfl, lg_m 373 (by decide +kernel) rfl, lg_m 69 (by decide +kernel) rfl, by decide +kernel, by decide +kernel, by decide +kernel⟩, lg_m 371 (by decide +kernel) rfl, lg_m 372 (by decide +kernel) rfl, _, _, rfl⟩
theorem mkX2_75 : MKV RX2 75 yX2_tellsAt cX2_tellsAt 3 (some (.int)) 1 2 := ⟨⟨lg_m 374 (by decide +kernel) rfl, lg_m 377 (by decide +kernel) rfl, lg_m 69 (by decide +kernel) rfl, by decide +kernel, by decide +kernel, by decide +kernel⟩, lg_m 376 (by decide +kernel) rfl, lg_m 1 (by decide +kernel) rfl, _, _, rfl⟩
theorem mkX2_79 : MKV RX2 79 yX0_gives cX0_gives 7 (some (.int)) 3 0 := ⟨⟨lg_m 378 (by decide +kernel) rfl, lg_m 381 (by decide +kernel) rfl, lg_m 70 (by decide +kernel) rfl, by decide +kernel, by decide +kernel, by decide +kernel⟩, lg_m 379 (by decide +kernel) rfl, lg_m 380 (by decide +kernel) rfl, _, _, rfl⟩
theorem mkX0_38 : MKS RX0 38 yX0_worth cX0_worth 4 (some (.int)) 4 := ⟨⟨lg_m 382 (by decide +kernel) rfl, lg_m 384 (by decide +kernel) rfl, lg_m 70 (by decide +kernel) rfl, by decide +kernel, by decide +kernel, by decide +kernel⟩, lg_m 383 (by decide +kernel) rfl⟩
theorem mkX0_42 : MKS RX0 42 yX0_combine cX0_combine 3 (some (.int)) 3 := ⟨⟨lg_m 385 (by decide +kernel) rfl, lg_m 387 (by decide +kernel) rfl, lg_m 70 (by decide +kernel) rfl, by decide +kernel, by decide +kernel, by decide +kernel⟩, lg_m 386 (by decide +kernel) rfl⟩
theorem mkX0_46 : MKS RX0 46 yJ9_min_7cf53 cJ9_min_7cf53 2 (some (.int)) 2 := ⟨⟨lg_m 388 (by decide +kernel) rfl, lg_m 390 (by decide +kernel) rfl, lg_m 72 (by decide +kernel) rfl, by decide +kernel, by decide +kernel, by decide +kernel⟩, lg_m 389 (by decide +kernel) rfl⟩
theorem mkX0_52 : MKS RX0 52 yJ9_max_7cf53 cJ9_max_7cf53 2 (some (.int)) 2 := ⟨⟨lg_m 391 (by decide +kernel) rfl, lg_m 119 (by decide +kernel) rfl, lg_m 72 (by decide +kernel) rfl, by decide +kernel, by decide +kernel, by decide +kernel⟩, lg_m 118 (by decide +kernel) rfl⟩
theorem mkX0_55 : MKS RX0 55 yJ9_floorMod_7cf53 cJ9_floorMod_7cf53 3 (some (.int)) 2 := ⟨⟨lg_m 392 (by decide +kernel) rfl, lg_m 394 (by decide +kernel) rfl, lg_m 72 (by decide +kernel) rfl, by decide +kernel, by decide +kernel, by decide +kernel⟩, lg_m 393 (by decide +kernel) rfl⟩
theorem mkX8_97 : MKV RX8 97 yX2_behindAt cX2_behindAt 2 (some (.int)) 1 2 := ⟨⟨lg_m 395 (by decide +kernel) rfl, lg_m 398 (by decide +kernel) rfl, lg_m 69 (by decide +kernel) rfl, by decide +kernel, by decide +kernel, by decide +kernel⟩, lg_m 396 (by decide +kernel) rfl, lg_m 397 (by decide +kernel) rfl, _, _, rfl⟩
theorem mkX2_83 : MKV RX2 83 yX2_leavesAt cX2_leavesAt 6 (some (.int)) 1 2 := ⟨⟨lg_m 399 (by decide +kernel) rfl, lg_m 402 (by decide +kernel) rfl, lg_m 69 (by decide +kernel) rfl, by decide +kernel, by decide +kernel, by decide +kernel⟩, lg_m 401 (by decide +kernel) rfl, lg_m 2 (by decide +kernel) rfl, _, _, rfl⟩
theorem mkX8_100 : MKV RX8 100 yX2_bluntsAt cX2_bluntsAt 5 (some (.int)) 1 2 := ⟨⟨lg_m 403 (by decide +kernel) rfl, lg_m 406 (by decide +kernel) rfl, lg_m 69 (by decide +kernel) rfl, by decide +kernel, by decide +kernel, by decide +kernel⟩, lg_m 404 (by decide +kernel) rfl, lg_m 405 (by decide +kernel) rfl, _, _, rfl⟩
theorem mkL_23 : MKV RL 23 yX8_become cX8_become 4 (some (.int)) 2 8 := ⟨⟨lg_m 407 (by decide +kernel) rfl, lg_m 410 (by decide +kernel) rfl, lg_m 67 (by decide +kernel) rfl, by decide +kernel, by decide +kernel, by decide +kernel⟩, lg_m 408 (by decide +kernel) rfl, lg_m 409 (by decide +kernel) rfl, _, _, rfl⟩
theorem mkL_27 : MKV RL 27 yX8_as cX8_as 3 (some (.int)) 2 8 := ⟨⟨lg_m 411 (by decide +kernel) rfl, lg_m 414 (by decide +kernel) rfl, lg_m 67 (by decide +kernel) rfl, by decide +kernel, by decide +kernel, by decide +kernel⟩, lg_m 412 (by decide +kernel) rfl, lg_m 413 (by decide +kernel) rfl, _, _, rfl⟩
theorem mkX8_103 : MKS RX8 103 yX8_isOfKind cX8_isOfKind 3 (some (.boolean)) 2 := ⟨⟨lg_m 415 (by decide +kernel) rfl, lg_m 417 (by decide +kernel) rfl, lg_m 67 (by decide +kernel) rfl, by decide +kernel, by decide +kernel, by decide +kernel⟩, lg_m 416 (by decide +kernel) rfl⟩
theorem mkL_31 : MKV RL 31 yX8_past cX8_past 4 (some (.int)) 2 8 := ⟨⟨lg_m 420 (by decide +kernel) rfl, lg_m 423 (by decide +kernel) rfl, lg_m 67 (by decide +kernel) rfl, by decide +kernel, by decide +kernel, by decide +kernel⟩, lg_m 421 (by decide +kernel) rfl, lg_m 422 (by decide +kernel) rfl, _, _, rfl⟩
theorem mkX8_107 : MKV RX8 107 yX2_putPast cX2_putPast 3 none 2 2 := ⟨⟨lg_m 424 (by decide +kernel) rfl, lg_m 427 (by decide +kernel) rfl, lg_m 69 (by decide +kernel) rfl, by decide +kernel, by decide +kernel, by decide +kernel⟩, lg_m 425 (by decide +kernel) rfl, lg_m 426 (by decide +kernel) rfl, _, _, rfl⟩
theorem mkL_35 : MKV RL 35 yX8_goes cX8_goes 3 (some (.int)) 1 8 := ⟨⟨lg_m 428 (by decide +kernel) rfl, lg_m 431 (by decide +kernel) rfl, lg_m 67 (by decide +kernel) rfl, by decide +kernel, by decide +kernel, by decide +kernel⟩, lg_m 429 (by decide +kernel) rfl, lg_m 430 (by decide +kernel) rfl, _, _, rfl⟩
theorem mkL_39 : MKV RL 39 yX8_set cX8_set 3 (some (.int)) 2 8 := ⟨⟨lg_m 432 (by decide +kernel) rfl, lg_m 435 (by decide +kernel) rfl, lg_m 67 (by decide +kernel) rfl, by decide +kernel, by decide +kernel, by decide +kernel⟩, lg_m 433 (by decide +kernel) rfl, lg_m 434 (by decide +kernel) rfl, _, _, rfl⟩
theorem mkX8_114 : MKV RX8 114 yX8_becomeView cX8_becomeView 3 (some (.int)) 1 8 := ⟨⟨lg_m 436 (by decide +kernel) rfl, lg_m 439 (by decide +kernel) rfl, lg_m 67 (by decide +kernel) rfl, by decide +kernel, by decide +kernel, by decide +kernel⟩, lg_m 438 (by decide +kernel) rfl, lg_m 3 (by decide +kernel) rfl, _, _, rfl⟩
theorem mkX8_117 : MKV RX8 117 yX8_becomeSharp cX8_becomeSharp 3 (some (.int)) 1 8 := ⟨⟨lg_m 440 (by decide +kernel) rfl, lg_m 443 (by decide +kernel) rfl, lg_m 67 (by decide +kernel) rfl, by decide +kernel, by decide +kernel, by decide +kernel⟩, lg_m 442 (by decide +kernel) rfl, lg_m 4 (by decide +kernel) rfl, _, _, rfl⟩
theorem mkX8_120 : MKV RX8 120 yX8_becomeSteel cX8_becomeSteel 3 (some (.int)) 1 8 := ⟨⟨lg_m 444 (by decide +kernel) rfl, lg_m 447 (by decide +kernel) rfl, lg_m 67 (by decide +kernel) rfl, by decide +kernel, by decide +kernel, by decide +kernel⟩, lg_m 446 (by decide +kernel) rfl, lg_m 5 (by decide +kernel) rfl, _, _, rfl⟩
theorem mkL_43 : MKV RL 43 yX8_hears cX8_hears 4 (some (.int)) 2 8 := ⟨⟨lg_m 448 (by decide +kernel) rfl, lg_m 451 (by decide +kernel) rfl, lg_m 67 (by decide +kernel) rfl, by decide +kernel, by decide +kernel, by decide +kernel⟩, lg_m 449 (by decide +kernel) rfl, lg_m 450 (by decide +kernel) rfl, _, _, rfl⟩
theorem mkL_49 : MKV RL 49 yX8_feed cX8_feed 5 (some (.int)) 2 8 := ⟨⟨lg_m 452 (by decide +kernel) rfl, lg_m 455 (by decide +kernel) rfl, lg_m 67 (by decide +kernel) rfl, by decide +kernel, by decide +kernel, by decide +kernel⟩, lg_m 453 (by decide +kernel) rfl, lg_m 454 (by decide +kernel) rfl, _, _, rfl⟩
theorem mkX8_132 : MKV RX8 132 yX3_add cX3_add 2 none 1 3 := ⟨⟨lg_m 456 (by decide +kernel) rfl, lg_m 459 (by decide +kernel) rfl, lg_m 71 (by decide +kernel) rfl, by decide +kernel, by decide +kernel, by decide +kernel⟩, lg_m 457 (by decide +kernel) rfl, lg_m 458 (by decide +kernel) rfl, _, _, rfl⟩
theorem mkL_54 : MKV RL 54 yX8_text cX8_text 3 (some (.int)) 1 8 := ⟨⟨lg_m 460 (by decide +kernel) rfl, lg_m 463 (by decide +kernel) rfl, lg_m 67 (by decide +kernel) rfl, by decide +kernel, by decide +kernel, by decide +kernel⟩, lg_m 461 (by decide +kernel) rfl, lg_m 462 (by decide +kernel) rfl, _, _, rfl⟩
theorem mkX8_136 : MKS RX8 136 yX8_isUse cX8_isUse 1 (some (.boolean)) 1 := ⟨⟨lg_m 464 (by decide +kernel) rfl, lg_m 466 (by decide +kernel) rfl, lg_m 67 (by decide +kernel) rfl, by decide +kernel, by decide +kernel, by decide +kernel⟩, lg_m 465 (by decide +kernel) rfl⟩
theorem mkX8_139 : MKV RX8 139 yX1_read cX1_read 3 (some (.int)) 2 1 := ⟨⟨lg_m 467 (by decide +kernel) rfl, lg_m 470 (by decide +kernel) rfl, lg_m 73 (by decide +kernel) rfl, by decide +kernel, by decide +kernel, by decide +kernel⟩, lg_m 468 (by decide +kernel) rfl, lg_m 469 (by decide +kernel) rfl, _, _, rfl⟩
theorem mkX1_40 : MKV RX1 40 yX3_empty cX3_empty 1 none 0 3 := ⟨⟨lg_m 473 (by decide +kernel) rfl, lg_m 476 (by decide +kernel) rfl, lg_m 71 (by decide +kernel) rfl, by decide +kernel, by decide +kernel, by decide +kernel⟩, lg_m 474 (by decide +kernel) rfl, lg_m 475 (by decide +kernel) rfl, _, _, rfl⟩
theorem mkX1_43 : MKV RX1 43 yX1_readT cX1_readT 3 none 1 1 := ⟨⟨lg_m 477 (by decide +kernel) rfl, lg_m 480 (by decide +kernel) rfl, lg_m 73 (by decide +kernel) rfl, by decide +kernel, by decide +kernel, by decide +kernel⟩, lg_m 479 (by decide +kernel) rfl, lg_m 6 (by decide +kernel) rfl, _, _, rfl⟩
theorem mkX1_61 : MKV RX1 61 yX1_readA cX1_readA 3 none 1 1 := ⟨⟨lg_m 481 (by decide +kernel) rfl, lg_m 484 (by decide +kernel) rfl, lg_m 73 (by decide +kernel) rfl, by decide +kernel, by decide +kernel, by decide +kernel⟩, lg_m 483 (by decide +kernel) rfl, lg_m 7 (by decide +kernel) rfl, _, _, rfl⟩
theorem mkX1_71 : MKV RX1 71 yX1_readB cX1_readB 3 none 1 1 := ⟨⟨lg_m 485 (by decide +kernel) rfl, lg_m 488 (by decide +kernel) rfl, lg_m 73 (by decide +kernel) rfl, by decide +kernel, by decide +kernel, by decide +kernel⟩, lg_m 487 (by decide +kernel) rfl, lg_m 8 (by decide +kernel) rfl, _, _, rfl⟩
theorem mkX1_74 : MKV RX1 74 yX1_readS cX1_readS 4 none 1 1 := ⟨⟨lg_m 489 (by decide +kernel) rfl, lg_m 492 (by decide +kernel) rfl, lg_m 73 (by decide +kernel) rfl, by decide +kernel, by decide +kernel, by decide +kernel⟩, lg_m 491 (by decide +kernel) rfl, lg_m 9 (by decide +kernel) rfl, _, _, rfl⟩
theorem mkX1_77 : MKV RX1 77 yX1_readP cX1_readP 4 none 1 1 := ⟨⟨lg_m 493 (by decide +kernel) rfl, lg_m 496 (by decide +kernel) rfl, lg_m 73 (by decide +kernel) rfl, by decide +kernel, by decide +kernel, by decide +kernel⟩, lg_m 495 (by decide +kernel) rfl, lg_m 10 (by decide +kernel) rfl, _, _, rfl⟩
theorem mkX1_80 : MKV RX1 80 yX1_readQ cX1_readQ 2 none 1 1 := ⟨⟨lg_m 497 (by decide +kernel) rfl, lg_m 500 (by decide +kernel) rfl, lg_m 73 (by decide +kernel) rfl, by decide +kernel, by decide +kernel, by decide +kernel⟩, lg_m 499 (by decide +kernel) rfl, lg_m 11 (by decide +kernel) rfl, _, _, rfl⟩
theorem mkX1_83 : MKV RX1 83 yX1_isDigit cX1_isDigit 1 (some (.boolean)) 0 1 := ⟨⟨lg_m 501 (by decide +kernel) rfl, lg_m 504 (by decide +kernel) rfl, lg_m 73 (by decide +kernel) rfl, by decide +kernel, by decide +kernel, by decide +kernel⟩, lg_m 503 (by decide +kernel) rfl, lg_m 12 (by decide +kernel) rfl, _, _, rfl⟩
theorem mkX1_46 : MKV RX1 46 yX1_next cX1_next 1 (some (.int)) 0 1 := ⟨⟨lg_m 505 (by decide +kernel) rfl, lg_m 508 (by decide +kernel) rfl, lg_m 73 (by decide +kernel) rfl, by decide +kernel, by decide +kernel, by decide +kernel⟩, lg_m 507 (by decide +kernel) rfl, lg_m 13 (by decide +kernel) rfl, _, _, rfl⟩
theorem mkX1_53 : MKV RX1 53 yX3_has cX3_has 2 (some (.boolean)) 1 3 := ⟨⟨lg_m 509 (by decide +kernel) rfl, lg_m 512 (by decide +kernel) rfl, lg_m 71 (by decide +kernel) rfl, by decide +kernel, by decide +kernel, by decide +kernel⟩, lg_m 510 (by decide +kernel) rfl, lg_m 511 (by decide +kernel) rfl, _, _, rfl⟩
theorem mkX1_87 : MKV RX1 87 yX1_readNumber cX1_readNumber 3 none 0 1 := ⟨⟨lg_m 513 (by decide +kernel) rfl, lg_m 516 (by decide +kernel) rfl, lg_m 73 (by decide +kernel) rfl, by decide +kernel, by decide +kernel, by decide +kernel⟩, lg_m 515 (by decide +kernel) rfl, lg_m 14 (by decide +kernel) rfl, _, _, rfl⟩
theorem mkX1_68 : MKV RX1 68 yX3_add cX3_add 2 none 1 3 := ⟨⟨lg_m 517 (by decide +kernel) rfl, lg_m 459 (by decide +kernel) rfl, lg_m 71 (by decide +kernel) rfl, by decide +kernel, by decide +kernel, by decide +kernel⟩, lg_m 457 (by decide +kernel) rfl, lg_m 458 (by decide +kernel) rfl, _, _, rfl⟩
theorem mkX1_90 : MKV RX1 90 yX1_nameNext cX1_nameNext 1 (some (.int)) 0 1 := ⟨⟨lg_m 518 (by decide +kernel) rfl, lg_m 521 (by decide +kernel) rfl, lg_m 73 (by decide +kernel) rfl, by decide +kernel, by decide +kernel, by decide +kernel⟩, lg_m 520 (by decide +kernel) rfl, lg_m 15 (by decide +kernel) rfl, _, _, rfl⟩
theorem mkJ0_637 : MKS RJ0 637 yJ1_indexOf_4cfef cJ1_indexOf_4cfef 4 (some (.int)) 4 := ⟨⟨lg_m 544 (by decide +kernel) rfl, lg_m 546 (by decide +kernel) rfl, lg_m 79 (by decide +kernel) rfl, by decide +kernel, by decide +kernel, by decide +kernel⟩, lg_m 545 (by decide +kernel) rfl⟩
theorem mkJ1_88 : MKS RJ1 88 yJ1_canEncode_9a6ad cJ1_canEncode_9a6ad 1 (some (.boolean)) 1 := ⟨⟨lg_m 547 (by decide +kernel) rfl, lg_m 549 (by decide +kernel) rfl, lg_m 79 (by decide +kernel) rfl, by decide +kernel, by decide +kernel, by decide +kernel⟩, lg_m 548 (by decide +kernel) rfl⟩
theorem mkJ1_92 : MKS RJ1 92 yJ9_max_7cf53 cJ9_max_7cf53 2 (some (.int)) 2 := ⟨⟨lg_m 550 (by decide +kernel) rfl, lg_m 119 (by decide +kernel) rfl, lg_m 72 (by decide +kernel) rfl, by decide +kernel, by decide +kernel, by decide +kernel⟩, lg_m 118 (by decide +kernel) rfl⟩
theorem mkJ1_38 : MKS RJ1 38 yJ9_min_7cf53 cJ9_min_7cf53 2 (some (.int)) 2 := ⟨⟨lg_m 551 (by decide +kernel) rfl, lg_m 390 (by decide +kernel) rfl, lg_m 72 (by decide +kernel) rfl, by decide +kernel, by decide +kernel, by decide +kernel⟩, lg_m 389 (by decide +kernel) rfl⟩
theorem mkJ1_95 : MKS RJ1 95 yJ1_indexOfChar_4cfef cJ1_indexOfChar_4cfef 6 (some (.int)) 4 := ⟨⟨lg_m 552 (by decide +kernel) rfl, lg_m 554 (by decide +kernel) rfl, lg_m 79 (by decide +kernel) rfl, by decide +kernel, by decide +kernel, by decide +kernel⟩, lg_m 553 (by decide +kernel) rfl⟩
theorem mkJ0_640 : MKS RJ0 640 yJ2_indexOf_4cfef cJ2_indexOf_4cfef 4 (some (.int)) 4 := ⟨⟨lg_m 555 (by decide +kernel) rfl, lg_m 557 (by decide +kernel) rfl, lg_m 80 (by decide +kernel) rfl, by decide +kernel, by decide +kernel, by decide +kernel⟩, lg_m 556 (by decide +kernel) rfl⟩
theorem mkJ2_224 : MKS RJ2 224 yJ9_max_7cf53 cJ9_max_7cf53 2 (some (.int)) 2 := ⟨⟨lg_m 558 (by decide +kernel) rfl, lg_m 119 (by decide +kernel) rfl, lg_m 72 (by decide +kernel) rfl, by decide +kernel, by decide +kernel, by decide +kernel⟩, lg_m 118 (by decide +kernel) rfl⟩
theorem mkJ2_183 : MKS RJ2 183 yJ9_min_7cf53 cJ9_min_7cf53 2 (some (.int)) 2 := ⟨⟨lg_m 559 (by decide +kernel) rfl, lg_m 390 (by decide +kernel) rfl, lg_m 72 (by decide +kernel) rfl, by decide +kernel, by decide +kernel, by decide +kernel⟩, lg_m 389 (by decide +kernel) rfl⟩
theorem mkJ2_228 : MKS RJ2 228 yJ2_indexOfChar_4cfef cJ2_indexOfChar_4cfef 4 (some (.int)) 4 := ⟨⟨lg_m 561 (by decide +kernel) rfl, lg_m 563 (by decide +kernel) rfl, lg_m 80 (by decide +kernel) rfl, by decide +kernel, by decide +kernel, by decide +kernel⟩, lg_m 562 (by decide +kernel) rfl⟩
theorem mkJ2_96 : MKS RJ2 96 yJ2_checkBoundsBeginEnd_d044e cJ2_checkBoundsBeginEnd_d044e 3 none 3 := ⟨⟨lg_m 564 (by decide +kernel) rfl, lg_m 566 (by decide +kernel) rfl, lg_m 80 (by decide +kernel) rfl, by decide +kernel, by decide +kernel, by decide +kernel⟩, lg_m 565 (by decide +kernel) rfl⟩
theorem mkJ2_48 : MKS RJ2 48 yJ2_length_9d52b cJ2_length_9d52b 1 (some (.int)) 1 := ⟨⟨lg_m 567 (by decide +kernel) rfl, lg_m 569 (by decide +kernel) rfl, lg_m 80 (by decide +kernel) rfl, by decide +kernel, by decide +kernel, by decide +kernel⟩, lg_m 568 (by decide +kernel) rfl⟩
theorem mkJ2_241 : MKS RJ2 241 yJ0_checkBoundsBeginEnd_23922 cJ0_checkBoundsBeginEnd_23922 3 none 3 := ⟨⟨lg_m 570 (by decide +kernel) rfl, lg_m 572 (by decide +kernel) rfl, lg_m 78 (by decide +kernel) rfl, by decide +kernel, by decide +kernel, by decide +kernel⟩, lg_m 571 (by decide +kernel) rfl⟩
theorem mkJ0_1062 : MKS RJ0 1062 yJ3_checkFromToIndex_8c36e cJ3_checkFromToIndex_8c36e 4 (some (.int)) 4 := ⟨⟨lg_m 575 (by decide +kernel) rfl, lg_m 577 (by decide +kernel) rfl, lg_m 81 (by decide +kernel) rfl, by decide +kernel, by decide +kernel, by decide +kernel⟩, lg_m 576 (by decide +kernel) rfl⟩
theorem mkJ2_244 : MKS RJ2 244 yJ2_indexOfCharUnsafe_4cfef cJ2_indexOfCharUnsafe_4cfef 5 (some (.int)) 4 := ⟨⟨lg_m 578 (by decide +kernel) rfl, lg_m 580 (by decide +kernel) rfl, lg_m 80 (by decide +kernel) rfl, by decide +kernel, by decide +kernel, by decide +kernel⟩, lg_m 579 (by decide +kernel) rfl⟩
theorem mkJ2_71 : MKS RJ2 71 yJ2_getChar_3b067 cJ2_getChar_3b067 2 (some (.char)) 2 := ⟨⟨lg_m 581 (by decide +kernel) rfl, lg_m 583 (by decide +kernel) rfl, lg_m 80 (by decide +kernel) rfl, by decide +kernel, by decide +kernel, by decide +kernel⟩, lg_m 582 (by decide +kernel) rfl⟩
theorem mkJ2_232 : MKS RJ2 232 yJ2_indexOfSupplementary_4cfef cJ2_indexOfSupplementary_4cfef 7 (some (.int)) 4 := ⟨⟨lg_m 590 (by decide +kernel) rfl, lg_m 592 (by decide +kernel) rfl, lg_m 80 (by decide +kernel) rfl, by decide +kernel, by decide +kernel, by decide +kernel⟩, lg_m 591 (by decide +kernel) rfl⟩
theorem mkJ2_164 : MKS RJ2 164 yJ11_isValidCodePoint_9a6ad cJ11_isValidCodePoint_9a6ad 2 (some (.boolean)) 1 := ⟨⟨lg_m 593 (by decide +kernel) rfl, lg_m 595 (by decide +kernel) rfl, lg_m 82 (by decide +kernel) rfl, by decide +kernel, by decide +kernel, by decide +kernel⟩, lg_m 594 (by decide +kernel) rfl⟩
theorem mkJ2_157 : MKS RJ2 157 yJ11_highSurrogate_5068e cJ11_highSurrogate_5068e 1 (some (.char)) 1 := ⟨⟨lg_m 596 (by decide +kernel) rfl, lg_m 598 (by decide +kernel) rfl, lg_m 82 (by decide +kernel) rfl, by decide +kernel, by decide +kernel, by decide +kernel⟩, lg_m 597 (by decide +kernel) rfl⟩
theorem mkJ2_161 : MKS RJ2 161 yJ11_lowSurrogate_5068e cJ11_lowSurrogate_5068e 1 (some (.char)) 1 := ⟨⟨lg_m 600 (by decide +kernel) rfl, lg_m 602 (by decide +kernel) rfl, lg_m 82 (by decide +kernel) rfl, by decide +kernel, by decide +kernel, by decide +kernel⟩, lg_m 601 (by decide +kernel) rfl⟩
theorem mkX1_64 : MKV RX1 64 yX1_isNext cX1_isNext 2 (some (.boolean)) 1 1 := ⟨⟨lg_m 604 (by decide +kernel) rfl, lg_m 607 (by decide +kernel) rfl, lg_m 73 (by decide +kernel) rfl, by decide +kernel, by decide +kernel, by decide +kernel⟩, lg_m 606 (by decide +kernel) rfl, lg_m 16 (by decide +kernel) rfl, _, _, rfl⟩
theorem mkX1_95 : MKV RX1 95 yX1_readNot cX1_readNot 2 none 1 1 := ⟨⟨lg_m 608 (by decide +kernel) rfl, lg_m 611 (by decide +kernel) rfl, lg_m 73 (by decide +kernel) rfl, by decide +kernel, by decide +kernel, by decide +kernel⟩, lg_m 610 (by decide +kernel) rfl, lg_m 17 (by decide +kernel) rfl, _, _, rfl⟩
theorem mkX1_98 : MKV RX1 98 yX1_readInner cX1_readInner 2 none 1 1 := ⟨⟨lg_m 612 (by decide +kernel) rfl, lg_m 615 (by decide +kernel) rfl, lg_m 73 (by decide +kernel) rfl, by decide +kernel, by decide +kernel, by decide +kernel⟩, lg_m 614 (by decide +kernel) rfl, lg_m 18 (by decide +kernel) rfl, _, _, rfl⟩
theorem mkX1_50 : MKV RX1 50 yX1_fail cX1_fail 1 none 0 1 := ⟨⟨lg_m 616 (by decide +kernel) rfl, lg_m 619 (by decide +kernel) rfl, lg_m 73 (by decide +kernel) rfl, by decide +kernel, by decide +kernel, by decide +kernel⟩, lg_m 618 (by decide +kernel) rfl, lg_m 19 (by decide +kernel) rfl, _, _, rfl⟩
theorem mkX8_143 : MKV RX8 143 yX3_empty cX3_empty 1 none 0 3 := ⟨⟨lg_m 620 (by decide +kernel) rfl, lg_m 476 (by decide +kernel) rfl, lg_m 71 (by decide +kernel) rfl, by decide +kernel, by decide +kernel, by decide +kernel⟩, lg_m 474 (by decide +kernel) rfl, lg_m 475 (by decide +kernel) rfl, _, _, rfl⟩
theorem mkX8_146 : MKV RX8 146 yX2_lawOf cX2_lawOf 2 (some ((.object "LoanedRound$Law"))) 1 2 := ⟨⟨lg_m 621 (by decide +kernel) rfl, lg_m 624 (by decide +kernel) rfl, lg_m 69 (by decide +kernel) rfl, by decide +kernel, by decide +kernel, by decide +kernel⟩, lg_m 622 (by decide +kernel) rfl, lg_m 623 (by decide +kernel) rfl, _, _, rfl⟩
theorem mkX8_153 : MKV RX8 153 yX0_takeSteps cX0_takeSteps 2 none 1 0 := ⟨⟨lg_m 625 (by decide +kernel) rfl, lg_m 628 (by decide +kernel) rfl, lg_m 70 (by decide +kernel) rfl, by decide +kernel, by decide +kernel, by decide +kernel⟩, lg_m 626 (by decide +kernel) rfl, lg_m 627 (by decide +kernel) rfl, _, _, rfl⟩
theorem mkX0_28 : MKV RX0 28 yX3_takeOver cX3_takeOver 2 none 1 3 := ⟨⟨lg_m 629 (by decide +kernel) rfl, lg_m 632 (by decide +kernel) rfl, lg_m 71 (by decide +kernel) rfl, by decide +kernel, by decide +kernel, by decide +kernel⟩, lg_m 630 (by decide +kernel) rfl, lg_m 631 (by decide +kernel) rfl, _, _, rfl⟩
theorem mkX3_23 : MKS RX3 23 yJ9_min_7cf53 cJ9_min_7cf53 2 (some (.int)) 2 := ⟨⟨lg_m 633 (by decide +kernel) rfl, lg_m 390 (by decide +kernel) rfl, lg_m 72 (by decide +kernel) rfl, by decide +kernel, by decide +kernel, by decide +kernel⟩, lg_m 389 (by decide +kernel) rfl⟩
theorem mkL_58 : MKV RL 58 yX8_untell cX8_untell 4 (some (.int)) 1 8 := ⟨⟨lg_m 637 (by decide +kernel) rfl, lg_m 640 (by decide +kernel) rfl, lg_m 67 (by decide +kernel) rfl, by decide +kernel, by decide +kernel, by decide +kernel⟩, lg_m 638 (by decide +kernel) rfl, lg_m 639 (by decide +kernel) rfl, _, _, rfl⟩
theorem mkL_62 : MKV RL 62 yX8_law cX8_law 5 (some (.int)) 4 8 := ⟨⟨lg_m 641 (by decide +kernel) rfl, lg_m 644 (by decide +kernel) rfl, lg_m 67 (by decide +kernel) rfl, by decide +kernel, by decide +kernel, by decide +kernel⟩, lg_m 642 (by decide +kernel) rfl, lg_m 643 (by decide +kernel) rfl, _, _, rfl⟩
theorem mkX8_160 : MKV RX8 160 yX0_gives cX0_gives 7 (some (.int)) 3 0 := ⟨⟨lg_m 645 (by decide +kernel) rfl, lg_m 381 (by decide +kernel) rfl, lg_m 70 (by decide +kernel) rfl, by decide +kernel, by decide +kernel, by decide +kernel⟩, lg_m 379 (by decide +kernel) rfl, lg_m 380 (by decide +kernel) rfl, _, _, rfl⟩
theorem mkL_67 : MKV RL 67 yX8_days cX8_days 2 (some (.int)) 1 8 := ⟨⟨lg_m 646 (by decide +kernel) rfl, lg_m 649 (by decide +kernel) rfl, lg_m 67 (by decide +kernel) rfl, by decide +kernel, by decide +kernel, by decide +kernel⟩, lg_m 647 (by decide +kernel) rfl, lg_m 648 (by decide +kernel) rfl, _, _, rfl⟩
theorem mkX8_167 : MKV RX8 167 yX2_passDays cX2_passDays 3 none 1 2 := ⟨⟨lg_m 650 (by decide +kernel) rfl, lg_m 653 (by decide +kernel) rfl, lg_m 69 (by decide +kernel) rfl, by decide +kernel, by decide +kernel, by decide +kernel⟩, lg_m 651 (by decide +kernel) rfl, lg_m 652 (by decide +kernel) rfl, _, _, rfl⟩
theorem mkX2_86 : MKV RX2 86 yX2_hear cX2_hear 1 none 0 2 := ⟨⟨lg_m 654 (by decide +kernel) rfl, lg_m 657 (by decide +kernel) rfl, lg_m 69 (by decide +kernel) rfl, by decide +kernel, by decide +kernel, by decide +kernel⟩, lg_m 655 (by decide +kernel) rfl, lg_m 656 (by decide +kernel) rfl, _, _, rfl⟩
theorem mkX2_92 : MKV RX2 92 yX2_has cX2_has 2 (some (.boolean)) 1 2 := ⟨⟨lg_m 658 (by decide +kernel) rfl, lg_m 365 (by decide +kernel) rfl, lg_m 69 (by decide +kernel) rfl, by decide +kernel, by decide +kernel, by decide +kernel⟩, lg_m 363 (by decide +kernel) rfl, lg_m 364 (by decide +kernel) rfl, _, _, rfl⟩
theorem mkX2_96 : MKV RX2 96 yX2_saidAt cX2_saidAt 2 (some (.int)) 1 2 := ⟨⟨lg_m 659 (by decide +kernel) rfl, lg_m 373 (by decide +kernel) rfl, lg_m 69 (by decide +kernel) rfl, by decide +kernel, by decide +kernel, by decide +kernel⟩, lg_m 371 (by decide +kernel) rfl, lg_m 372 (by decide +kernel) rfl, _, _, rfl⟩
theorem mkX2_99 : MKS RX2 99 yJ9_min_7cf53 cJ9_min_7cf53 2 (some (.int)) 2 := ⟨⟨lg_m 660 (by decide +kernel) rfl, lg_m 390 (by decide +kernel) rfl, lg_m 72 (by decide +kernel) rfl, by decide +kernel, by decide +kernel, by decide +kernel⟩, lg_m 389 (by decide +kernel) rfl⟩
theorem mkX2_89 : MKV RX2 89 yX2_carryOn cX2_carryOn 2 none 0 2 := ⟨⟨lg_m 661 (by decide +kernel) rfl, lg_m 664 (by decide +kernel) rfl, lg_m 69 (by decide +kernel) rfl, by decide +kernel, by decide +kernel, by decide +kernel⟩, lg_m 662 (by decide +kernel) rfl, lg_m 663 (by decide +kernel) rfl, _, _, rfl⟩
theorem mkX2_105 : MKV RX2 105 yX2_behindAt cX2_behindAt 2 (some (.int)) 1 2 := ⟨⟨lg_m 665 (by decide +kernel) rfl, lg_m 398 (by decide +kernel) rfl, lg_m 69 (by decide +kernel) rfl, by decide +kernel, by decide +kernel, by decide +kernel⟩, lg_m 396 (by decide +kernel) rfl, lg_m 397 (by decide +kernel) rfl, _, _, rfl⟩
theorem mkX2_108 : MKV RX2 108 yX2_bluntsAt cX2_bluntsAt 5 (some (.int)) 1 2 := ⟨⟨lg_m 666 (by decide +kernel) rfl, lg_m 406 (by decide +kernel) rfl, lg_m 69 (by decide +kernel) rfl, by decide +kernel, by decide +kernel, by decide +kernel⟩, lg_m 404 (by decide +kernel) rfl, lg_m 405 (by decide +kernel) rfl, _, _, rfl⟩
theorem mkX2_111 : MKS RX2 111 yJ9_max_7cf53 cJ9_max_7cf53 2 (some (.int)) 2 := ⟨⟨lg_m 667 (by decide +kernel) rfl, lg_m 119 (by decide +kernel) rfl, lg_m 72 (by decide +kernel) rfl, by decide +kernel, by decide +kernel, by decide +kernel⟩, lg_m 118 (by decide +kernel) rfl⟩
theorem mkX2_114 : MKV RX2 114 yX2_nextPlace cX2_nextPlace 3 (some (.int)) 0 2 := ⟨⟨lg_m 668 (by decide +kernel) rfl, lg_m 671 (by decide +kernel) rfl, lg_m 69 (by decide +kernel) rfl, by decide +kernel, by decide +kernel, by decide +kernel⟩, lg_m 670 (by decide +kernel) rfl, lg_m 20 (by decide +kernel) rfl, _, _, rfl⟩
theorem mkX2_118 : MKV RX2 118 yX2_pastAt cX2_pastAt 2 (some (.int)) 1 2 := ⟨⟨lg_m 672 (by decide +kernel) rfl, lg_m 369 (by decide +kernel) rfl, lg_m 69 (by decide +kernel) rfl, by decide +kernel, by decide +kernel, by decide +kernel⟩, lg_m 367 (by decide +kernel) rfl, lg_m 368 (by decide +kernel) rfl, _, _, rfl⟩
theorem mkL_71 : MKV RL 71 yX8_loose cX8_loose 3 (some (.int)) 1 8 := ⟨⟨lg_m 673 (by decide +kernel) rfl, lg_m 676 (by decide +kernel) rfl, lg_m 67 (by decide +kernel) rfl, by decide +kernel, by decide +kernel, by decide +kernel⟩, lg_m 674 (by decide +kernel) rfl, lg_m 675 (by decide +kernel) rfl, _, _, rfl⟩
theorem mkX8_173 : MKV RX8 173 yX2_drawPlace cX2_drawPlace 1 none 0 2 := ⟨⟨lg_m 677 (by decide +kernel) rfl, lg_m 680 (by decide +kernel) rfl, lg_m 69 (by decide +kernel) rfl, by decide +kernel, by decide +kernel, by decide +kernel⟩, lg_m 678 (by decide +kernel) rfl, lg_m 679 (by decide +kernel) rfl, _, _, rfl⟩
theorem mkL_75 : MKV RL 75 yX8_day cX8_day 3 (some (.int)) 1 8 := ⟨⟨lg_m 682 (by decide +kernel) rfl, lg_m 685 (by decide +kernel) rfl, lg_m 67 (by decide +kernel) rfl, by decide +kernel, by decide +kernel, by decide +kernel⟩, lg_m 683 (by decide +kernel) rfl, lg_m 684 (by decide +kernel) rfl, _, _, rfl⟩
theorem mkL_79 : MKV RL 79 yX8_seed cX8_seed 3 (some (.int)) 1 8 := ⟨⟨lg_m 686 (by decide +kernel) rfl, lg_m 689 (by decide +kernel) rfl, lg_m 67 (by decide +kernel) rfl, by decide +kernel, by decide +kernel, by decide +kernel⟩, lg_m 687 (by decide +kernel) rfl, lg_m 688 (by decide +kernel) rfl, _, _, rfl⟩
theorem mkL_83 : MKV RL 83 yX8_then cX8_then 4 (some (.int)) 2 8 := ⟨⟨lg_m 690 (by decide +kernel) rfl, lg_m 693 (by decide +kernel) rfl, lg_m 67 (by decide +kernel) rfl, by decide +kernel, by decide +kernel, by decide +kernel⟩, lg_m 691 (by decide +kernel) rfl, lg_m 692 (by decide +kernel) rfl, _, _, rfl⟩
theorem mkX8_179 : MKV RX8 179 yX6_daysOn cX6_daysOn 3 (some ((.object "LoanedRound$Round"))) 2 6 := ⟨⟨lg_m 694 (by decide +kernel) rfl, lg_m 697 (by decide +kernel) rfl, lg_m 74 (by decide +kernel) rfl, by decide +kernel, by decide +kernel, by decide +kernel⟩, lg_m 695 (by decide +kernel) rfl, lg_m 696 (by decide +kernel) rfl, _, _, rfl⟩
theorem mkX6_25 : MKV RX6 25 yX2_takeOver cX2_takeOver 2 none 1 2 := ⟨⟨lg_m 698 (by decide +kernel) rfl, lg_m 701 (by decide +kernel) rfl, lg_m 69 (by decide +kernel) rfl, by decide +kernel, by decide +kernel, by decide +kernel⟩, lg_m 699 (by decide +kernel) rfl, lg_m 700 (by decide +kernel) rfl, _, _, rfl⟩
theorem mkX2_65 : MKV RX2 65 yX0_takeSteps cX0_takeSteps 2 none 1 0 := ⟨⟨lg_m 702 (by decide +kernel) rfl, lg_m 628 (by decide +kernel) rfl, lg_m 70 (by decide +kernel) rfl, by decide +kernel, by decide +kernel, by decide +kernel⟩, lg_m 626 (by decide +kernel) rfl, lg_m 627 (by decide +kernel) rfl, _, _, rfl⟩
theorem mkX6_29 : MKV RX6 29 yX2_passDays cX2_passDays 3 none 1 2 := ⟨⟨lg_m 704 (by decide +kernel) rfl, lg_m 653 (by decide +kernel) rfl, lg_m 69 (by decide +kernel) rfl, by decide +kernel, by decide +kernel, by decide +kernel⟩, lg_m 651 (by decide +kernel) rfl, lg_m 652 (by decide +kernel) rfl, _, _, rfl⟩
theorem mkX8_186 : MKV RX8 186 yX2_heardTogether cX2_heardTogether 3 (some (.int)) 0 2 := ⟨⟨lg_m 705 (by decide +kernel) rfl, lg_m 708 (by decide +kernel) rfl, lg_m 69 (by decide +kernel) rfl, by decide +kernel, by decide +kernel, by decide +kernel⟩, lg_m 706 (by decide +kernel) rfl, lg_m 707 (by decide +kernel) rfl, _, _, rfl⟩
theorem mkL_87 : MKV RL 87 yX8_soonest cX8_soonest 4 (some (.int)) 2 8 := ⟨⟨lg_m 709 (by decide +kernel) rfl, lg_m 712 (by decide +kernel) rfl, lg_m 67 (by decide +kernel) rfl, by decide +kernel, by decide +kernel, by decide +kernel⟩, lg_m 710 (by decide +kernel) rfl, lg_m 711 (by decide +kernel) rfl, _, _, rfl⟩
theorem mkX8_190 : MKV RX8 190 yX6_daysUntil cX6_daysUntil 5 (some (.int)) 3 6 := ⟨⟨lg_m 713 (by decide +kernel) rfl, lg_m 716 (by decide +kernel) rfl, lg_m 74 (by decide +kernel) rfl, by decide +kernel, by decide +kernel, by decide +kernel⟩, lg_m 714 (by decide +kernel) rfl, lg_m 715 (by decide +kernel) rfl, _, _, rfl⟩
theorem mkX6_37 : MKV RX6 37 yX2_passDaysFor cX2_passDaysFor 4 none 2 2 := ⟨⟨lg_m 717 (by decide +kernel) rfl, lg_m 720 (by decide +kernel) rfl, lg_m 69 (by decide +kernel) rfl, by decide +kernel, by decide +kernel, by decide +kernel⟩, lg_m 718 (by decide +kernel) rfl, lg_m 719 (by decide +kernel) rfl, _, _, rfl⟩
theorem mkL_91 : MKV RL 91 yX8_startFor cX8_startFor 4 (some (.int)) 3 8 := ⟨⟨lg_m 721 (by decide +kernel) rfl, lg_m 724 (by decide +kernel) rfl, lg_m 67 (by decide +kernel) rfl, by decide +kernel, by decide +kernel, by decide +kernel⟩, lg_m 722 (by decide +kernel) rfl, lg_m 723 (by decide +kernel) rfl, _, _, rfl⟩
theorem mkX8_194 : MKV RX8 194 yX6_seekStart cX6_seekStart 5 none 3 6 := ⟨⟨lg_m 725 (by decide +kernel) rfl, lg_m 728 (by decide +kernel) rfl, lg_m 74 (by decide +kernel) rfl, by decide +kernel, by decide +kernel, by decide +kernel⟩, lg_m 726 (by decide +kernel) rfl, lg_m 727 (by decide +kernel) rfl, _, _, rfl⟩
theorem mkL_96 : MKV RL 96 yX8_swapFor cX8_swapFor 3 (some (.int)) 2 8 := ⟨⟨lg_m 729 (by decide +kernel) rfl, lg_m 732 (by decide +kernel) rfl, lg_m 67 (by decide +kernel) rfl, by decide +kernel, by decide +kernel, by decide +kernel⟩, lg_m 730 (by decide +kernel) rfl, lg_m 731 (by decide +kernel) rfl, _, _, rfl⟩
theorem mkX8_204 : MKV RX8 204 yX6_seekSwap cX6_seekSwap 6 none 2 6 := ⟨⟨lg_m 733 (by decide +kernel) rfl, lg_m 736 (by decide +kernel) rfl, lg_m 74 (by decide +kernel) rfl, by decide +kernel, by decide +kernel, by decide +kernel⟩, lg_m 734 (by decide +kernel) rfl, lg_m 735 (by decide +kernel) rfl, _, _, rfl⟩
theorem mkX6_47 : MKV RX6 47 yX2_heardTogether cX2_heardTogether 3 (some (.int)) 0 2 := ⟨⟨lg_m 737 (by decide +kernel) rfl, lg_m 708 (by decide +kernel) rfl, lg_m 69 (by decide +kernel) rfl, by decide +kernel, by decide +kernel, by decide +kernel⟩, lg_m 706 (by decide +kernel) rfl, lg_m 707 (by decide +kernel) rfl, _, _, rfl⟩
theorem mkX6_51 : MKV RX6 51 yX2_changePlaces cX2_changePlaces 4 none 2 2 := ⟨⟨lg_m 738 (by decide +kernel) rfl, lg_m 741 (by decide +kernel) rfl, lg_m 69 (by decide +kernel) rfl, by decide +kernel, by decide +kernel, by decide +kernel⟩, lg_m 739 (by decide +kernel) rfl, lg_m 740 (by decide +kernel) rfl, _, _, rfl⟩
theorem mkX2_134 : MKS RX2 134 yX2_changeNumbers cX2_changeNumbers 4 none 3 := ⟨⟨lg_m 742 (by decide +kernel) rfl, lg_m 744 (by decide +kernel) rfl, lg_m 69 (by decide +kernel) rfl, by decide +kernel, by decide +kernel, by decide +kernel⟩, lg_m 743 (by decide +kernel) rfl⟩
theorem mkX2_138 : MKV RX2 138 yX2_putPast cX2_putPast 3 none 2 2 := ⟨⟨lg_m 745 (by decide +kernel) rfl, lg_m 427 (by decide +kernel) rfl, lg_m 69 (by decide +kernel) rfl, by decide +kernel, by decide +kernel, by decide +kernel⟩, lg_m 425 (by decide +kernel) rfl, lg_m 426 (by decide +kernel) rfl, _, _, rfl⟩
theorem mkL_100 : MKV RL 100 yX8_spare cX8_spare 4 (some (.int)) 2 8 := ⟨⟨lg_m 746 (by decide +kernel) rfl, lg_m 749 (by decide +kernel) rfl, lg_m 67 (by decide +kernel) rfl, by decide +kernel, by decide +kernel, by decide +kernel⟩, lg_m 747 (by decide +kernel) rfl, lg_m 748 (by decide +kernel) rfl, _, _, rfl⟩
theorem mkX8_208 : MKV RX8 208 yX6_fewestPast cX6_fewestPast 7 (some (.int)) 3 6 := ⟨⟨lg_m 750 (by decide +kernel) rfl, lg_m 753 (by decide +kernel) rfl, lg_m 74 (by decide +kernel) rfl, by decide +kernel, by decide +kernel, by decide +kernel⟩, lg_m 751 (by decide +kernel) rfl, lg_m 752 (by decide +kernel) rfl, _, _, rfl⟩
theorem mkX6_54 : MKS RX6 54 yJ6_bitCount_0f7a4 cJ6_bitCount_0f7a4 1 (some (.int)) 1 := ⟨⟨lg_m 754 (by decide +kernel) rfl, lg_m 756 (by decide +kernel) rfl, lg_m 84 (by decide +kernel) rfl, by decide +kernel, by decide +kernel, by decide +kernel⟩, lg_m 755 (by decide +kernel) rfl⟩
theorem mkX6_63 : MKV RX6 63 yX6_viewWithout cX6_viewWithout 5 (some (.int)) 3 6 := ⟨⟨lg_m 760 (by decide +kernel) rfl, lg_m 763 (by decide +kernel) rfl, lg_m 74 (by decide +kernel) rfl, by decide +kernel, by decide +kernel, by decide +kernel⟩, lg_m 762 (by decide +kernel) rfl, lg_m 21 (by decide +kernel) rfl, _, _, rfl⟩
theorem mkX6_67 : MKV RX6 67 yX2_carryOn cX2_carryOn 2 none 0 2 := ⟨⟨lg_m 764 (by decide +kernel) rfl, lg_m 664 (by decide +kernel) rfl, lg_m 69 (by decide +kernel) rfl, by decide +kernel, by decide +kernel, by decide +kernel⟩, lg_m 662 (by decide +kernel) rfl, lg_m 663 (by decide +kernel) rfl, _, _, rfl⟩
theorem mkL_104 : MKV RL 104 yX8_odds cX8_odds 8 (some (.int)) 4 8 := ⟨⟨lg_m 765 (by decide +kernel) rfl, lg_m 768 (by decide +kernel) rfl, lg_m 67 (by decide +kernel) rfl, by decide +kernel, by decide +kernel, by decide +kernel⟩, lg_m 766 (by decide +kernel) rfl, lg_m 767 (by decide +kernel) rfl, _, _, rfl⟩
theorem mkX8_211 : MKV RX8 211 yX6_likelyViews cX6_likelyViews 7 (some (.int)) 4 6 := ⟨⟨lg_m 769 (by decide +kernel) rfl, lg_m 772 (by decide +kernel) rfl, lg_m 74 (by decide +kernel) rfl, by decide +kernel, by decide +kernel, by decide +kernel⟩, lg_m 770 (by decide +kernel) rfl, lg_m 771 (by decide +kernel) rfl, _, _, rfl⟩
theorem mkX8_215 : MKS RX8 215 yX8_greatestShared cX8_greatestShared 3 (some (.int)) 2 := ⟨⟨lg_m 773 (by decide +kernel) rfl, lg_m 775 (by decide +kernel) rfl, lg_m 67 (by decide +kernel) rfl, by decide +kernel, by decide +kernel, by decide +kernel⟩, lg_m 774 (by decide +kernel) rfl⟩
theorem mkL_108 : MKV RL 108 yX8_fits cX8_fits 4 (some (.int)) 2 8 := ⟨⟨lg_m 776 (by decide +kernel) rfl, lg_m 779 (by decide +kernel) rfl, lg_m 67 (by decide +kernel) rfl, by decide +kernel, by decide +kernel, by decide +kernel⟩, lg_m 777 (by decide +kernel) rfl, lg_m 778 (by decide +kernel) rfl, _, _, rfl⟩
theorem mkX8_219 : MKS RX8 219 yX8_isSheet cX8_isSheet 1 (some (.boolean)) 1 := ⟨⟨lg_m 780 (by decide +kernel) rfl, lg_m 782 (by decide +kernel) rfl, lg_m 67 (by decide +kernel) rfl, by decide +kernel, by decide +kernel, by decide +kernel⟩, lg_m 781 (by decide +kernel) rfl⟩
theorem mkX8_222 : MKV RX8 222 yX4_isMissing cX4_isMissing 1 (some (.boolean)) 0 4 := ⟨⟨lg_m 783 (by decide +kernel) rfl, lg_m 786 (by decide +kernel) rfl, lg_m 76 (by decide +kernel) rfl, by decide +kernel, by decide +kernel, by decide +kernel⟩, lg_m 784 (by decide +kernel) rfl, lg_m 785 (by decide +kernel) rfl, _, _, rfl⟩
theorem mkX8_229 : MKV RX8 229 yX6_placesThatFit cX6_placesThatFit 5 (some (.int)) 2 6 := ⟨⟨lg_m 787 (by decide +kernel) rfl, lg_m 790 (by decide +kernel) rfl, lg_m 74 (by decide +kernel) rfl, by decide +kernel, by decide +kernel, by decide +kernel⟩, lg_m 788 (by decide +kernel) rfl, lg_m 789 (by decide +kernel) rfl, _, _, rfl⟩
theorem mkX6_73 : MKV RX6 73 yX6_isFitting cX6_isFitting 5 (some (.boolean)) 3 6 := ⟨⟨lg_m 791 (by decide +kernel) rfl, lg_m 794 (by decide +kernel) rfl, lg_m 74 (by decide +kernel) rfl, by decide +kernel, by decide +kernel, by decide +kernel⟩, lg_m 793 (by decide +kernel) rfl, lg_m 22 (by decide +kernel) rfl, _, _, rfl⟩
theorem mkX8_233 : MKS RX8 233 yJ6_bitCount_0f7a4 cJ6_bitCount_0f7a4 1 (some (.int)) 1 := ⟨⟨lg_m 795 (by decide +kernel) rfl, lg_m 756 (by decide +kernel) rfl, lg_m 84 (by decide +kernel) rfl, by decide +kernel, by decide +kernel, by decide +kernel⟩, lg_m 755 (by decide +kernel) rfl⟩
theorem mkL_112 : MKV RL 112 yX8_voice cX8_voice 5 (some (.int)) 3 8 := ⟨⟨lg_m 796 (by decide +kernel) rfl, lg_m 799 (by decide +kernel) rfl, lg_m 67 (by decide +kernel) rfl, by decide +kernel, by decide +kernel, by decide +kernel⟩, lg_m 797 (by decide +kernel) rfl, lg_m 798 (by decide +kernel) rfl, _, _, rfl⟩
theorem mkX8_238 : MKV RX8 238 yX7_answer cX7_answer 5 (some (.int)) 4 7 := ⟨⟨lg_m 800 (by decide +kernel) rfl, lg_m 803 (by decide +kernel) rfl, lg_m 75 (by decide +kernel) rfl, by decide +kernel, by decide +kernel, by decide +kernel⟩, lg_m 801 (by decide +kernel) rfl, lg_m 802 (by decide +kernel) rfl, _, _, rfl⟩
theorem mkX7_34 : MKV RX7 34 yX3_empty cX3_empty 1 none 0 3 := ⟨⟨lg_m 804 (by decide +kernel) rfl, lg_m 476 (by decide +kernel) rfl, lg_m 71 (by decide +kernel) rfl, by decide +kernel, by decide +kernel, by decide +kernel⟩, lg_m 474 (by decide +kernel) rfl, lg_m 475 (by decide +kernel) rfl, _, _, rfl⟩
theorem mkX7_46 : MKV RX7 46 yX7_speak cX7_speak 7 (some (.int)) 4 7 := ⟨⟨lg_m 805 (by decide +kernel) rfl, lg_m 808 (by decide +kernel) rfl, lg_m 75 (by decide +kernel) rfl, by decide +kernel, by decide +kernel, by decide +kernel⟩, lg_m 807 (by decide +kernel) rfl, lg_m 23 (by decide +kernel) rfl, _, _, rfl⟩
theorem mkX7_50 : MKS RX7 50 yX7_ownerOf cX7_ownerOf 4 (some (.int)) 2 := ⟨⟨lg_m 809 (by decide +kernel) rfl, lg_m 811 (by decide +kernel) rfl, lg_m 75 (by decide +kernel) rfl, by decide +kernel, by decide +kernel, by decide +kernel⟩, lg_m 810 (by decide +kernel) rfl⟩
theorem mkX7_57 : MKV RX7 57 yX3_add cX3_add 2 none 1 3 := ⟨⟨lg_m 815 (by decide +kernel) rfl, lg_m 459 (by decide +kernel) rfl, lg_m 71 (by decide +kernel) rfl, by decide +kernel, by decide +kernel, by decide +kernel⟩, lg_m 457 (by decide +kernel) rfl, lg_m 458 (by decide +kernel) rfl, _, _, rfl⟩
theorem mkX7_63 : MKV RX7 63 yX7_workOut cX7_workOut 5 (some (.int)) 4 7 := ⟨⟨lg_m 816 (by decide +kernel) rfl, lg_m 819 (by decide +kernel) rfl, lg_m 75 (by decide +kernel) rfl, by decide +kernel, by decide +kernel, by decide +kernel⟩, lg_m 818 (by decide +kernel) rfl, lg_m 24 (by decide +kernel) rfl, _, _, rfl⟩
theorem mkX7_66 : MKV RX7 66 yX7_part cX7_part 2 (some (.int)) 1 7 := ⟨⟨lg_m 820 (by decide +kernel) rfl, lg_m 823 (by decide +kernel) rfl, lg_m 75 (by decide +kernel) rfl, by decide +kernel, by decide +kernel, by decide +kernel⟩, lg_m 822 (by decide +kernel) rfl, lg_m 25 (by decide +kernel) rfl, _, _, rfl⟩
theorem mkL_116 : MKV RL 116 yX8_body cX8_body 2 (some (.int)) 1 8 := ⟨⟨lg_m 824 (by decide +kernel) rfl, lg_m 827 (by decide +kernel) rfl, lg_m 67 (by decide +kernel) rfl, by decide +kernel, by decide +kernel, by decide +kernel⟩, lg_m 825 (by decide +kernel) rfl, lg_m 826 (by decide +kernel) rfl, _, _, rfl⟩
theorem mkX8_248 : MKV RX8 248 yX3_has cX3_has 2 (some (.boolean)) 1 3 := ⟨⟨lg_m 828 (by decide +kernel) rfl, lg_m 512 (by decide +kernel) rfl, lg_m 71 (by decide +kernel) rfl, by decide +kernel, by decide +kernel, by decide +kernel⟩, lg_m 510 (by decide +kernel) rfl, lg_m 511 (by decide +kernel) rfl, _, _, rfl⟩
theorem mkL_120 : MKV RL 120 yX8_sheet cX8_sheet 4 (some (.int)) 3 8 := ⟨⟨lg_m 829 (by decide +kernel) rfl, lg_m 832 (by decide +kernel) rfl, lg_m 67 (by decide +kernel) rfl, by decide +kernel, by decide +kernel, by decide +kernel⟩, lg_m 830 (by decide +kernel) rfl, lg_m 831 (by decide +kernel) rfl, _, _, rfl⟩
theorem mkX8_251 : MKS RX8 251 yX4_isWidth cX4_isWidth 1 (some (.boolean)) 1 := ⟨⟨lg_m 833 (by decide +kernel) rfl, lg_m 835 (by decide +kernel) rfl, lg_m 76 (by decide +kernel) rfl, by decide +kernel, by decide +kernel, by decide +kernel⟩, lg_m 834 (by decide +kernel) rfl⟩
theorem mkX8_254 : MKV RX8 254 yX4_layOut cX4_layOut 4 none 2 4 := ⟨⟨lg_m 836 (by decide +kernel) rfl, lg_m 839 (by decide +kernel) rfl, lg_m 76 (by decide +kernel) rfl, by decide +kernel, by decide +kernel, by decide +kernel⟩, lg_m 837 (by decide +kernel) rfl, lg_m 838 (by decide +kernel) rfl, _, _, rfl⟩
theorem mkX4_24 : MKV RX4 24 yX3_empty cX3_empty 1 none 0 3 := ⟨⟨lg_m 840 (by decide +kernel) rfl, lg_m 476 (by decide +kernel) rfl, lg_m 71 (by decide +kernel) rfl, by decide +kernel, by decide +kernel, by decide +kernel⟩, lg_m 474 (by decide +kernel) rfl, lg_m 475 (by decide +kernel) rfl, _, _, rfl⟩
theorem mkX4_27 : MKV RX4 27 yX3_add cX3_add 2 none 1 3 := ⟨⟨lg_m 841 (by decide +kernel) rfl, lg_m 459 (by decide +kernel) rfl, lg_m 71 (by decide +kernel) rfl, by decide +kernel, by decide +kernel, by decide +kernel⟩, lg_m 457 (by decide +kernel) rfl, lg_m 458 (by decide +kernel) rfl, _, _, rfl⟩
theorem mkL_124 : MKV RL 124 yX8_put cX8_put 5 (some (.int)) 3 8 := ⟨⟨lg_m 842 (by decide +kernel) rfl, lg_m 845 (by decide +kernel) rfl, lg_m 67 (by decide +kernel) rfl, by decide +kernel, by decide +kernel, by decide +kernel⟩, lg_m 843 (by decide +kernel) rfl, lg_m 844 (by decide +kernel) rfl, _, _, rfl⟩
theorem mkX8_257 : MKV RX8 257 yX4_lowestBits cX4_lowestBits 2 (some (.int)) 1 4 := ⟨⟨lg_m 846 (by decide +kernel) rfl, lg_m 849 (by decide +kernel) rfl, lg_m 76 (by decide +kernel) rfl, by decide +kernel, by decide +kernel, by decide +kernel⟩, lg_m 847 (by decide +kernel) rfl, lg_m 848 (by decide +kernel) rfl, _, _, rfl⟩
theorem mkL_128 : MKV RL 128 yX8_move cX8_move 8 (some (.int)) 5 8 := ⟨⟨lg_m 850 (by decide +kernel) rfl, lg_m 853 (by decide +kernel) rfl, lg_m 67 (by decide +kernel) rfl, by decide +kernel, by decide +kernel, by decide +kernel⟩, lg_m 851 (by decide +kernel) rfl, lg_m 852 (by decide +kernel) rfl, _, _, rfl⟩
theorem mkX8_263 : MKV RX8 263 yX3_hasRun cX3_hasRun 3 (some (.boolean)) 2 3 := ⟨⟨lg_m 854 (by decide +kernel) rfl, lg_m 857 (by decide +kernel) rfl, lg_m 71 (by decide +kernel) rfl, by decide +kernel, by decide +kernel, by decide +kernel⟩, lg_m 855 (by decide +kernel) rfl, lg_m 856 (by decide +kernel) rfl, _, _, rfl⟩
theorem mkL_133 : MKV RL 133 yX8_hearAll cX8_hearAll 2 (some (.int)) 1 8 := ⟨⟨lg_m 859 (by decide +kernel) rfl, lg_m 862 (by decide +kernel) rfl, lg_m 67 (by decide +kernel) rfl, by decide +kernel, by decide +kernel, by decide +kernel⟩, lg_m 860 (by decide +kernel) rfl, lg_m 861 (by decide +kernel) rfl, _, _, rfl⟩
theorem mkX8_272 : MKV RX8 272 yX2_takeHeard cX2_takeHeard 3 (some (.int)) 1 2 := ⟨⟨lg_m 863 (by decide +kernel) rfl, lg_m 866 (by decide +kernel) rfl, lg_m 69 (by decide +kernel) rfl, by decide +kernel, by decide +kernel, by decide +kernel⟩, lg_m 864 (by decide +kernel) rfl, lg_m 865 (by decide +kernel) rfl, _, _, rfl⟩
theorem mkL_137 : MKV RL 137 yX8_judge cX8_judge 2 (some (.int)) 1 8 := ⟨⟨lg_m 868 (by decide +kernel) rfl, lg_m 871 (by decide +kernel) rfl, lg_m 67 (by decide +kernel) rfl, by decide +kernel, by decide +kernel, by decide +kernel⟩, lg_m 869 (by decide +kernel) rfl, lg_m 870 (by decide +kernel) rfl, _, _, rfl⟩
theorem mkX8_276 : MKV RX8 276 yX2_rightTurns cX2_rightTurns 3 (some (.int)) 1 2 := ⟨⟨lg_m 872 (by decide +kernel) rfl, lg_m 875 (by decide +kernel) rfl, lg_m 69 (by decide +kernel) rfl, by decide +kernel, by decide +kernel, by decide +kernel⟩, lg_m 873 (by decide +kernel) rfl, lg_m 874 (by decide +kernel) rfl, _, _, rfl⟩
theorem mkL_141 : MKV RL 141 yX8_image cX8_image 1 (some (.int)) 0 8 := ⟨⟨lg_m 876 (by decide +kernel) rfl, lg_m 879 (by decide +kernel) rfl, lg_m 67 (by decide +kernel) rfl, by decide +kernel, by decide +kernel, by decide +kernel⟩, lg_m 877 (by decide +kernel) rfl, lg_m 878 (by decide +kernel) rfl, _, _, rfl⟩
theorem mkX8_279 : MKV RX8 279 yX5_takeOver cX5_takeOver 2 none 1 5 := ⟨⟨lg_m 880 (by decide +kernel) rfl, lg_m 883 (by decide +kernel) rfl, lg_m 68 (by decide +kernel) rfl, by decide +kernel, by decide +kernel, by decide +kernel⟩, lg_m 881 (by decide +kernel) rfl, lg_m 882 (by decide +kernel) rfl, _, _, rfl⟩
theorem mkX5_30 : MKV RX5 30 yX2_takeOver cX2_takeOver 2 none 1 2 := ⟨⟨lg_m 884 (by decide +kernel) rfl, lg_m 701 (by decide +kernel) rfl, lg_m 69 (by decide +kernel) rfl, by decide +kernel, by decide +kernel, by decide +kernel⟩, lg_m 699 (by decide +kernel) rfl, lg_m 700 (by decide +kernel) rfl, _, _, rfl⟩
theorem mkX5_34 : MKV RX5 34 yX3_takeOver cX3_takeOver 2 none 1 3 := ⟨⟨lg_m 885 (by decide +kernel) rfl, lg_m 632 (by decide +kernel) rfl, lg_m 71 (by decide +kernel) rfl, by decide +kernel, by decide +kernel, by decide +kernel⟩, lg_m 630 (by decide +kernel) rfl, lg_m 631 (by decide +kernel) rfl, _, _, rfl⟩
theorem mkL_146 : MKV RL 146 yX8_restore cX8_restore 1 (some (.int)) 0 8 := ⟨⟨lg_m 886 (by decide +kernel) rfl, lg_m 889 (by decide +kernel) rfl, lg_m 67 (by decide +kernel) rfl, by decide +kernel, by decide +kernel, by decide +kernel⟩, lg_m 887 (by decide +kernel) rfl, lg_m 888 (by decide +kernel) rfl, _, _, rfl⟩
theorem mkL_150 : MKV RL 150 yX8_tell cX8_tell 2 (some (.int)) 1 8 := ⟨⟨lg_m 890 (by decide +kernel) rfl, lg_m 893 (by decide +kernel) rfl, lg_m 67 (by decide +kernel) rfl, by decide +kernel, by decide +kernel, by decide +kernel⟩, lg_m 891 (by decide +kernel) rfl, lg_m 892 (by decide +kernel) rfl, _, _, rfl⟩
theorem mkL_154 : MKV RL 154 yX8_check cX8_check 3 (some (.int)) 0 8 := ⟨⟨lg_m 894 (by decide +kernel) rfl, lg_m 897 (by decide +kernel) rfl, lg_m 67 (by decide +kernel) rfl, by decide +kernel, by decide +kernel, by decide +kernel⟩, lg_m 895 (by decide +kernel) rfl, lg_m 896 (by decide +kernel) rfl, _, _, rfl⟩
theorem mkX8_286 : MKV RX8 286 yX2_rightSaid cX2_rightSaid 3 (some (.int)) 1 2 := ⟨⟨lg_m 898 (by decide +kernel) rfl, lg_m 901 (by decide +kernel) rfl, lg_m 69 (by decide +kernel) rfl, by decide +kernel, by decide +kernel, by decide +kernel⟩, lg_m 899 (by decide +kernel) rfl, lg_m 900 (by decide +kernel) rfl, _, _, rfl⟩
theorem mkL_158 : MKV RL 158 yX8_count cX8_count 3 (some (.int)) 1 8 := ⟨⟨lg_m 902 (by decide +kernel) rfl, lg_m 905 (by decide +kernel) rfl, lg_m 67 (by decide +kernel) rfl, by decide +kernel, by decide +kernel, by decide +kernel⟩, lg_m 903 (by decide +kernel) rfl, lg_m 904 (by decide +kernel) rfl, _, _, rfl⟩
theorem mkL_162 : MKV RL 162 yX8_told cX8_told 2 (some (.int)) 1 8 := ⟨⟨lg_m 906 (by decide +kernel) rfl, lg_m 909 (by decide +kernel) rfl, lg_m 67 (by decide +kernel) rfl, by decide +kernel, by decide +kernel, by decide +kernel⟩, lg_m 907 (by decide +kernel) rfl, lg_m 908 (by decide +kernel) rfl, _, _, rfl⟩
theorem mkL_12 : MKI RL 12 yX9_init cX9_init 1 0 := ⟨⟨lg_m 912 (by decide +kernel) rfl, lg_m 914 (by decide +kernel) rfl, lg_m 77 (by decide +kernel) rfl, by decide +kernel, by decide +kernel, by decide +kernel⟩, lg_m 913 (by decide +kernel) rfl, rfl⟩
theorem mkL_53 : MKV RL 53 yX9_feed cX9_feed 5 (some (.int)) 2 9 := ⟨⟨lg_m 977 (by decide +kernel) rfl, lg_m 980 (by decide +kernel) rfl, lg_m 77 (by decide +kernel) rfl, by decide +kernel, by decide +kernel, by decide +kernel⟩, lg_m 978 (by decide +kernel) rfl, lg_m 979 (by decide +kernel) rfl, _, _, rfl⟩
theorem mkX9_47 : MKS RX9 47 yX9_in cX9_in 3 (some (.boolean)) 3 := ⟨⟨lg_m 981 (by decide +kernel) rfl, lg_m 983 (by decide +kernel) rfl, lg_m 77 (by decide +kernel) rfl, by decide +kernel, by decide +kernel, by decide +kernel⟩, lg_m 982 (by decide +kernel) rfl⟩
theorem mkX9_51 : MKV RX9 51 yX9_error cX9_error 2 (some (.int)) 1 9 := ⟨⟨lg_m 984 (by decide +kernel) rfl, lg_m 987 (by decide +kernel) rfl, lg_m 77 (by decide +kernel) rfl, by decide +kernel, by decide +kernel, by decide +kernel⟩, lg_m 986 (by decide +kernel) rfl, lg_m 26 (by decide +kernel) rfl, _, _, rfl⟩
theorem mkL_57 : MKV RL 57 yX9_text cX9_text 5 (some (.int)) 1 9 := ⟨⟨lg_m 990 (by decide +kernel) rfl, lg_m 993 (by decide +kernel) rfl, lg_m 77 (by decide +kernel) rfl, by decide +kernel, by decide +kernel, by decide +kernel⟩, lg_m 991 (by decide +kernel) rfl, lg_m 992 (by decide +kernel) rfl, _, _, rfl⟩
theorem mkX9_101 : MKV RX9 101 yX9_whole cX9_whole 1 (some (.boolean)) 0 9 := ⟨⟨lg_m 994 (by decide +kernel) rfl, lg_m 997 (by decide +kernel) rfl, lg_m 77 (by decide +kernel) rfl, by decide +kernel, by decide +kernel, by decide +kernel⟩, lg_m 996 (by decide +kernel) rfl, lg_m 27 (by decide +kernel) rfl, _, _, rfl⟩
theorem mkX9_67 : MKV RX9 67 yX9_both cX9_both 1 (some (.boolean)) 0 9 := ⟨⟨lg_m 998 (by decide +kernel) rfl, lg_m 1001 (by decide +kernel) rfl, lg_m 77 (by decide +kernel) rfl, by decide +kernel, by decide +kernel, by decide +kernel⟩, lg_m 1000 (by decide +kernel) rfl, lg_m 28 (by decide +kernel) rfl, _, _, rfl⟩
theorem mkX9_79 : MKV RX9 79 yX9_compared cX9_compared 2 (some (.boolean)) 0 9 := ⟨⟨lg_m 1002 (by decide +kernel) rfl, lg_m 1005 (by decide +kernel) rfl, lg_m 77 (by decide +kernel) rfl, by decide +kernel, by decide +kernel, by decide +kernel⟩, lg_m 1004 (by decide +kernel) rfl, lg_m 29 (by decide +kernel) rfl, _, _, rfl⟩
theorem mkX9_82 : MKV RX9 82 yX9_sum cX9_sum 2 (some (.boolean)) 0 9 := ⟨⟨lg_m 1006 (by decide +kernel) rfl, lg_m 1009 (by decide +kernel) rfl, lg_m 77 (by decide +kernel) rfl, by decide +kernel, by decide +kernel, by decide +kernel⟩, lg_m 1008 (by decide +kernel) rfl, lg_m 30 (by decide +kernel) rfl, _, _, rfl⟩
theorem mkX9_85 : MKV RX9 85 yX9_product cX9_product 2 (some (.boolean)) 0 9 := ⟨⟨lg_m 1010 (by decide +kernel) rfl, lg_m 1013 (by decide +kernel) rfl, lg_m 77 (by decide +kernel) rfl, by decide +kernel, by decide +kernel, by decide +kernel⟩, lg_m 1012 (by decide +kernel) rfl, lg_m 31 (by decide +kernel) rfl, _, _, rfl⟩
theorem mkX9_88 : MKV RX9 88 yX9_one cX9_one 4 (some (.boolean)) 0 9 := ⟨⟨lg_m 1014 (by decide +kernel) rfl, lg_m 1017 (by decide +kernel) rfl, lg_m 77 (by decide +kernel) rfl, by decide +kernel, by decide +kernel, by decide +kernel⟩, lg_m 1016 (by decide +kernel) rfl, lg_m 32 (by decide +kernel) rfl, _, _, rfl⟩
theorem mkX9_71 : MKV RX9 71 yX9_look cX9_look 1 (some (.int)) 0 9 := ⟨⟨lg_m 1018 (by decide +kernel) rfl, lg_m 1021 (by decide +kernel) rfl, lg_m 77 (by decide +kernel) rfl, by decide +kernel, by decide +kernel, by decide +kernel⟩, lg_m 1020 (by decide +kernel) rfl, lg_m 33 (by decide +kernel) rfl, _, _, rfl⟩
theorem mkX9_94 : MKV RX9 94 yX9_isName cX9_isName 2 (some (.boolean)) 1 9 := ⟨⟨lg_m 1022 (by decide +kernel) rfl, lg_m 1025 (by decide +kernel) rfl, lg_m 77 (by decide +kernel) rfl, by decide +kernel, by decide +kernel, by decide +kernel⟩, lg_m 1024 (by decide +kernel) rfl, lg_m 34 (by decide +kernel) rfl, _, _, rfl⟩
theorem mkX9_75 : MKV RX9 75 yX9_step1 cX9_step1 3 none 2 9 := ⟨⟨lg_m 1026 (by decide +kernel) rfl, lg_m 1029 (by decide +kernel) rfl, lg_m 77 (by decide +kernel) rfl, by decide +kernel, by decide +kernel, by decide +kernel⟩, lg_m 1028 (by decide +kernel) rfl, lg_m 35 (by decide +kernel) rfl, _, _, rfl⟩
theorem mkX9_98 : MKV RX9 98 yX9_opens cX9_opens 1 (some (.boolean)) 0 9 := ⟨⟨lg_m 1030 (by decide +kernel) rfl, lg_m 1033 (by decide +kernel) rfl, lg_m 77 (by decide +kernel) rfl, by decide +kernel, by decide +kernel, by decide +kernel⟩, lg_m 1032 (by decide +kernel) rfl, lg_m 36 (by decide +kernel) rfl, _, _, rfl⟩
theorem mkL_61 : MKV RL 61 yX9_untell cX9_untell 3 (some (.int)) 1 9 := ⟨⟨lg_m 1034 (by decide +kernel) rfl, lg_m 1037 (by decide +kernel) rfl, lg_m 77 (by decide +kernel) rfl, by decide +kernel, by decide +kernel, by decide +kernel⟩, lg_m 1035 (by decide +kernel) rfl, lg_m 1036 (by decide +kernel) rfl, _, _, rfl⟩
theorem mkX9_104 : MKV RX9 104 yX9_hasText cX9_hasText 2 (some (.boolean)) 1 9 := ⟨⟨lg_m 1038 (by decide +kernel) rfl, lg_m 1041 (by decide +kernel) rfl, lg_m 77 (by decide +kernel) rfl, by decide +kernel, by decide +kernel, by decide +kernel⟩, lg_m 1040 (by decide +kernel) rfl, lg_m 37 (by decide +kernel) rfl, _, _, rfl⟩
theorem mkL_17 : MKV RL 17 yX9_home cX9_home 3 (some (.int)) 1 9 := ⟨⟨lg_m 1042 (by decide +kernel) rfl, lg_m 1045 (by decide +kernel) rfl, lg_m 77 (by decide +kernel) rfl, by decide +kernel, by decide +kernel, by decide +kernel⟩, lg_m 1043 (by decide +kernel) rfl, lg_m 1044 (by decide +kernel) rfl, _, _, rfl⟩
theorem mkX9_153 : MKS RX9 153 yX9_isKm cX9_isKm 1 (some (.boolean)) 1 := ⟨⟨lg_m 1046 (by decide +kernel) rfl, lg_m 1048 (by decide +kernel) rfl, lg_m 77 (by decide +kernel) rfl, by decide +kernel, by decide +kernel, by decide +kernel⟩, lg_m 1047 (by decide +kernel) rfl⟩
theorem mkX9_143 : MKV RX9 143 yX9_lays1 cX9_lays1 4 none 3 9 := ⟨⟨lg_m 1049 (by decide +kernel) rfl, lg_m 1052 (by decide +kernel) rfl, lg_m 77 (by decide +kernel) rfl, by decide +kernel, by decide +kernel, by decide +kernel⟩, lg_m 1051 (by decide +kernel) rfl, lg_m 38 (by decide +kernel) rfl, _, _, rfl⟩
theorem mkL_22 : MKV RL 22 yX9_homeIs cX9_homeIs 3 (some (.int)) 2 9 := ⟨⟨lg_m 1053 (by decide +kernel) rfl, lg_m 1056 (by decide +kernel) rfl, lg_m 77 (by decide +kernel) rfl, by decide +kernel, by decide +kernel, by decide +kernel⟩, lg_m 1054 (by decide +kernel) rfl, lg_m 1055 (by decide +kernel) rfl, _, _, rfl⟩
theorem mkX9_156 : MKV RX9 156 yX9_isHome cX9_isHome 2 (some (.boolean)) 1 9 := ⟨⟨lg_m 1057 (by decide +kernel) rfl, lg_m 1060 (by decide +kernel) rfl, lg_m 77 (by decide +kernel) rfl, by decide +kernel, by decide +kernel, by decide +kernel⟩, lg_m 1059 (by decide +kernel) rfl, lg_m 39 (by decide +kernel) rfl, _, _, rfl⟩
theorem mkX9_134 : MKV RX9 134 yX9_saidAt cX9_saidAt 2 (some (.int)) 1 9 := ⟨⟨lg_m 1061 (by decide +kernel) rfl, lg_m 1064 (by decide +kernel) rfl, lg_m 77 (by decide +kernel) rfl, by decide +kernel, by decide +kernel, by decide +kernel⟩, lg_m 1063 (by decide +kernel) rfl, lg_m 40 (by decide +kernel) rfl, _, _, rfl⟩
theorem mkX9_124 : MKV RX9 124 yX9_tellsOf cX9_tellsOf 4 (some (.int)) 1 9 := ⟨⟨lg_m 1065 (by decide +kernel) rfl, lg_m 1068 (by decide +kernel) rfl, lg_m 77 (by decide +kernel) rfl, by decide +kernel, by decide +kernel, by decide +kernel⟩, lg_m 1067 (by decide +kernel) rfl, lg_m 41 (by decide +kernel) rfl, _, _, rfl⟩
theorem mkX9_111 : MKV RX9 111 yX9_its cX9_its 3 (some (.int)) 2 9 := ⟨⟨lg_m 1069 (by decide +kernel) rfl, lg_m 1072 (by decide +kernel) rfl, lg_m 77 (by decide +kernel) rfl, by decide +kernel, by decide +kernel, by decide +kernel⟩, lg_m 1071 (by decide +kernel) rfl, lg_m 42 (by decide +kernel) rfl, _, _, rfl⟩
theorem mkX9_127 : MKV RX9 127 yX9_givenBy cX9_givenBy 6 (some (.int)) 4 9 := ⟨⟨lg_m 1073 (by decide +kernel) rfl, lg_m 1076 (by decide +kernel) rfl, lg_m 77 (by decide +kernel) rfl, by decide +kernel, by decide +kernel, by decide +kernel⟩, lg_m 1075 (by decide +kernel) rfl, lg_m 43 (by decide +kernel) rfl, _, _, rfl⟩
theorem mkX9_115 : MKV RX9 115 yX9_worked cX9_worked 7 (some (.int)) 1 9 := ⟨⟨lg_m 1077 (by decide +kernel) rfl, lg_m 1080 (by decide +kernel) rfl, lg_m 77 (by decide +kernel) rfl, by decide +kernel, by decide +kernel, by decide +kernel⟩, lg_m 1079 (by decide +kernel) rfl, lg_m 44 (by decide +kernel) rfl, _, _, rfl⟩
theorem mkX9_107 : MKS RX9 107 yX9_joined cX9_joined 3 (some (.int)) 3 := ⟨⟨lg_m 1081 (by decide +kernel) rfl, lg_m 1083 (by decide +kernel) rfl, lg_m 77 (by decide +kernel) rfl, by decide +kernel, by decide +kernel, by decide +kernel⟩, lg_m 1082 (by decide +kernel) rfl⟩
theorem mkX9_118 : MKS RX9 118 yX9_held cX9_held 3 (some (.int)) 3 := ⟨⟨lg_m 1084 (by decide +kernel) rfl, lg_m 1086 (by decide +kernel) rfl, lg_m 77 (by decide +kernel) rfl, by decide +kernel, by decide +kernel, by decide +kernel⟩, lg_m 1085 (by decide +kernel) rfl⟩
theorem mkX9_121 : MKS RX9 121 yX9_restOf cX9_restOf 2 (some (.int)) 1 := ⟨⟨lg_m 1087 (by decide +kernel) rfl, lg_m 1089 (by decide +kernel) rfl, lg_m 77 (by decide +kernel) rfl, by decide +kernel, by decide +kernel, by decide +kernel⟩, lg_m 1088 (by decide +kernel) rfl⟩
theorem mkX9_137 : MKV RX9 137 yX9_behindAt cX9_behindAt 2 (some (.int)) 1 9 := ⟨⟨lg_m 1090 (by decide +kernel) rfl, lg_m 1093 (by decide +kernel) rfl, lg_m 77 (by decide +kernel) rfl, by decide +kernel, by decide +kernel, by decide +kernel⟩, lg_m 1092 (by decide +kernel) rfl, lg_m 45 (by decide +kernel) rfl, _, _, rfl⟩
theorem mkX9_131 : MKV RX9 131 yX9_leavesOf cX9_leavesOf 6 (some (.int)) 1 9 := ⟨⟨lg_m 1094 (by decide +kernel) rfl, lg_m 1097 (by decide +kernel) rfl, lg_m 77 (by decide +kernel) rfl, by decide +kernel, by decide +kernel, by decide +kernel⟩, lg_m 1096 (by decide +kernel) rfl, lg_m 46 (by decide +kernel) rfl, _, _, rfl⟩
theorem mkX9_140 : MKV RX9 140 yX9_bluntsOf cX9_bluntsOf 3 (some (.int)) 1 9 := ⟨⟨lg_m 1098 (by decide +kernel) rfl, lg_m 1101 (by decide +kernel) rfl, lg_m 77 (by decide +kernel) rfl, by decide +kernel, by decide +kernel, by decide +kernel⟩, lg_m 1100 (by decide +kernel) rfl, lg_m 47 (by decide +kernel) rfl, _, _, rfl⟩
theorem mkL_26 : MKV RL 26 yX9_become cX9_become 4 (some (.int)) 2 9 := ⟨⟨lg_m 1102 (by decide +kernel) rfl, lg_m 1105 (by decide +kernel) rfl, lg_m 77 (by decide +kernel) rfl, by decide +kernel, by decide +kernel, by decide +kernel⟩, lg_m 1103 (by decide +kernel) rfl, lg_m 1104 (by decide +kernel) rfl, _, _, rfl⟩
theorem mkL_30 : MKV RL 30 yX9_as cX9_as 5 (some (.int)) 2 9 := ⟨⟨lg_m 1106 (by decide +kernel) rfl, lg_m 1109 (by decide +kernel) rfl, lg_m 77 (by decide +kernel) rfl, by decide +kernel, by decide +kernel, by decide +kernel⟩, lg_m 1107 (by decide +kernel) rfl, lg_m 1108 (by decide +kernel) rfl, _, _, rfl⟩
theorem mkX9_159 : MKS RX9 159 yX9_above cX9_above 1 (some (.int)) 1 := ⟨⟨lg_m 1110 (by decide +kernel) rfl, lg_m 1112 (by decide +kernel) rfl, lg_m 77 (by decide +kernel) rfl, by decide +kernel, by decide +kernel, by decide +kernel⟩, lg_m 1111 (by decide +kernel) rfl⟩
theorem mkL_34 : MKV RL 34 yX9_past cX9_past 3 (some (.int)) 2 9 := ⟨⟨lg_m 1113 (by decide +kernel) rfl, lg_m 1116 (by decide +kernel) rfl, lg_m 77 (by decide +kernel) rfl, by decide +kernel, by decide +kernel, by decide +kernel⟩, lg_m 1114 (by decide +kernel) rfl, lg_m 1115 (by decide +kernel) rfl, _, _, rfl⟩
theorem mkX9_162 : MKV RX9 162 yX9_change1 cX9_change1 4 (some (.int)) 2 9 := ⟨⟨lg_m 1117 (by decide +kernel) rfl, lg_m 1120 (by decide +kernel) rfl, lg_m 77 (by decide +kernel) rfl, by decide +kernel, by decide +kernel, by decide +kernel⟩, lg_m 1119 (by decide +kernel) rfl, lg_m 48 (by decide +kernel) rfl, _, _, rfl⟩
theorem mkL_38 : MKV RL 38 yX9_goes cX9_goes 2 (some (.int)) 1 9 := ⟨⟨lg_m 1121 (by decide +kernel) rfl, lg_m 1124 (by decide +kernel) rfl, lg_m 77 (by decide +kernel) rfl, by decide +kernel, by decide +kernel, by decide +kernel⟩, lg_m 1122 (by decide +kernel) rfl, lg_m 1123 (by decide +kernel) rfl, _, _, rfl⟩
theorem mkL_42 : MKV RL 42 yX9_set cX9_set 4 (some (.int)) 2 9 := ⟨⟨lg_m 1125 (by decide +kernel) rfl, lg_m 1128 (by decide +kernel) rfl, lg_m 77 (by decide +kernel) rfl, by decide +kernel, by decide +kernel, by decide +kernel⟩, lg_m 1126 (by decide +kernel) rfl, lg_m 1127 (by decide +kernel) rfl, _, _, rfl⟩
theorem mkL_46 : MKV RL 46 yX9_hears cX9_hears 3 (some (.int)) 2 9 := ⟨⟨lg_m 1129 (by decide +kernel) rfl, lg_m 1132 (by decide +kernel) rfl, lg_m 77 (by decide +kernel) rfl, by decide +kernel, by decide +kernel, by decide +kernel⟩, lg_m 1130 (by decide +kernel) rfl, lg_m 1131 (by decide +kernel) rfl, _, _, rfl⟩
theorem mkL_66 : MKV RL 66 yX9_law cX9_law 5 (some (.int)) 4 9 := ⟨⟨lg_m 1133 (by decide +kernel) rfl, lg_m 1136 (by decide +kernel) rfl, lg_m 77 (by decide +kernel) rfl, by decide +kernel, by decide +kernel, by decide +kernel⟩, lg_m 1134 (by decide +kernel) rfl, lg_m 1135 (by decide +kernel) rfl, _, _, rfl⟩
theorem mkL_70 : MKV RL 70 yX9_days cX9_days 2 (some (.int)) 1 9 := ⟨⟨lg_m 1137 (by decide +kernel) rfl, lg_m 1140 (by decide +kernel) rfl, lg_m 77 (by decide +kernel) rfl, by decide +kernel, by decide +kernel, by decide +kernel⟩, lg_m 1138 (by decide +kernel) rfl, lg_m 1139 (by decide +kernel) rfl, _, _, rfl⟩
theorem mkX9_165 : MKV RX9 165 yX9_goesOn cX9_goesOn 3 none 1 9 := ⟨⟨lg_m 1141 (by decide +kernel) rfl, lg_m 1144 (by decide +kernel) rfl, lg_m 77 (by decide +kernel) rfl, by decide +kernel, by decide +kernel, by decide +kernel⟩, lg_m 1143 (by decide +kernel) rfl, lg_m 49 (by decide +kernel) rfl, _, _, rfl⟩
theorem mkX9_150 : MKV RX9 150 yX9_day1 cX9_day1 5 none 0 9 := ⟨⟨lg_m 1145 (by decide +kernel) rfl, lg_m 1148 (by decide +kernel) rfl, lg_m 77 (by decide +kernel) rfl, by decide +kernel, by decide +kernel, by decide +kernel⟩, lg_m 1147 (by decide +kernel) rfl, lg_m 50 (by decide +kernel) rfl, _, _, rfl⟩
theorem mkX9_147 : MKV RX9 147 yX9_nextOne cX9_nextOne 3 (some (.int)) 0 9 := ⟨⟨lg_m 1149 (by decide +kernel) rfl, lg_m 1152 (by decide +kernel) rfl, lg_m 77 (by decide +kernel) rfl, by decide +kernel, by decide +kernel, by decide +kernel⟩, lg_m 1151 (by decide +kernel) rfl, lg_m 51 (by decide +kernel) rfl, _, _, rfl⟩
theorem mkL_74 : MKV RL 74 yX9_loose cX9_loose 3 (some (.int)) 1 9 := ⟨⟨lg_m 1153 (by decide +kernel) rfl, lg_m 1156 (by decide +kernel) rfl, lg_m 77 (by decide +kernel) rfl, by decide +kernel, by decide +kernel, by decide +kernel⟩, lg_m 1154 (by decide +kernel) rfl, lg_m 1155 (by decide +kernel) rfl, _, _, rfl⟩
theorem mkL_78 : MKV RL 78 yX9_day cX9_day 2 (some (.int)) 1 9 := ⟨⟨lg_m 1158 (by decide +kernel) rfl, lg_m 1161 (by decide +kernel) rfl, lg_m 77 (by decide +kernel) rfl, by decide +kernel, by decide +kernel, by decide +kernel⟩, lg_m 1159 (by decide +kernel) rfl, lg_m 1160 (by decide +kernel) rfl, _, _, rfl⟩
theorem mkL_82 : MKV RL 82 yX9_seed cX9_seed 2 (some (.int)) 1 9 := ⟨⟨lg_m 1162 (by decide +kernel) rfl, lg_m 1165 (by decide +kernel) rfl, lg_m 77 (by decide +kernel) rfl, by decide +kernel, by decide +kernel, by decide +kernel⟩, lg_m 1163 (by decide +kernel) rfl, lg_m 1164 (by decide +kernel) rfl, _, _, rfl⟩
theorem mkL_86 : MKV RL 86 yX9_then cX9_then 4 (some (.int)) 2 9 := ⟨⟨lg_m 1166 (by decide +kernel) rfl, lg_m 1169 (by decide +kernel) rfl, lg_m 77 (by decide +kernel) rfl, by decide +kernel, by decide +kernel, by decide +kernel⟩, lg_m 1167 (by decide +kernel) rfl, lg_m 1168 (by decide +kernel) rfl, _, _, rfl⟩
theorem mkX9_170 : MKV RX9 170 yX9_saves cX9_saves 2 none 0 9 := ⟨⟨lg_m 1170 (by decide +kernel) rfl, lg_m 1173 (by decide +kernel) rfl, lg_m 77 (by decide +kernel) rfl, by decide +kernel, by decide +kernel, by decide +kernel⟩, lg_m 1172 (by decide +kernel) rfl, lg_m 52 (by decide +kernel) rfl, _, _, rfl⟩
theorem mkX9_173 : MKV RX9 173 yX9_heardAll cX9_heardAll 3 (some (.int)) 0 9 := ⟨⟨lg_m 1174 (by decide +kernel) rfl, lg_m 1177 (by decide +kernel) rfl, lg_m 77 (by decide +kernel) rfl, by decide +kernel, by decide +kernel, by decide +kernel⟩, lg_m 1176 (by decide +kernel) rfl, lg_m 53 (by decide +kernel) rfl, _, _, rfl⟩
theorem mkX9_176 : MKV RX9 176 yX9_putsBack cX9_putsBack 2 none 0 9 := ⟨⟨lg_m 1178 (by decide +kernel) rfl, lg_m 1181 (by decide +kernel) rfl, lg_m 77 (by decide +kernel) rfl, by decide +kernel, by decide +kernel, by decide +kernel⟩, lg_m 1180 (by decide +kernel) rfl, lg_m 54 (by decide +kernel) rfl, _, _, rfl⟩
theorem mkL_90 : MKV RL 90 yX9_soonest cX9_soonest 4 (some (.int)) 2 9 := ⟨⟨lg_m 1182 (by decide +kernel) rfl, lg_m 1185 (by decide +kernel) rfl, lg_m 77 (by decide +kernel) rfl, by decide +kernel, by decide +kernel, by decide +kernel⟩, lg_m 1183 (by decide +kernel) rfl, lg_m 1184 (by decide +kernel) rfl, _, _, rfl⟩
theorem mkL_95 : MKV RL 95 yX9_startFor cX9_startFor 8 (some (.int)) 3 9 := ⟨⟨lg_m 1186 (by decide +kernel) rfl, lg_m 1189 (by decide +kernel) rfl, lg_m 77 (by decide +kernel) rfl, by decide +kernel, by decide +kernel, by decide +kernel⟩, lg_m 1187 (by decide +kernel) rfl, lg_m 1188 (by decide +kernel) rfl, _, _, rfl⟩
theorem mkX9_179 : MKS RX9 179 yX9_isAsked cX9_isAsked 2 (some (.boolean)) 2 := ⟨⟨lg_m 1190 (by decide +kernel) rfl, lg_m 1192 (by decide +kernel) rfl, lg_m 77 (by decide +kernel) rfl, by decide +kernel, by decide +kernel, by decide +kernel⟩, lg_m 1191 (by decide +kernel) rfl⟩
theorem mkL_99 : MKV RL 99 yX9_swapFor cX9_swapFor 8 (some (.int)) 2 9 := ⟨⟨lg_m 1193 (by decide +kernel) rfl, lg_m 1196 (by decide +kernel) rfl, lg_m 77 (by decide +kernel) rfl, by decide +kernel, by decide +kernel, by decide +kernel⟩, lg_m 1194 (by decide +kernel) rfl, lg_m 1195 (by decide +kernel) rfl, _, _, rfl⟩
theorem mkX9_183 : MKV RX9 183 yX9_changePlaces cX9_changePlaces 5 none 2 9 := ⟨⟨lg_m 1197 (by decide +kernel) rfl, lg_m 1200 (by decide +kernel) rfl, lg_m 77 (by decide +kernel) rfl, by decide +kernel, by decide +kernel, by decide +kernel⟩, lg_m 1199 (by decide +kernel) rfl, lg_m 55 (by decide +kernel) rfl, _, _, rfl⟩
theorem mkL_103 : MKV RL 103 yX9_spare cX9_spare 6 (some (.int)) 2 9 := ⟨⟨lg_m 1201 (by decide +kernel) rfl, lg_m 1204 (by decide +kernel) rfl, lg_m 77 (by decide +kernel) rfl, by decide +kernel, by decide +kernel, by decide +kernel⟩, lg_m 1202 (by decide +kernel) rfl, lg_m 1203 (by decide +kernel) rfl, _, _, rfl⟩
theorem mkX9_186 : MKS RX9 186 yX9_ones cX9_ones 3 (some (.int)) 1 := ⟨⟨lg_m 1205 (by decide +kernel) rfl, lg_m 1207 (by decide +kernel) rfl, lg_m 77 (by decide +kernel) rfl, by decide +kernel, by decide +kernel, by decide +kernel⟩, lg_m 1206 (by decide +kernel) rfl⟩
theorem mkX9_189 : MKV RX9 189 yX9_viewWith cX9_viewWith 4 (some (.int)) 2 9 := ⟨⟨lg_m 1208 (by decide +kernel) rfl, lg_m 1211 (by decide +kernel) rfl, lg_m 77 (by decide +kernel) rfl, by decide +kernel, by decide +kernel, by decide +kernel⟩, lg_m 1210 (by decide +kernel) rfl, lg_m 56 (by decide +kernel) rfl, _, _, rfl⟩
theorem mkL_107 : MKV RL 107 yX9_odds cX9_odds 7 (some (.int)) 4 9 := ⟨⟨lg_m 1212 (by decide +kernel) rfl, lg_m 1215 (by decide +kernel) rfl, lg_m 77 (by decide +kernel) rfl, by decide +kernel, by decide +kernel, by decide +kernel⟩, lg_m 1213 (by decide +kernel) rfl, lg_m 1214 (by decide +kernel) rfl, _, _, rfl⟩
theorem mkX9_192 : MKS RX9 192 yX9_common cX9_common 5 (some (.int)) 2 := ⟨⟨lg_m 1216 (by decide +kernel) rfl, lg_m 1218 (by decide +kernel) rfl, lg_m 77 (by decide +kernel) rfl, by decide +kernel, by decide +kernel, by decide +kernel⟩, lg_m 1217 (by decide +kernel) rfl⟩
theorem mkL_111 : MKV RL 111 yX9_fits cX9_fits 7 (some (.int)) 2 9 := ⟨⟨lg_m 1219 (by decide +kernel) rfl, lg_m 1222 (by decide +kernel) rfl, lg_m 77 (by decide +kernel) rfl, by decide +kernel, by decide +kernel, by decide +kernel⟩, lg_m 1220 (by decide +kernel) rfl, lg_m 1221 (by decide +kernel) rfl, _, _, rfl⟩
theorem mkX9_195 : MKS RX9 195 yX9_isSheet cX9_isSheet 1 (some (.boolean)) 1 := ⟨⟨lg_m 1223 (by decide +kernel) rfl, lg_m 1225 (by decide +kernel) rfl, lg_m 77 (by decide +kernel) rfl, by decide +kernel, by decide +kernel, by decide +kernel⟩, lg_m 1224 (by decide +kernel) rfl⟩
theorem mkL_115 : MKV RL 115 yX9_voice cX9_voice 6 (some (.int)) 3 9 := ⟨⟨lg_m 1226 (by decide +kernel) rfl, lg_m 1229 (by decide +kernel) rfl, lg_m 77 (by decide +kernel) rfl, by decide +kernel, by decide +kernel, by decide +kernel⟩, lg_m 1227 (by decide +kernel) rfl, lg_m 1228 (by decide +kernel) rfl, _, _, rfl⟩
theorem mkX9_210 : MKV RX9 210 yX9_kindNow cX9_kindNow 1 (some (.int)) 0 9 := ⟨⟨lg_m 1230 (by decide +kernel) rfl, lg_m 1233 (by decide +kernel) rfl, lg_m 77 (by decide +kernel) rfl, by decide +kernel, by decide +kernel, by decide +kernel⟩, lg_m 1232 (by decide +kernel) rfl, lg_m 57 (by decide +kernel) rfl, _, _, rfl⟩
theorem mkX9_207 : MKV RX9 207 yX9_cutsAs cX9_cutsAs 3 (some (.int)) 2 9 := ⟨⟨lg_m 1234 (by decide +kernel) rfl, lg_m 1237 (by decide +kernel) rfl, lg_m 77 (by decide +kernel) rfl, by decide +kernel, by decide +kernel, by decide +kernel⟩, lg_m 1236 (by decide +kernel) rfl, lg_m 58 (by decide +kernel) rfl, _, _, rfl⟩
theorem mkX9_204 : MKV RX9 204 yX9_begins cX9_begins 2 none 1 9 := ⟨⟨lg_m 1238 (by decide +kernel) rfl, lg_m 1241 (by decide +kernel) rfl, lg_m 77 (by decide +kernel) rfl, by decide +kernel, by decide +kernel, by decide +kernel⟩, lg_m 1240 (by decide +kernel) rfl, lg_m 59 (by decide +kernel) rfl, _, _, rfl⟩
theorem mkX9_213 : MKV RX9 213 yX9_saysAs cX9_saysAs 3 (some (.int)) 2 9 := ⟨⟨lg_m 1242 (by decide +kernel) rfl, lg_m 1245 (by decide +kernel) rfl, lg_m 77 (by decide +kernel) rfl, by decide +kernel, by decide +kernel, by decide +kernel⟩, lg_m 1244 (by decide +kernel) rfl, lg_m 60 (by decide +kernel) rfl, _, _, rfl⟩
theorem mkX9_216 : MKV RX9 216 yX9_mNow cX9_mNow 1 (some (.int)) 0 9 := ⟨⟨lg_m 1246 (by decide +kernel) rfl, lg_m 1249 (by decide +kernel) rfl, lg_m 77 (by decide +kernel) rfl, by decide +kernel, by decide +kernel, by decide +kernel⟩, lg_m 1248 (by decide +kernel) rfl, lg_m 61 (by decide +kernel) rfl, _, _, rfl⟩
theorem mkX9_219 : MKV RX9 219 yX9_steelsAs cX9_steelsAs 3 (some (.int)) 2 9 := ⟨⟨lg_m 1250 (by decide +kernel) rfl, lg_m 1253 (by decide +kernel) rfl, lg_m 77 (by decide +kernel) rfl, by decide +kernel, by decide +kernel, by decide +kernel⟩, lg_m 1252 (by decide +kernel) rfl, lg_m 62 (by decide +kernel) rfl, _, _, rfl⟩
theorem mkX9_226 : MKV RX9 226 yX9_partsAs cX9_partsAs 5 (some (.int)) 2 9 := ⟨⟨lg_m 1254 (by decide +kernel) rfl, lg_m 1257 (by decide +kernel) rfl, lg_m 77 (by decide +kernel) rfl, by decide +kernel, by decide +kernel, by decide +kernel⟩, lg_m 1256 (by decide +kernel) rfl, lg_m 63 (by decide +kernel) rfl, _, _, rfl⟩
theorem mkL_119 : MKV RL 119 yX9_body cX9_body 2 (some (.int)) 1 9 := ⟨⟨lg_m 1258 (by decide +kernel) rfl, lg_m 1261 (by decide +kernel) rfl, lg_m 77 (by decide +kernel) rfl, by decide +kernel, by decide +kernel, by decide +kernel⟩, lg_m 1259 (by decide +kernel) rfl, lg_m 1260 (by decide +kernel) rfl, _, _, rfl⟩
theorem mkL_123 : MKV RL 123 yX9_sheet cX9_sheet 5 (some (.int)) 3 9 := ⟨⟨lg_m 1262 (by decide +kernel) rfl, lg_m 1265 (by decide +kernel) rfl, lg_m 77 (by decide +kernel) rfl, by decide +kernel, by decide +kernel, by decide +kernel⟩, lg_m 1263 (by decide +kernel) rfl, lg_m 1264 (by decide +kernel) rfl, _, _, rfl⟩
theorem mkL_127 : MKV RL 127 yX9_put cX9_put 5 (some (.int)) 3 9 := ⟨⟨lg_m 1266 (by decide +kernel) rfl, lg_m 1269 (by decide +kernel) rfl, lg_m 77 (by decide +kernel) rfl, by decide +kernel, by decide +kernel, by decide +kernel⟩, lg_m 1267 (by decide +kernel) rfl, lg_m 1268 (by decide +kernel) rfl, _, _, rfl⟩
theorem mkL_132 : MKV RL 132 yX9_move cX9_move 7 (some (.int)) 5 9 := ⟨⟨lg_m 1270 (by decide +kernel) rfl, lg_m 1273 (by decide +kernel) rfl, lg_m 77 (by decide +kernel) rfl, by decide +kernel, by decide +kernel, by decide +kernel⟩, lg_m 1271 (by decide +kernel) rfl, lg_m 1272 (by decide +kernel) rfl, _, _, rfl⟩
theorem mkL_136 : MKV RL 136 yX9_hearAll cX9_hearAll 4 (some (.int)) 1 9 := ⟨⟨lg_m 1274 (by decide +kernel) rfl, lg_m 1277 (by decide +kernel) rfl, lg_m 77 (by decide +kernel) rfl, by decide +kernel, by decide +kernel, by decide +kernel⟩, lg_m 1275 (by decide +kernel) rfl, lg_m 1276 (by decide +kernel) rfl, _, _, rfl⟩
theorem mkX9_229 : MKV RX9 229 yX9_lacks cX9_lacks 2 (some (.int)) 1 9 := ⟨⟨lg_m 1278 (by decide +kernel) rfl, lg_m 1281 (by decide +kernel) rfl, lg_m 77 (by decide +kernel) rfl, by decide +kernel, by decide +kernel, by decide +kernel⟩, lg_m 1280 (by decide +kernel) rfl, lg_m 64 (by decide +kernel) rfl, _, _, rfl⟩
theorem mkL_140 : MKV RL 140 yX9_judge cX9_judge 4 (some (.int)) 1 9 := ⟨⟨lg_m 1282 (by decide +kernel) rfl, lg_m 1285 (by decide +kernel) rfl, lg_m 77 (by decide +kernel) rfl, by decide +kernel, by decide +kernel, by decide +kernel⟩, lg_m 1283 (by decide +kernel) rfl, lg_m 1284 (by decide +kernel) rfl, _, _, rfl⟩
theorem mkL_145 : MKV RL 145 yX9_image cX9_image 1 (some (.int)) 0 9 := ⟨⟨lg_m 1286 (by decide +kernel) rfl, lg_m 1289 (by decide +kernel) rfl, lg_m 77 (by decide +kernel) rfl, by decide +kernel, by decide +kernel, by decide +kernel⟩, lg_m 1287 (by decide +kernel) rfl, lg_m 1288 (by decide +kernel) rfl, _, _, rfl⟩
theorem mkX9_232 : MKS RX9 232 yX9_copyAll cX9_copyAll 3 none 2 := ⟨⟨lg_m 1290 (by decide +kernel) rfl, lg_m 1292 (by decide +kernel) rfl, lg_m 77 (by decide +kernel) rfl, by decide +kernel, by decide +kernel, by decide +kernel⟩, lg_m 1291 (by decide +kernel) rfl⟩
theorem mkL_149 : MKV RL 149 yX9_restore cX9_restore 1 (some (.int)) 0 9 := ⟨⟨lg_m 1293 (by decide +kernel) rfl, lg_m 1296 (by decide +kernel) rfl, lg_m 77 (by decide +kernel) rfl, by decide +kernel, by decide +kernel, by decide +kernel⟩, lg_m 1294 (by decide +kernel) rfl, lg_m 1295 (by decide +kernel) rfl, _, _, rfl⟩
theorem mkL_153 : MKV RL 153 yX9_tell cX9_tell 2 (some (.int)) 1 9 := ⟨⟨lg_m 1297 (by decide +kernel) rfl, lg_m 1300 (by decide +kernel) rfl, lg_m 77 (by decide +kernel) rfl, by decide +kernel, by decide +kernel, by decide +kernel⟩, lg_m 1298 (by decide +kernel) rfl, lg_m 1299 (by decide +kernel) rfl, _, _, rfl⟩
theorem mkL_157 : MKV RL 157 yX9_check cX9_check 3 (some (.int)) 0 9 := ⟨⟨lg_m 1301 (by decide +kernel) rfl, lg_m 1304 (by decide +kernel) rfl, lg_m 77 (by decide +kernel) rfl, by decide +kernel, by decide +kernel, by decide +kernel⟩, lg_m 1302 (by decide +kernel) rfl, lg_m 1303 (by decide +kernel) rfl, _, _, rfl⟩
theorem mkL_161 : MKV RL 161 yX9_count cX9_count 2 (some (.int)) 1 9 := ⟨⟨lg_m 1305 (by decide +kernel) rfl, lg_m 1308 (by decide +kernel) rfl, lg_m 77 (by decide +kernel) rfl, by decide +kernel, by decide +kernel, by decide +kernel⟩, lg_m 1306 (by decide +kernel) rfl, lg_m 1307 (by decide +kernel) rfl, _, _, rfl⟩
theorem mkX9_239 : MKV RX9 239 yX9_pastNow cX9_pastNow 3 (some (.int)) 0 9 := ⟨⟨lg_m 1309 (by decide +kernel) rfl, lg_m 1312 (by decide +kernel) rfl, lg_m 77 (by decide +kernel) rfl, by decide +kernel, by decide +kernel, by decide +kernel⟩, lg_m 1311 (by decide +kernel) rfl, lg_m 65 (by decide +kernel) rfl, _, _, rfl⟩
theorem mkL_165 : MKV RL 165 yX9_told cX9_told 2 (some (.int)) 1 9 := ⟨⟨lg_m 1313 (by decide +kernel) rfl, lg_m 1316 (by decide +kernel) rfl, lg_m 77 (by decide +kernel) rfl, by decide +kernel, by decide +kernel, by decide +kernel⟩, lg_m 1314 (by decide +kernel) rfl, lg_m 1315 (by decide +kernel) rfl, _, _, rfl⟩
theorem iniL : Cond.initialized RL ∈ lw_g := lg_m 66 (by decide +kernel) rfl
theorem iniX8 : Cond.initialized RX8 ∈ lw_g := lg_m 67 (by decide +kernel) rfl
theorem iniX5 : Cond.initialized RX5 ∈ lw_g := lg_m 68 (by decide +kernel) rfl
theorem iniX2 : Cond.initialized RX2 ∈ lw_g := lg_m 69 (by decide +kernel) rfl
theorem iniX0 : Cond.initialized RX0 ∈ lw_g := lg_m 70 (by decide +kernel) rfl
theorem iniX3 : Cond.initialized RX3 ∈ lw_g := lg_m 71 (by decide +kernel) rfl
theorem iniJ9 : Cond.initialized RJ9 ∈ lw_g := lg_m 72 (by decide +kernel) rfl
theorem iniX1 : Cond.initialized RX1 ∈ lw_g := lg_m 73 (by decide +kernel) rfl
theorem iniX6 : Cond.initialized RX6 ∈ lw_g := lg_m 74 (by decide +kernel) rfl
theorem iniX7 : Cond.initialized RX7 ∈ lw_g := lg_m 75 (by decide +kernel) rfl
theorem iniX4 : Cond.initialized RX4 ∈ lw_g := lg_m 76 (by decide +kernel) rfl
theorem iniX9 : Cond.initialized RX9 ∈ lw_g := lg_m 77 (by decide +kernel) rfl
theorem iniJ0 : Cond.initialized RJ0 ∈ lw_g := lg_m 78 (by decide +kernel) rfl
theorem iniJ1 : Cond.initialized RJ1 ∈ lw_g := lg_m 79 (by decide +kernel) rfl
theorem iniJ2 : Cond.initialized RJ2 ∈ lw_g := lg_m 80 (by decide +kernel) rfl
theorem iniJ3 : Cond.initialized RJ3 ∈ lw_g := lg_m 81 (by decide +kernel) rfl
theorem iniJ11 : Cond.initialized RJ11 ∈ lw_g := lg_m 82 (by decide +kernel) rfl
theorem iniJ10 : Cond.initialized RJ10 ∈ lw_g := lg_m 83 (by decide +kernel) rfl
theorem iniJ6 : Cond.initialized RJ6 ∈ lw_g := lg_m 84 (by decide +kernel) rfl
theorem clL_7 : Cond.classLink RL 7 "LoanedRound" ∈ lw_g := lg_m 85 (by decide +kernel) rfl
theorem insX8 : Cond.instantiable RX8 8 ∈ lw_g := lg_m 86 (by decide +kernel) rfl
theorem clX8_7 : Cond.classLink RX8 7 "LoanedRound$State" ∈ lw_g := lg_m 93 (by decide +kernel) rfl
theorem insX5 : Cond.instantiable RX5 3 ∈ lw_g := lg_m 94 (by decide +kernel) rfl
theorem clX5_9 : Cond.classLink RX5 9 "LoanedRound$Round" ∈ lw_g := lg_m 99 (by decide +kernel) rfl
theorem insX2 : Cond.instantiable RX2 14 ∈ lw_g := lg_m 100 (by decide +kernel) rfl
theorem clX2_9 : Cond.classLink RX2 9 "LoanedRound$Law" ∈ lw_g := lg_m 105 (by decide +kernel) rfl
theorem insX0 : Cond.instantiable RX0 3 ∈ lw_g := lg_m 106 (by decide +kernel) rfl
theorem clX0_9 : Cond.classLink RX0 9 "LoanedRound$Row" ∈ lw_g := lg_m 111 (by decide +kernel) rfl
theorem insX3 : Cond.instantiable RX3 2 ∈ lw_g := lg_m 112 (by decide +kernel) rfl
theorem arrC_70 : Cond.arrayClass Jvm.ClassFile.FieldType.int ∈ lw_g := lg_m 136 (by decide +kernel) rfl
theorem clX5_18 : Cond.classLink RX5 18 "LoanedRound$Row" ∈ lw_g := lg_m 211 (by decide +kernel) rfl
theorem clX8_19 : Cond.classLink RX8 19 "LoanedRound$Reader" ∈ lw_g := lg_m 226 (by decide +kernel) rfl
theorem insX1 : Cond.instantiable RX1 5 ∈ lw_g := lg_m 227 (by decide +kernel) rfl
theorem clX1_9 : Cond.classLink RX1 9 "LoanedRound$Row" ∈ lw_g := lg_m 232 (by decide +kernel) rfl
-- Jvm.Cond.arrayClass Jvm.ClassFile.FieldType.byte
theorem clX8_26 : Cond.classLink RX8 26 "LoanedRound$Thought" ∈ lw_g := lg_m 253 (by decide +kernel) rfl
theorem insX6 : Cond.instantiable RX6 3 ∈ lw_g := lg_m 254 (by decide +kernel) rfl
theorem clX6_9 : Cond.classLink RX6 9 "LoanedRound$Round" ∈ lw_g := lg_m 259 (by decide +kernel) rfl
theorem clX8_33 : Cond.classLink RX8 33 "LoanedRound$Voices" ∈ lw_g := lg_m 273 (by decide +kernel) rfl
theorem insX7 : Cond.instantiable RX7 5 ∈ lw_g := lg_m 274 (by decide +kernel) rfl
theorem clX7_9 : Cond.classLink RX7 9 "LoanedRound$Row" ∈ lw_g := lg_m 279 (by decide +kernel) rfl
theorem clX8_40 : Cond.classLink RX8 40 "LoanedRound$Sheet" ∈ lw_g := lg_m 299 (by decide +kernel) rfl
theorem insX4 : Cond.instantiable RX4 2 ∈ lw_g := lg_m 301 (by decide +kernel) rfl
theorem clX4_9 : Cond.classLink RX4 9 "LoanedRound$Row" ∈ lw_g := lg_m 306 (by decide +kernel) rfl
theorem kkX8_295 : Cond.constant RX8 295 (-1000000000) ∈ lw_g := lg_m 353 (by decide +kernel) rfl
theorem kkJ2_227 : Cond.constant RJ2 227 (65536) ∈ lw_g := lg_m 560 (by decide +kernel) rfl
theorem kkJ11_110 : Cond.constant RJ11 110 (55232) ∈ lw_g := lg_m 599 (by decide +kernel) rfl
theorem kkJ11_76 : Cond.constant RJ11 76 (56320) ∈ lw_g := lg_m 603 (by decide +kernel) rfl
theorem kkX2_121 : Cond.constant RX2 121 (1103515245) ∈ lw_g := lg_m 681 (by decide +kernel) rfl
theorem kkJ6_265 : Cond.constant RJ6 265 (1431655765) ∈ lw_g := lg_m 757 (by decide +kernel) rfl
theorem kkJ6_266 : Cond.constant RJ6 266 (858993459) ∈ lw_g := lg_m 758 (by decide +kernel) rfl
theorem kkJ6_267 : Cond.constant RJ6 267 (252645135) ∈ lw_g := lg_m 759 (by decide +kernel) rfl
theorem clL_10 : Cond.classLink RL 10 "LoanedRoundModel" ∈ lw_g := lg_m 910 (by decide +kernel) rfl
theorem insX9 : Cond.instantiable RX9 20 ∈ lw_g := lg_m 911 (by decide +kernel) rfl
theorem kkX9_46 : Cond.constant RX9 46 (-1000000000) ∈ lw_g := lg_m 988 (by decide +kernel) rfl
theorem kkX9_55 : Cond.constantLong RX9 55 (255) ∈ lw_g := lg_m 989 (by decide +kernel) rfl
theorem kkX9_169 : Cond.constant RX9 169 (1103515245) ∈ lw_g := lg_m 1157 (by decide +kernel) rfl
theorem kkL_47 : Cond.constantLong RL 47 (4294967295) ∈ lw_g := lg_m 1317 (by decide +kernel) rfl
