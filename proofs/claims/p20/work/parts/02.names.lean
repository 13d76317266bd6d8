def RX0 : String := "BlowSeeker$Blow"
def TX0 : u_T := fun k => match k with
  | _ => ("", "", "", false)
def tyX0 : Nat → FieldType := fun k => match k with
  | _ => .int
theorem nmX0 : ∀ a, a < 0 → ∀ b, b < 0 → a ≠ b → (TX0 a).2.1 ≠ (TX0 b).2.1 := by decide +kernel
theorem tyX0_ok : ∀ k, k < 0 → parseFieldDescriptor (TX0 k).2.2.1 = some (tyX0 k) := by decide +kernel
abbrev cX0_exists : ByteArray := prog_2_method_2_code
def yX0_exists : MethodName := ⟨RX0, "exists", "(II)Z"⟩
abbrev cX0_isLoss : ByteArray := prog_2_method_3_code
def yX0_isLoss : MethodName := ⟨RX0, "isLoss", "(I)Z"⟩
abbrev cX0_tickOf : ByteArray := prog_2_method_4_code
def yX0_tickOf : MethodName := ⟨RX0, "tickOf", "(I)I"⟩
abbrev cX0_hostOf : ByteArray := prog_2_method_5_code
def yX0_hostOf : MethodName := ⟨RX0, "hostOf", "(I)I"⟩
abbrev cX0_targetOf : ByteArray := prog_2_method_6_code
def yX0_targetOf : MethodName := ⟨RX0, "targetOf", "(I)I"⟩
def RX1 : String := "BlowSeeker$Limits"
def TX1 : u_T := fun k => match k with
  | 0 => ("BlowSeeker$Limits", "losses", "I", false)
  | 1 => ("BlowSeeker$Limits", "falls", "I", false)
  | _ => ("BlowSeeker$Limits", "lastTick", "I", false)
def tyX1 : Nat → FieldType := fun k => match k with
  | 0 => .int
  | 1 => .int
  | _ => .int
theorem nmX1 : ∀ a, a < 3 → ∀ b, b < 3 → a ≠ b → (TX1 a).2.1 ≠ (TX1 b).2.1 := by decide +kernel
theorem tyX1_ok : ∀ k, k < 3 → parseFieldDescriptor (TX1 k).2.2.1 = some (tyX1 k) := by decide +kernel
abbrev cX1_init : ByteArray := prog_3_method_1_code
def yX1_init : MethodName := ⟨RX1, "<init>", "()V"⟩
abbrev cX1_allowOne : ByteArray := prog_3_method_2_code
def yX1_allowOne : MethodName := ⟨RX1, "allowOne", "(II)Z"⟩
abbrev cX1_allowBoth : ByteArray := prog_3_method_3_code
def yX1_allowBoth : MethodName := ⟨RX1, "allowBoth", "(II)Z"⟩
abbrev cX1_countSets : ByteArray := prog_3_method_4_code
def yX1_countSets : MethodName := ⟨RX1, "countSets", "(I)I"⟩
def RX2 : String := "BlowSeeker$Rule"
def TX2 : u_T := fun k => match k with
  | 0 => ("BlowSeeker$Rule", "host", "I", true)
  | 1 => ("BlowSeeker$Rule", "kind", "I", true)
  | 2 => ("BlowSeeker$Rule", "head", "I", true)
  | 3 => ("BlowSeeker$Rule", "a", "I", true)
  | 4 => ("BlowSeeker$Rule", "b", "I", true)
  | 5 => ("BlowSeeker$Rule", "not", "I", true)
  | 6 => ("BlowSeeker$Rule", "to", "I", true)
  | 7 => ("BlowSeeker$Rule", "needed", "I", true)
  | 8 => ("BlowSeeker$Rule", "denied", "I", true)
  | _ => ("BlowSeeker$Rule", "price", "I", false)
def tyX2 : Nat → FieldType := fun k => match k with
  | 0 => .int
  | 1 => .int
  | 2 => .int
  | 3 => .int
  | 4 => .int
  | 5 => .int
  | 6 => .int
  | 7 => .int
  | 8 => .int
  | _ => .int
theorem nmX2 : ∀ a, a < 10 → ∀ b, b < 10 → a ≠ b → (TX2 a).2.1 ≠ (TX2 b).2.1 := by decide +kernel
theorem tyX2_ok : ∀ k, k < 10 → parseFieldDescriptor (TX2 k).2.2.1 = some (tyX2 k) := by decide +kernel
abbrev cX2_init : ByteArray := prog_4_method_1_code
def yX2_init : MethodName := ⟨RX2, "<init>", "(IIIIIII)V"⟩
abbrev cX2_isSpare : ByteArray := prog_4_method_2_code
def yX2_isSpare : MethodName := ⟨RX2, "isSpare", "()Z"⟩
abbrev cX2_works : ByteArray := prog_4_method_3_code
def yX2_works : MethodName := ⟨RX2, "works", "(II)Z"⟩
def RX3 : String := "BlowSeeker$Rules"
def TX3 : u_T := fun k => match k with
  | 0 => ("BlowSeeker$Rules", "list", "Ljava/util/ArrayList;", true)
  | 1 => ("BlowSeeker$Rules", "layers", "[I", true)
  | _ => ("BlowSeeker$Rules", "tried", "[I", true)
def tyX3 : Nat → FieldType := fun k => match k with
  | 0 => .object "java/util/ArrayList"
  | 1 => .array .int
  | _ => .array .int
theorem nmX3 : ∀ a, a < 3 → ∀ b, b < 3 → a ≠ b → (TX3 a).2.1 ≠ (TX3 b).2.1 := by decide +kernel
theorem tyX3_ok : ∀ k, k < 3 → parseFieldDescriptor (TX3 k).2.2.1 = some (tyX3 k) := by decide +kernel
abbrev cX3_init : ByteArray := prog_5_method_1_code
def yX3_init : MethodName := ⟨RX3, "<init>", "()V"⟩
abbrev cX3_take : ByteArray := prog_5_method_2_code
def yX3_take : MethodName := ⟨RX3, "take", "(LBlowSeeker$Rule;)V"⟩
abbrev cX3_hasLayersWith : ByteArray := prog_5_method_3_code
def yX3_hasLayersWith : MethodName := ⟨RX3, "hasLayersWith", "(LBlowSeeker$Rule;)Z"⟩
abbrev cX3_lift : ByteArray := prog_5_method_4_code
def yX3_lift : MethodName := ⟨RX3, "lift", "(LBlowSeeker$Rule;)Z"⟩
abbrev cX3_countSpares : ByteArray := prog_5_method_5_code
def yX3_countSpares : MethodName := ⟨RX3, "countSpares", "()I"⟩
abbrev cX3_notSpare : ByteArray := prog_5_method_6_code
def yX3_notSpare : MethodName := ⟨RX3, "notSpare", "()I"⟩
def RX4 : String := "BlowSeeker$Run"
def TX4 : u_T := fun k => match k with
  | 0 => ("BlowSeeker$Run", "world", "LBlowSeeker$World;", true)
  | 1 => ("BlowSeeker$Run", "begins", "[I", true)
  | 2 => ("BlowSeeker$Run", "has", "[I", true)
  | 3 => ("BlowSeeker$Run", "sends", "[I", true)
  | 4 => ("BlowSeeker$Run", "lost", "[I", true)
  | 5 => ("BlowSeeker$Run", "fallTicks", "[I", true)
  | _ => ("BlowSeeker$Run", "changedFrom", "I", false)
def tyX4 : Nat → FieldType := fun k => match k with
  | 0 => .object "BlowSeeker$World"
  | 1 => .array .int
  | 2 => .array .int
  | 3 => .array .int
  | 4 => .array .int
  | 5 => .array .int
  | _ => .int
theorem nmX4 : ∀ a, a < 7 → ∀ b, b < 7 → a ≠ b → (TX4 a).2.1 ≠ (TX4 b).2.1 := by decide +kernel
theorem tyX4_ok : ∀ k, k < 7 → parseFieldDescriptor (TX4 k).2.2.1 = some (tyX4 k) := by decide +kernel
abbrev cX4_init : ByteArray := prog_6_method_1_code
def yX4_init : MethodName := ⟨RX4, "<init>", "(LBlowSeeker$World;)V"⟩
abbrev cX4_strikeNone : ByteArray := prog_6_method_2_code
def yX4_strikeNone : MethodName := ⟨RX4, "strikeNone", "()V"⟩
abbrev cX4_strike : ByteArray := prog_6_method_3_code
def yX4_strike : MethodName := ⟨RX4, "strike", "(I)V"⟩
abbrev cX4_strikeLike : ByteArray := prog_6_method_4_code
def yX4_strikeLike : MethodName := ⟨RX4, "strikeLike", "(LBlowSeeker$Run;I)V"⟩
abbrev cX4_feels : ByteArray := prog_6_method_5_code
def yX4_feels : MethodName := ⟨RX4, "feels", "(I)Z"⟩
abbrev cX4_goOn : ByteArray := prog_6_method_6_code
def yX4_goOn : MethodName := ⟨RX4, "goOn", "()V"⟩
abbrev cX4_live : ByteArray := prog_6_method_7_code
def yX4_live : MethodName := ⟨RX4, "live", "(II)V"⟩
abbrev cX4_breaks : ByteArray := prog_6_method_8_code
def yX4_breaks : MethodName := ⟨RX4, "breaks", "()Z"⟩
abbrev cX4_factsOf : ByteArray := prog_6_method_9_code
def yX4_factsOf : MethodName := ⟨RX4, "factsOf", "(II)I"⟩
abbrev cX4_sentFacts : ByteArray := prog_6_method_10_code
def yX4_sentFacts : MethodName := ⟨RX4, "sentFacts", "(III)I"⟩
abbrev cX4_reason : ByteArray := prog_6_method_11_code
def yX4_reason : MethodName := ⟨RX4, "reason", "(III)I"⟩
abbrev cX4_leastRule : ByteArray := prog_6_method_12_code
def yX4_leastRule : MethodName := ⟨RX4, "leastRule", "(IIII)I"⟩
abbrev cX4_leastLetter : ByteArray := prog_6_method_13_code
def yX4_leastLetter : MethodName := ⟨RX4, "leastLetter", "(III)I"⟩
abbrev cX4_share : ByteArray := prog_6_method_14_code
def yX4_share : MethodName := ⟨RX4, "share", "(II)I"⟩
def RX5 : String := "BlowSeeker$Search"
def TX5 : u_T := fun k => match k with
  | 0 => ("BlowSeeker$Search", "world", "LBlowSeeker$World;", true)
  | 1 => ("BlowSeeker$Search", "limits", "LBlowSeeker$Limits;", true)
  | 2 => ("BlowSeeker$Search", "none", "LBlowSeeker$Run;", true)
  | 3 => ("BlowSeeker$Search", "one", "LBlowSeeker$Run;", true)
  | 4 => ("BlowSeeker$Search", "two", "LBlowSeeker$Run;", true)
  | 5 => ("BlowSeeker$Search", "within", "[I", true)
  | 6 => ("BlowSeeker$Search", "breaksWith", "[I", true)
  | 7 => ("BlowSeeker$Search", "spares", "[I", true)
  | 8 => ("BlowSeeker$Search", "withinSize", "I", false)
  | 9 => ("BlowSeeker$Search", "spareSize", "I", false)
  | 10 => ("BlowSeeker$Search", "known", "Z", false)
  | 11 => ("BlowSeeker$Search", "breakSize", "I", false)
  | 12 => ("BlowSeeker$Search", "least", "I", false)
  | _ => ("BlowSeeker$Search", "other", "I", false)
def tyX5 : Nat → FieldType := fun k => match k with
  | 0 => .object "BlowSeeker$World"
  | 1 => .object "BlowSeeker$Limits"
  | 2 => .object "BlowSeeker$Run"
  | 3 => .object "BlowSeeker$Run"
  | 4 => .object "BlowSeeker$Run"
  | 5 => .array .int
  | 6 => .array .int
  | 7 => .array .int
  | 8 => .int
  | 9 => .int
  | 10 => .boolean
  | 11 => .int
  | 12 => .int
  | _ => .int
theorem nmX5 : ∀ a, a < 14 → ∀ b, b < 14 → a ≠ b → (TX5 a).2.1 ≠ (TX5 b).2.1 := by decide +kernel
theorem tyX5_ok : ∀ k, k < 14 → parseFieldDescriptor (TX5 k).2.2.1 = some (tyX5 k) := by decide +kernel
abbrev cX5_init : ByteArray := prog_7_method_1_code
def yX5_init : MethodName := ⟨RX5, "<init>", "(LBlowSeeker$World;LBlowSeeker$Limits;)V"⟩
abbrev cX5_standsIn : ByteArray := prog_7_method_2_code
def yX5_standsIn : MethodName := ⟨RX5, "standsIn", "(I)I"⟩
abbrev cX5_look : ByteArray := prog_7_method_3_code
def yX5_look : MethodName := ⟨RX5, "look", "()V"⟩
abbrev cX5_listWithin : ByteArray := prog_7_method_4_code
def yX5_listWithin : MethodName := ⟨RX5, "listWithin", "()V"⟩
abbrev cX5_lookAtOnes : ByteArray := prog_7_method_5_code
def yX5_lookAtOnes : MethodName := ⟨RX5, "lookAtOnes", "()V"⟩
abbrev cX5_lookAtPairs : ByteArray := prog_7_method_6_code
def yX5_lookAtPairs : MethodName := ⟨RX5, "lookAtPairs", "()V"⟩
abbrev cX5_noteBreak : ByteArray := prog_7_method_7_code
def yX5_noteBreak : MethodName := ⟨RX5, "noteBreak", "(III)V"⟩
abbrev cX5_cheapestMend : ByteArray := prog_7_method_8_code
def yX5_cheapestMend : MethodName := ⟨RX5, "cheapestMend", "()I"⟩
abbrev cX5_listSpares : ByteArray := prog_7_method_9_code
def yX5_listSpares : MethodName := ⟨RX5, "listSpares", "()V"⟩
abbrev cX5_priceOf : ByteArray := prog_7_method_10_code
def yX5_priceOf : MethodName := ⟨RX5, "priceOf", "(I)I"⟩
abbrev cX5_rulesOf : ByteArray := prog_7_method_11_code
def yX5_rulesOf : MethodName := ⟨RX5, "rulesOf", "(I)I"⟩
abbrev cX5_holdsAgainstOne : ByteArray := prog_7_method_12_code
def yX5_holdsAgainstOne : MethodName := ⟨RX5, "holdsAgainstOne", "()Z"⟩
def RX6 : String := "BlowSeeker$Steps"
def TX6 : u_T := fun k => match k with
  | 0 => ("BlowSeeker$Steps", "rules", "LBlowSeeker$Rules;", true)
  | 1 => ("BlowSeeker$Steps", "settled", "[I", true)
  | 2 => ("BlowSeeker$Steps", "kept", "[I", true)
  | 3 => ("BlowSeeker$Steps", "sent", "[I", true)
  | _ => ("BlowSeeker$Steps", "counting", "I", false)
def tyX6 : Nat → FieldType := fun k => match k with
  | 0 => .object "BlowSeeker$Rules"
  | 1 => .array .int
  | 2 => .array .int
  | 3 => .array .int
  | _ => .int
theorem nmX6 : ∀ a, a < 5 → ∀ b, b < 5 → a ≠ b → (TX6 a).2.1 ≠ (TX6 b).2.1 := by decide +kernel
theorem tyX6_ok : ∀ k, k < 5 → parseFieldDescriptor (TX6 k).2.2.1 = some (tyX6 k) := by decide +kernel
abbrev cX6_init : ByteArray := prog_8_method_1_code
def yX6_init : MethodName := ⟨RX6, "<init>", "(LBlowSeeker$Rules;)V"⟩
abbrev cX6_countOnly : ByteArray := prog_8_method_2_code
def yX6_countOnly : MethodName := ⟨RX6, "countOnly", "(I)V"⟩
abbrev cX6_counts : ByteArray := prog_8_method_3_code
def yX6_counts : MethodName := ⟨RX6, "counts", "(I)Z"⟩
abbrev cX6_placeOf : ByteArray := prog_8_method_4_code
def yX6_placeOf : MethodName := ⟨RX6, "placeOf", "(II)I"⟩
abbrev cX6_knows : ByteArray := prog_8_method_5_code
def yX6_knows : MethodName := ⟨RX6, "knows", "(I)Z"⟩
abbrev cX6_learn : ByteArray := prog_8_method_6_code
def yX6_learn : MethodName := ⟨RX6, "learn", "(II)V"⟩
abbrev cX6_settle : ByteArray := prog_8_method_7_code
def yX6_settle : MethodName := ⟨RX6, "settle", "(II)I"⟩
def RX7 : String := "BlowSeeker$World"
def TX7 : u_T := fun k => match k with
  | 0 => ("BlowSeeker$World", "rules", "LBlowSeeker$Rules;", true)
  | 1 => ("BlowSeeker$World", "steps", "LBlowSeeker$Steps;", true)
  | 2 => ("BlowSeeker$World", "endTick", "I", false)
  | 3 => ("BlowSeeker$World", "firstFacts", "I", false)
  | 4 => ("BlowSeeker$World", "ifBit", "I", false)
  | 5 => ("BlowSeeker$World", "thenHost", "I", false)
  | _ => ("BlowSeeker$World", "thenBit", "I", false)
def tyX7 : Nat → FieldType := fun k => match k with
  | 0 => .object "BlowSeeker$Rules"
  | 1 => .object "BlowSeeker$Steps"
  | 2 => .int
  | 3 => .int
  | 4 => .int
  | 5 => .int
  | _ => .int
theorem nmX7 : ∀ a, a < 7 → ∀ b, b < 7 → a ≠ b → (TX7 a).2.1 ≠ (TX7 b).2.1 := by decide +kernel
theorem tyX7_ok : ∀ k, k < 7 → parseFieldDescriptor (TX7 k).2.2.1 = some (tyX7 k) := by decide +kernel
abbrev cX7_init : ByteArray := prog_9_method_1_code
def yX7_init : MethodName := ⟨RX7, "<init>", "()V"⟩
def RX8 : String := "BlowSeeker"
def TX8 : u_T := fun k => match k with
  | 0 => ("BlowSeeker", "world", "LBlowSeeker$World;", true)
  | 1 => ("BlowSeeker", "limits", "LBlowSeeker$Limits;", true)
  | 2 => ("BlowSeeker", "search", "LBlowSeeker$Search;", true)
  | 3 => ("BlowSeeker", "handRun", "LBlowSeeker$Run;", true)
  | 4 => ("BlowSeeker", "inHand", "[I", true)
  | 5 => ("BlowSeeker", "latest", "[I", true)
  | 6 => ("BlowSeeker", "handSize", "I", false)
  | 7 => ("BlowSeeker", "latestSize", "I", false)
  | _ => ("BlowSeeker", "handRunKnown", "Z", false)
def tyX8 : Nat → FieldType := fun k => match k with
  | 0 => .object "BlowSeeker$World"
  | 1 => .object "BlowSeeker$Limits"
  | 2 => .object "BlowSeeker$Search"
  | 3 => .object "BlowSeeker$Run"
  | 4 => .array .int
  | 5 => .array .int
  | 6 => .int
  | 7 => .int
  | _ => .boolean
theorem nmX8 : ∀ a, a < 9 → ∀ b, b < 9 → a ≠ b → (TX8 a).2.1 ≠ (TX8 b).2.1 := by decide +kernel
theorem tyX8_ok : ∀ k, k < 9 → parseFieldDescriptor (TX8 k).2.2.1 = some (tyX8 k) := by decide +kernel
abbrev cX8_init : ByteArray := prog_1_method_1_code
def yX8_init : MethodName := ⟨RX8, "<init>", "()V"⟩
abbrev cX8_end : ByteArray := prog_1_method_2_code
def yX8_end : MethodName := ⟨RX8, "end", "(I)I"⟩
abbrev cX8_rule : ByteArray := prog_1_method_3_code
def yX8_rule : MethodName := ⟨RX8, "rule", "(IIIIIII)I"⟩
abbrev cX8_spare : ByteArray := prog_1_method_4_code
def yX8_spare : MethodName := ⟨RX8, "spare", "(II)I"⟩
abbrev cX8_first : ByteArray := prog_1_method_5_code
def yX8_first : MethodName := ⟨RX8, "first", "(III)I"⟩
abbrev cX8_promise : ByteArray := prog_1_method_6_code
def yX8_promise : MethodName := ⟨RX8, "promise", "(IIII)I"⟩
abbrev cX8_bounds : ByteArray := prog_1_method_7_code
def yX8_bounds : MethodName := ⟨RX8, "bounds", "(III)I"⟩
abbrev cX8_blow : ByteArray := prog_1_method_8_code
def yX8_blow : MethodName := ⟨RX8, "blow", "(I)I"⟩
abbrev cX8_clear : ByteArray := prog_1_method_9_code
def yX8_clear : MethodName := ⟨RX8, "clear", "()I"⟩
abbrev cX8_facts : ByteArray := prog_1_method_10_code
def yX8_facts : MethodName := ⟨RX8, "facts", "(II)I"⟩
abbrev cX8_letters : ByteArray := prog_1_method_11_code
def yX8_letters : MethodName := ⟨RX8, "letters", "(III)I"⟩
abbrev cX8_broken : ByteArray := prog_1_method_12_code
def yX8_broken : MethodName := ⟨RX8, "broken", "()I"⟩
abbrev cX8_why : ByteArray := prog_1_method_13_code
def yX8_why : MethodName := ⟨RX8, "why", "(III)I"⟩
abbrev cX8_layer : ByteArray := prog_1_method_14_code
def yX8_layer : MethodName := ⟨RX8, "layer", "(I)I"⟩
abbrev cX8_seek : ByteArray := prog_1_method_15_code
def yX8_seek : MethodName := ⟨RX8, "seek", "()I"⟩
abbrev cX8_found : ByteArray := prog_1_method_16_code
def yX8_found : MethodName := ⟨RX8, "found", "(I)I"⟩
abbrev cX8_sets : ByteArray := prog_1_method_17_code
def yX8_sets : MethodName := ⟨RX8, "sets", "()I"⟩
abbrev cX8_weak : ByteArray := prog_1_method_18_code
def yX8_weak : MethodName := ⟨RX8, "weak", "(I)I"⟩
abbrev cX8_shrink : ByteArray := prog_1_method_19_code
def yX8_shrink : MethodName := ⟨RX8, "shrink", "()I"⟩
abbrev cX8_mend : ByteArray := prog_1_method_20_code
def yX8_mend : MethodName := ⟨RX8, "mend", "()I"⟩
abbrev cX8_count : ByteArray := prog_1_method_21_code
def yX8_count : MethodName := ⟨RX8, "count", "(I)I"⟩
abbrev cX8_hand : ByteArray := prog_1_method_22_code
def yX8_hand : MethodName := ⟨RX8, "hand", "(I)I"⟩
abbrev cX8_isHost : ByteArray := prog_1_method_23_code
def yX8_isHost : MethodName := ⟨RX8, "isHost", "(I)Z"⟩
abbrev cX8_isFact : ByteArray := prog_1_method_24_code
def yX8_isFact : MethodName := ⟨RX8, "isFact", "(I)Z"⟩
abbrev cX8_isTick : ByteArray := prog_1_method_25_code
def yX8_isTick : MethodName := ⟨RX8, "isTick", "(I)Z"⟩
abbrev cX8_bitOf : ByteArray := prog_1_method_26_code
def yX8_bitOf : MethodName := ⟨RX8, "bitOf", "(II)I"⟩
abbrev cX8_forgetRuns : ByteArray := prog_1_method_27_code
def yX8_forgetRuns : MethodName := ⟨RX8, "forgetRuns", "()V"⟩
abbrev cX8_forgetRules : ByteArray := prog_1_method_28_code
def yX8_forgetRules : MethodName := ⟨RX8, "forgetRules", "()V"⟩
abbrev cX8_runHand : ByteArray := prog_1_method_29_code
def yX8_runHand : MethodName := ⟨RX8, "runHand", "()V"⟩
abbrev cX8_strikeHandBut : ByteArray := prog_1_method_30_code
def yX8_strikeHandBut : MethodName := ⟨RX8, "strikeHandBut", "(I)V"⟩
abbrev cX8_dropNeedless : ByteArray := prog_1_method_31_code
def yX8_dropNeedless : MethodName := ⟨RX8, "dropNeedless", "()Z"⟩
abbrev cX8_placeOfLeastAbove : ByteArray := prog_1_method_32_code
def yX8_placeOfLeastAbove : MethodName := ⟨RX8, "placeOfLeastAbove", "(I)I"⟩
abbrev cX8_dropFromHand : ByteArray := prog_1_method_33_code
def yX8_dropFromHand : MethodName := ⟨RX8, "dropFromHand", "(I)V"⟩
def RX9 : String := "BlowSeekerModel"
def TX9 : u_T := fun k => match k with
  | 0 => ("BlowSeekerModel", "end", "I", false)
  | 1 => ("BlowSeekerModel", "rules", "I", false)
  | 2 => ("BlowSeekerModel", "host", "[I", true)
  | 3 => ("BlowSeekerModel", "kind", "[I", true)
  | 4 => ("BlowSeekerModel", "head", "[I", true)
  | 5 => ("BlowSeekerModel", "one", "[I", true)
  | 6 => ("BlowSeekerModel", "two", "[I", true)
  | 7 => ("BlowSeekerModel", "not", "[I", true)
  | 8 => ("BlowSeekerModel", "to", "[I", true)
  | 9 => ("BlowSeekerModel", "price", "[I", true)
  | 10 => ("BlowSeekerModel", "first", "[I", true)
  | 11 => ("BlowSeekerModel", "layer", "[I", true)
  | 12 => ("BlowSeekerModel", "pA", "I", false)
  | 13 => ("BlowSeekerModel", "pP", "I", false)
  | 14 => ("BlowSeekerModel", "pB", "I", false)
  | 15 => ("BlowSeekerModel", "pQ", "I", false)
  | 16 => ("BlowSeekerModel", "losses", "I", false)
  | 17 => ("BlowSeekerModel", "falls", "I", false)
  | 18 => ("BlowSeekerModel", "upTo", "I", false)
  | 19 => ("BlowSeekerModel", "hands", "I", false)
  | 20 => ("BlowSeekerModel", "hand", "[I", true)
  | 21 => ("BlowSeekerModel", "breaks", "I", false)
  | 22 => ("BlowSeekerModel", "found", "[I", true)
  | 23 => ("BlowSeekerModel", "blows", "I", false)
  | 24 => ("BlowSeekerModel", "blow", "[I", true)
  | 25 => ("BlowSeekerModel", "putIn", "I", false)
  | 26 => ("BlowSeekerModel", "begun", "[I", true)
  | 27 => ("BlowSeekerModel", "has", "[I", true)
  | 28 => ("BlowSeekerModel", "sent", "[I", true)
  | 29 => ("BlowSeekerModel", "fallsAt", "[I", true)
  | 30 => ("BlowSeekerModel", "highest", "I", false)
  | 31 => ("BlowSeekerModel", "told", "[I", true)
  | _ => ("BlowSeekerModel", "spares", "[I", true)
def tyX9 : Nat → FieldType := fun k => match k with
  | 0 => .int
  | 1 => .int
  | 2 => .array .int
  | 3 => .array .int
  | 4 => .array .int
  | 5 => .array .int
  | 6 => .array .int
  | 7 => .array .int
  | 8 => .array .int
  | 9 => .array .int
  | 10 => .array .int
  | 11 => .array .int
  | 12 => .int
  | 13 => .int
  | 14 => .int
  | 15 => .int
  | 16 => .int
  | 17 => .int
  | 18 => .int
  | 19 => .int
  | 20 => .array .int
  | 21 => .int
  | 22 => .array .int
  | 23 => .int
  | 24 => .array .int
  | 25 => .int
  | 26 => .array .int
  | 27 => .array .int
  | 28 => .array .int
  | 29 => .array .int
  | 30 => .int
  | 31 => .array .int
  | _ => .array .int
theorem nmX9 : ∀ a, a < 33 → ∀ b, b < 33 → a ≠ b → (TX9 a).2.1 ≠ (TX9 b).2.1 := by decide +kernel
theorem tyX9_ok : ∀ k, k < 33 → parseFieldDescriptor (TX9 k).2.2.1 = some (tyX9 k) := by decide +kernel
abbrev cX9_init : ByteArray := prog_11_method_1_code
def yX9_init : MethodName := ⟨RX9, "<init>", "()V"⟩
abbrev cX9_in : ByteArray := prog_11_method_2_code
def yX9_in : MethodName := ⟨RX9, "in", "(III)Z"⟩
abbrev cX9_isHost : ByteArray := prog_11_method_3_code
def yX9_isHost : MethodName := ⟨RX9, "isHost", "(I)Z"⟩
abbrev cX9_isFact : ByteArray := prog_11_method_4_code
def yX9_isFact : MethodName := ⟨RX9, "isFact", "(I)Z"⟩
abbrev cX9_isTick : ByteArray := prog_11_method_5_code
def yX9_isTick : MethodName := ⟨RX9, "isTick", "(I)Z"⟩
abbrev cX9_isRule : ByteArray := prog_11_method_6_code
def yX9_isRule : MethodName := ⟨RX9, "isRule", "(I)Z"⟩
abbrev cX9_end : ByteArray := prog_11_method_7_code
def yX9_end : MethodName := ⟨RX9, "end", "(I)I"⟩
abbrev cX9_lays : ByteArray := prog_11_method_8_code
def yX9_lays : MethodName := ⟨RX9, "lays", "()Z"⟩
abbrev cX9_rule : ByteArray := prog_11_method_9_code
def yX9_rule : MethodName := ⟨RX9, "rule", "(IIIIIII)I"⟩
abbrev cX9_sets : ByteArray := prog_11_method_10_code
def yX9_sets : MethodName := ⟨RX9, "sets", "(IIIIIIII)V"⟩
abbrev cX9_spare : ByteArray := prog_11_method_11_code
def yX9_spare : MethodName := ⟨RX9, "spare", "(II)I"⟩
abbrev cX9_first : ByteArray := prog_11_method_12_code
def yX9_first : MethodName := ⟨RX9, "first", "(III)I"⟩
abbrev cX9_promise : ByteArray := prog_11_method_13_code
def yX9_promise : MethodName := ⟨RX9, "promise", "(IIII)I"⟩
abbrev cX9_bounds : ByteArray := prog_11_method_14_code
def yX9_bounds : MethodName := ⟨RX9, "bounds", "(III)I"⟩
abbrev cX9_isLoss : ByteArray := prog_11_method_15_code
def yX9_isLoss : MethodName := ⟨RX9, "isLoss", "(I)Z"⟩
abbrev cX9_tickOf : ByteArray := prog_11_method_16_code
def yX9_tickOf : MethodName := ⟨RX9, "tickOf", "(I)I"⟩
abbrev cX9_isBlow : ByteArray := prog_11_method_17_code
def yX9_isBlow : MethodName := ⟨RX9, "isBlow", "(I)Z"⟩
abbrev cX9_blow : ByteArray := prog_11_method_18_code
def yX9_blow : MethodName := ⟨RX9, "blow", "(I)I"⟩
abbrev cX9_clear : ByteArray := prog_11_method_19_code
def yX9_clear : MethodName := ⟨RX9, "clear", "()I"⟩
abbrev cX9_hand : ByteArray := prog_11_method_20_code
def yX9_hand : MethodName := ⟨RX9, "hand", "(I)I"⟩
abbrev cX9_isStruck : ByteArray := prog_11_method_21_code
def yX9_isStruck : MethodName := ⟨RX9, "isStruck", "(I)Z"⟩
abbrev cX9_falls : ByteArray := prog_11_method_22_code
def yX9_falls : MethodName := ⟨RX9, "falls", "()V"⟩
abbrev cX9_isFallen : ByteArray := prog_11_method_23_code
def yX9_isFallen : MethodName := ⟨RX9, "isFallen", "(II)Z"⟩
abbrev cX9_counts : ByteArray := prog_11_method_24_code
def yX9_counts : MethodName := ⟨RX9, "counts", "(II)Z"⟩
abbrev cX9_fits : ByteArray := prog_11_method_25_code
def yX9_fits : MethodName := ⟨RX9, "fits", "(II)Z"⟩
abbrev cX9_closed : ByteArray := prog_11_method_26_code
def yX9_closed : MethodName := ⟨RX9, "closed", "(II)I"⟩
abbrev cX9_came : ByteArray := prog_11_method_27_code
def yX9_came : MethodName := ⟨RX9, "came", "(II)I"⟩
abbrev cX9_keptBy : ByteArray := prog_11_method_28_code
def yX9_keptBy : MethodName := ⟨RX9, "keptBy", "(II)I"⟩
abbrev cX9_runs : ByteArray := prog_11_method_29_code
def yX9_runs : MethodName := ⟨RX9, "runs", "()V"⟩
abbrev cX9_isBroken : ByteArray := prog_11_method_30_code
def yX9_isBroken : MethodName := ⟨RX9, "isBroken", "()Z"⟩
abbrev cX9_takesHand : ByteArray := prog_11_method_31_code
def yX9_takesHand : MethodName := ⟨RX9, "takesHand", "()V"⟩
abbrev cX9_facts : ByteArray := prog_11_method_32_code
def yX9_facts : MethodName := ⟨RX9, "facts", "(II)I"⟩
abbrev cX9_bits : ByteArray := prog_11_method_33_code
def yX9_bits : MethodName := ⟨RX9, "bits", "(I)I"⟩
abbrev cX9_letters : ByteArray := prog_11_method_34_code
def yX9_letters : MethodName := ⟨RX9, "letters", "(III)I"⟩
abbrev cX9_broken : ByteArray := prog_11_method_35_code
def yX9_broken : MethodName := ⟨RX9, "broken", "()I"⟩
abbrev cX9_why : ByteArray := prog_11_method_36_code
def yX9_why : MethodName := ⟨RX9, "why", "(III)I"⟩
abbrev cX9_leastNow : ByteArray := prog_11_method_37_code
def yX9_leastNow : MethodName := ⟨RX9, "leastNow", "(III)I"⟩
abbrev cX9_letterOf : ByteArray := prog_11_method_38_code
def yX9_letterOf : MethodName := ⟨RX9, "letterOf", "(III)I"⟩
abbrev cX9_layer : ByteArray := prog_11_method_39_code
def yX9_layer : MethodName := ⟨RX9, "layer", "(I)I"⟩
abbrev cX9_isWithin : ByteArray := prog_11_method_40_code
def yX9_isWithin : MethodName := ⟨RX9, "isWithin", "(I)Z"⟩
abbrev cX9_areWithin : ByteArray := prog_11_method_41_code
def yX9_areWithin : MethodName := ⟨RX9, "areWithin", "(II)Z"⟩
abbrev cX9_breaks : ByteArray := prog_11_method_42_code
def yX9_breaks : MethodName := ⟨RX9, "breaks", "(II)Z"⟩
abbrev cX9_seeks : ByteArray := prog_11_method_43_code
def yX9_seeks : MethodName := ⟨RX9, "seeks", "()I"⟩
abbrev cX9_seek : ByteArray := prog_11_method_44_code
def yX9_seek : MethodName := ⟨RX9, "seek", "()I"⟩
abbrev cX9_found : ByteArray := prog_11_method_45_code
def yX9_found : MethodName := ⟨RX9, "found", "(I)I"⟩
abbrev cX9_sets_ : ByteArray := prog_11_method_46_code
def yX9_sets_ : MethodName := ⟨RX9, "sets", "()I"⟩
abbrev cX9_weak : ByteArray := prog_11_method_47_code
def yX9_weak : MethodName := ⟨RX9, "weak", "(I)I"⟩
abbrev cX9_shrink : ByteArray := prog_11_method_48_code
def yX9_shrink : MethodName := ⟨RX9, "shrink", "()I"⟩
abbrev cX9_nextGone : ByteArray := prog_11_method_49_code
def yX9_nextGone : MethodName := ⟨RX9, "nextGone", "()I"⟩
abbrev cX9_isBrokenWithout : ByteArray := prog_11_method_50_code
def yX9_isBrokenWithout : MethodName := ⟨RX9, "isBrokenWithout", "(I)Z"⟩
abbrev cX9_isMended : ByteArray := prog_11_method_51_code
def yX9_isMended : MethodName := ⟨RX9, "isMended", "()Z"⟩
abbrev cX9_mend : ByteArray := prog_11_method_52_code
def yX9_mend : MethodName := ⟨RX9, "mend", "()I"⟩
abbrev cX9_count : ByteArray := prog_11_method_53_code
def yX9_count : MethodName := ⟨RX9, "count", "(I)I"⟩
def RJx145de : String := "java/io/Serializable"
def TJx145de : u_T := fun k => match k with
  | _ => ("", "", "", false)
def tyJx145de : Nat → FieldType := fun k => match k with
  | _ => .int
theorem nmJx145de : ∀ a, a < 0 → ∀ b, b < 0 → a ≠ b → (TJx145de a).2.1 ≠ (TJx145de b).2.1 := by decide +kernel
theorem tyJx145de_ok : ∀ k, k < 0 → parseFieldDescriptor (TJx145de k).2.2.1 = some (tyJx145de k) := by decide +kernel
def RJx8e188 : String := "java/lang/Cloneable"
def TJx8e188 : u_T := fun k => match k with
  | _ => ("", "", "", false)
def tyJx8e188 : Nat → FieldType := fun k => match k with
  | _ => .int
theorem nmJx8e188 : ∀ a, a < 0 → ∀ b, b < 0 → a ≠ b → (TJx8e188 a).2.1 ≠ (TJx8e188 b).2.1 := by decide +kernel
theorem tyJx8e188_ok : ∀ k, k < 0 → parseFieldDescriptor (TJx8e188 k).2.2.1 = some (tyJx8e188 k) := by decide +kernel
def RJ6 : String := "java/lang/Integer"
def TJ6 : u_T := fun k => match k with
  | _ => ("", "", "", false)
def tyJ6 : Nat → FieldType := fun k => match k with
  | _ => .int
theorem nmJ6 : ∀ a, a < 0 → ∀ b, b < 0 → a ≠ b → (TJ6 a).2.1 ≠ (TJ6 b).2.1 := by decide +kernel
theorem tyJ6_ok : ∀ k, k < 0 → parseFieldDescriptor (TJ6 k).2.2.1 = some (tyJ6 k) := by decide +kernel
abbrev cJ6_bitCount_0f7a4 : ByteArray := prog_14_method_49_code
def yJ6_bitCount_0f7a4 : MethodName := ⟨RJ6, "bitCount", "(I)I"⟩
def RJxab1ab : String := "java/lang/Iterable"
def TJxab1ab : u_T := fun k => match k with
  | _ => ("", "", "", false)
def tyJxab1ab : Nat → FieldType := fun k => match k with
  | _ => .int
theorem nmJxab1ab : ∀ a, a < 0 → ∀ b, b < 0 → a ≠ b → (TJxab1ab a).2.1 ≠ (TJxab1ab b).2.1 := by decide +kernel
theorem tyJxab1ab_ok : ∀ k, k < 0 → parseFieldDescriptor (TJxab1ab k).2.2.1 = some (tyJxab1ab k) := by decide +kernel
def RJ9 : String := "java/lang/Math"
def TJ9 : u_T := fun k => match k with
  | _ => ("", "", "", false)
def tyJ9 : Nat → FieldType := fun k => match k with
  | _ => .int
theorem nmJ9 : ∀ a, a < 0 → ∀ b, b < 0 → a ≠ b → (TJ9 a).2.1 ≠ (TJ9 b).2.1 := by decide +kernel
theorem tyJ9_ok : ∀ k, k < 0 → parseFieldDescriptor (TJ9 k).2.2.1 = some (tyJ9 k) := by decide +kernel
abbrev cJ9_max_7cf53 : ByteArray := prog_16_method_65_code
def yJ9_max_7cf53 : MethodName := ⟨RJ9, "max", "(II)I"⟩
abbrev cJ9_min_7cf53 : ByteArray := prog_16_method_69_code
def yJ9_min_7cf53 : MethodName := ⟨RJ9, "min", "(II)I"⟩
def RJ10 : String := "java/lang/System"
def TJ10 : u_T := fun k => match k with
  | _ => ("", "", "", false)
def tyJ10 : Nat → FieldType := fun k => match k with
  | _ => .int
theorem nmJ10 : ∀ a, a < 0 → ∀ b, b < 0 → a ≠ b → (TJ10 a).2.1 ≠ (TJ10 b).2.1 := by decide +kernel
theorem tyJ10_ok : ∀ k, k < 0 → parseFieldDescriptor (TJ10 k).2.2.1 = some (tyJ10 k) := by decide +kernel
def RJxa1e45 : String := "java/util/AbstractCollection"
def TJxa1e45 : u_T := fun k => match k with
  | _ => ("", "", "", false)
def tyJxa1e45 : Nat → FieldType := fun k => match k with
  | _ => .int
theorem nmJxa1e45 : ∀ a, a < 0 → ∀ b, b < 0 → a ≠ b → (TJxa1e45 a).2.1 ≠ (TJxa1e45 b).2.1 := by decide +kernel
theorem tyJxa1e45_ok : ∀ k, k < 0 → parseFieldDescriptor (TJxa1e45 k).2.2.1 = some (tyJxa1e45 k) := by decide +kernel
abbrev cJxa1e45_init_da8c8 : ByteArray := prog_18_method_1_code
def yJxa1e45_init_da8c8 : MethodName := ⟨RJxa1e45, "<init>", "()V"⟩
def RJxc12de : String := "java/util/AbstractList"
def TJxc12de : u_T := fun k => match k with
  | _ => ("", "", "", false)
def tyJxc12de : Nat → FieldType := fun k => match k with
  | _ => .int
theorem nmJxc12de : ∀ a, a < 0 → ∀ b, b < 0 → a ≠ b → (TJxc12de a).2.1 ≠ (TJxc12de b).2.1 := by decide +kernel
theorem tyJxc12de_ok : ∀ k, k < 0 → parseFieldDescriptor (TJxc12de k).2.2.1 = some (tyJxc12de k) := by decide +kernel
abbrev cJxc12de_init_da8c8 : ByteArray := prog_19_method_1_code
def yJxc12de_init_da8c8 : MethodName := ⟨RJxc12de, "<init>", "()V"⟩
def RJx4a65c : String := "java/util/ArrayList"
def TJx4a65c : u_T := fun k => match k with
  | 0 => ("java/util/AbstractList", "modCount", "I", false)
  | 1 => ("java/util/ArrayList", "elementData", "[Ljava/lang/Object;", false)
  | _ => ("java/util/ArrayList", "size", "I", false)
def tyJx4a65c : Nat → FieldType := fun k => match k with
  | 0 => .int
  | 1 => .array (.object "java/lang/Object")
  | _ => .int
theorem nmJx4a65c : ∀ a, a < 3 → ∀ b, b < 3 → a ≠ b → (TJx4a65c a).2.1 ≠ (TJx4a65c b).2.1 := by decide +kernel
theorem tyJx4a65c_ok : ∀ k, k < 3 → parseFieldDescriptor (TJx4a65c k).2.2.1 = some (tyJx4a65c k) := by decide +kernel
abbrev cJx4a65c_init_da8c8 : ByteArray := prog_20_method_2_code
def yJx4a65c_init_da8c8 : MethodName := ⟨RJx4a65c, "<init>", "()V"⟩
abbrev cJx4a65c_grow_92f84 : ByteArray := prog_20_method_6_code
def yJx4a65c_grow_92f84 : MethodName := ⟨RJx4a65c, "grow", "(I)[Ljava/lang/Object;"⟩
abbrev cJx4a65c_grow_d5877 : ByteArray := prog_20_method_7_code
def yJx4a65c_grow_d5877 : MethodName := ⟨RJx4a65c, "grow", "()[Ljava/lang/Object;"⟩
abbrev cJx4a65c_size_8abf5 : ByteArray := prog_20_method_8_code
def yJx4a65c_size_8abf5 : MethodName := ⟨RJx4a65c, "size", "()I"⟩
abbrev cJx4a65c_elementData_915e3 : ByteArray := prog_20_method_18_code
def yJx4a65c_elementData_915e3 : MethodName := ⟨RJx4a65c, "elementData", "(I)Ljava/lang/Object;"⟩
abbrev cJx4a65c_get_915e3 : ByteArray := prog_20_method_20_code
def yJx4a65c_get_915e3 : MethodName := ⟨RJx4a65c, "get", "(I)Ljava/lang/Object;"⟩
abbrev cJx4a65c_add_72be8 : ByteArray := prog_20_method_24_code
def yJx4a65c_add_72be8 : MethodName := ⟨RJx4a65c, "add", "(Ljava/lang/Object;[Ljava/lang/Object;I)V"⟩
abbrev cJx4a65c_add_9ea2d : ByteArray := prog_20_method_25_code
def yJx4a65c_add_9ea2d : MethodName := ⟨RJx4a65c, "add", "(Ljava/lang/Object;)Z"⟩
def RJ7 : String := "java/util/Arrays"
def TJ7 : u_T := fun k => match k with
  | _ => ("", "", "", false)
def tyJ7 : Nat → FieldType := fun k => match k with
  | _ => .int
theorem nmJ7 : ∀ a, a < 0 → ∀ b, b < 0 → a ≠ b → (TJ7 a).2.1 ≠ (TJ7 b).2.1 := by decide +kernel
theorem tyJ7_ok : ∀ k, k < 0 → parseFieldDescriptor (TJ7 k).2.2.1 = some (tyJ7 k) := by decide +kernel
abbrev cJ7_fill_53178 : ByteArray := prog_21_method_103_code
def yJ7_fill_53178 : MethodName := ⟨RJ7, "fill", "([II)V"⟩
abbrev cJ7_copyOf_1904c : ByteArray := prog_21_method_119_code
def yJ7_copyOf_1904c : MethodName := ⟨RJ7, "copyOf", "([Ljava/lang/Object;I)[Ljava/lang/Object;"⟩
abbrev cJ7_copyOf_6403c : ByteArray := prog_21_method_120_code
def yJ7_copyOf_6403c : MethodName := ⟨RJ7, "copyOf", "([Ljava/lang/Object;ILjava/lang/Class;)[Ljava/lang/Object;"⟩
def RJx5ef63 : String := "java/util/Collection"
def TJx5ef63 : u_T := fun k => match k with
  | _ => ("", "", "", false)
def tyJx5ef63 : Nat → FieldType := fun k => match k with
  | _ => .int
theorem nmJx5ef63 : ∀ a, a < 0 → ∀ b, b < 0 → a ≠ b → (TJx5ef63 a).2.1 ≠ (TJx5ef63 b).2.1 := by decide +kernel
theorem tyJx5ef63_ok : ∀ k, k < 0 → parseFieldDescriptor (TJx5ef63 k).2.2.1 = some (tyJx5ef63 k) := by decide +kernel
def RJxbd725 : String := "java/util/List"
def TJxbd725 : u_T := fun k => match k with
  | _ => ("", "", "", false)
def tyJxbd725 : Nat → FieldType := fun k => match k with
  | _ => .int
theorem nmJxbd725 : ∀ a, a < 0 → ∀ b, b < 0 → a ≠ b → (TJxbd725 a).2.1 ≠ (TJxbd725 b).2.1 := by decide +kernel
theorem tyJxbd725_ok : ∀ k, k < 0 → parseFieldDescriptor (TJxbd725 k).2.2.1 = some (tyJxbd725 k) := by decide +kernel
def RJ15 : String := "java/util/Objects"
def TJ15 : u_T := fun k => match k with
  | _ => ("", "", "", false)
def tyJ15 : Nat → FieldType := fun k => match k with
  | _ => .int
theorem nmJ15 : ∀ a, a < 0 → ∀ b, b < 0 → a ≠ b → (TJ15 a).2.1 ≠ (TJ15 b).2.1 := by decide +kernel
theorem tyJ15_ok : ∀ k, k < 0 → parseFieldDescriptor (TJ15 k).2.2.1 = some (tyJ15 k) := by decide +kernel
abbrev cJ15_checkIndex_7cf53 : ByteArray := prog_24_method_17_code
def yJ15_checkIndex_7cf53 : MethodName := ⟨RJ15, "checkIndex", "(II)I"⟩
def RJxf0a74 : String := "java/util/RandomAccess"
def TJxf0a74 : u_T := fun k => match k with
  | _ => ("", "", "", false)
def tyJxf0a74 : Nat → FieldType := fun k => match k with
  | _ => .int
theorem nmJxf0a74 : ∀ a, a < 0 → ∀ b, b < 0 → a ≠ b → (TJxf0a74 a).2.1 ≠ (TJxf0a74 b).2.1 := by decide +kernel
theorem tyJxf0a74_ok : ∀ k, k < 0 → parseFieldDescriptor (TJxf0a74 k).2.2.1 = some (tyJxf0a74 k) := by decide +kernel
def RJxa66e6 : String := "java/util/SequencedCollection"
def TJxa66e6 : u_T := fun k => match k with
  | _ => ("", "", "", false)
def tyJxa66e6 : Nat → FieldType := fun k => match k with
  | _ => .int
theorem nmJxa66e6 : ∀ a, a < 0 → ∀ b, b < 0 → a ≠ b → (TJxa66e6 a).2.1 ≠ (TJxa66e6 b).2.1 := by decide +kernel
theorem tyJxa66e6_ok : ∀ k, k < 0 → parseFieldDescriptor (TJxa66e6 k).2.2.1 = some (tyJxa66e6 k) := by decide +kernel
def RJ8 : String := "jdk/internal/util/ArraysSupport"
def TJ8 : u_T := fun k => match k with
  | _ => ("", "", "", false)
def tyJ8 : Nat → FieldType := fun k => match k with
  | _ => .int
theorem nmJ8 : ∀ a, a < 0 → ∀ b, b < 0 → a ≠ b → (TJ8 a).2.1 ≠ (TJ8 b).2.1 := by decide +kernel
theorem tyJ8_ok : ∀ k, k < 0 → parseFieldDescriptor (TJ8 k).2.2.1 = some (tyJ8 k) := by decide +kernel
abbrev cJ8_newLength_cabcc : ByteArray := prog_27_method_27_code
def yJ8_newLength_cabcc : MethodName := ⟨RJ8, "newLength", "(III)I"⟩
abbrev cJ8_hugeLength_7cf53 : ByteArray := prog_27_method_28_code
def yJ8_hugeLength_7cf53 : MethodName := ⟨RJ8, "hugeLength", "(II)I"⟩
def RJ3 : String := "jdk/internal/util/Preconditions"
def TJ3 : u_T := fun k => match k with
  | _ => ("", "", "", false)
def tyJ3 : Nat → FieldType := fun k => match k with
  | _ => .int
theorem nmJ3 : ∀ a, a < 0 → ∀ b, b < 0 → a ≠ b → (TJ3 a).2.1 ≠ (TJ3 b).2.1 := by decide +kernel
theorem tyJ3_ok : ∀ k, k < 0 → parseFieldDescriptor (TJ3 k).2.2.1 = some (tyJ3 k) := by decide +kernel
abbrev cJ3_checkIndex_8e157 : ByteArray := prog_28_method_11_code
def yJ3_checkIndex_8e157 : MethodName := ⟨RJ3, "checkIndex", "(IILjava/util/function/BiFunction;)I"⟩
def RL : String := "BlowSeekerLaw"
abbrev cL_law : ByteArray := code
def yL_law : MethodName := ⟨RL, "law", "([I)Z"⟩
abbrev vwCl : List vw_C := [(RJx4a65c, TJx4a65c, 3), (RX1, TX1, 3), (RX2, TX2, 10), (RX3, TX3, 3), (RX4, TX4, 7), (RX5, TX5, 14), (RX6, TX6, 5), (RX7, TX7, 7), (RX8, TX8, 9), (RX9, TX9, 33)]
