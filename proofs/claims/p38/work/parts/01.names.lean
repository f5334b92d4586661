/-! ===== BEGIN words of one list among another's, by their places ===== -/
theorem goodIn_r {big : List Cond} (ws : List Cond) (ps : List Nat) (hp : ws = ps.filterMap (fun i => big[i]?)) (h : ws.all goodWord = true) : GoodIn big ws := by
  intro w hw
  have h1 := List.all_eq_true.mp h w hw
  rw [hp] at hw
  obtain ⟨i, -, hi⟩ := List.mem_filterMap.mp hw
  have hm : w ∈ big := by first | exact List.mem_of_getElem? hi | exact List.getElem?_mem hi
  exact ⟨hm, good_of_word h1⟩
theorem goodIn_app {big a b : List Cond} (ha : GoodIn big a) (hb : GoodIn big b) : GoodIn big (a ++ b) := fun w h => (List.mem_append.mp h).elim (ha w) (hb w)
theorem goodIn_ca {big a b : List Cond} {c : Cond} (ha : GoodIn big (c :: a)) (hb : GoodIn big b) : GoodIn big (c :: (a ++ b)) := fun w h => (List.mem_cons.mp h).elim (fun e => ha w (List.mem_cons.mpr (Or.inl e))) (fun h => (List.mem_append.mp h).elim (fun h => ha w (List.mem_cons.mpr (Or.inr h))) (hb w))
theorem goodIn_sub {big ws : List Cond} (hm : ∀ w ∈ ws, w ∈ big) (h : ws.all goodWord = true) : GoodIn big ws := fun w hw => ⟨hm w hw, good_of_word (List.all_eq_true.mp h w hw)⟩
def RX0 : String := "CounterBraid$Bounds"
def TX0 : u_T := fun k => match k with
  | 0 => ("CounterBraid$Bounds", "least", "[J", true)
  | 1 => ("CounterBraid$Bounds", "greatest", "[J", true)
  | 2 => ("CounterBraid$Bounds", "lowerSums", "[J", true)
  | 3 => ("CounterBraid$Bounds", "upperSums", "[J", true)
  | 4 => ("CounterBraid$Bounds", "lower", "[J", true)
  | 5 => ("CounterBraid$Bounds", "upper", "[J", true)
  | 6 => ("CounterBraid$Bounds", "places", "[[I", true)
  | 7 => ("CounterBraid$Bounds", "placeCounts", "[I", true)
  | _ => ("CounterBraid$Bounds", "things", "I", false)
def tyX0 : Nat → FieldType := fun k => match k with
  | 0 => .array .long
  | 1 => .array .long
  | 2 => .array .long
  | 3 => .array .long
  | 4 => .array .long
  | 5 => .array .long
  | 6 => .array (.array .int)
  | 7 => .array .int
  | _ => .int
abbrev wsX00 : List Cond := u_ws RX0 TX0 9
theorem nmX0 : ∀ a, a < 9 → ∀ b, b < 9 → a ≠ b → (TX0 a).2.1 ≠ (TX0 b).2.1 := by decide +kernel
theorem tyX0_ok : ∀ k, k < 9 → parseFieldDescriptor (TX0 k).2.2.1 = some (tyX0 k) := by decide +kernel
abbrev cX0_init : ByteArray := prog_2_method_1_code
def yX0_init : MethodName := ⟨RX0, "<init>", "()V"⟩
abbrev cX0_start : ByteArray := prog_2_method_2_code
def yX0_start : MethodName := ⟨RX0, "start", "()V"⟩
abbrev cX0_append : ByteArray := prog_2_method_3_code
def yX0_append : MethodName := ⟨RX0, "append", "(IJ)V"⟩
abbrev cX0_narrow : ByteArray := prog_2_method_4_code
def yX0_narrow : MethodName := ⟨RX0, "narrow", "(I)I"⟩
abbrev cX0_narrowOnce : ByteArray := prog_2_method_5_code
def yX0_narrowOnce : MethodName := ⟨RX0, "narrowOnce", "()Z"⟩
abbrev cX0_sumBounds : ByteArray := prog_2_method_6_code
def yX0_sumBounds : MethodName := ⟨RX0, "sumBounds", "()V"⟩
abbrev cX0_narrowThing : ByteArray := prog_2_method_7_code
def yX0_narrowThing : MethodName := ⟨RX0, "narrowThing", "(I)Z"⟩
abbrev cX0_boundOf : ByteArray := prog_2_method_8_code
def yX0_boundOf : MethodName := ⟨RX0, "boundOf", "(IZ)J"⟩
abbrev cX0_certainThings : ByteArray := prog_2_method_9_code
def yX0_certainThings : MethodName := ⟨RX0, "certainThings", "()I"⟩
abbrev cX0_sumOfBounds : ByteArray := prog_2_method_10_code
def yX0_sumOfBounds : MethodName := ⟨RX0, "sumOfBounds", "(Z)J"⟩
abbrev cX0_widestThing : ByteArray := prog_2_method_11_code
def yX0_widestThing : MethodName := ⟨RX0, "widestThing", "()I"⟩
def RX1 : String := "CounterBraid$Braid"
def TX1 : u_T := fun k => match k with
  | 0 => ("CounterBraid$Braid", "truths", "[J", true)
  | 1 => ("CounterBraid$Braid", "rests", "[I", true)
  | 2 => ("CounterBraid$Braid", "marks", "[I", true)
  | _ => ("CounterBraid$Braid", "numbers", "[J", true)
def tyX1 : Nat → FieldType := fun k => match k with
  | 0 => .array .long
  | 1 => .array .int
  | 2 => .array .int
  | _ => .array .long
abbrev wsX10 : List Cond := u_ws RX1 TX1 4
theorem nmX1 : ∀ a, a < 4 → ∀ b, b < 4 → a ≠ b → (TX1 a).2.1 ≠ (TX1 b).2.1 := by decide +kernel
theorem tyX1_ok : ∀ k, k < 4 → parseFieldDescriptor (TX1 k).2.2.1 = some (tyX1 k) := by decide +kernel
abbrev cX1_init : ByteArray := prog_3_method_1_code
def yX1_init : MethodName := ⟨RX1, "<init>", "()V"⟩
abbrev cX1_copyFrom : ByteArray := prog_3_method_2_code
def yX1_copyFrom : MethodName := ⟨RX1, "copyFrom", "(LCounterBraid$Braid;)V"⟩
abbrev cX1_empty : ByteArray := prog_3_method_3_code
def yX1_empty : MethodName := ⟨RX1, "empty", "()V"⟩
abbrev cX1_raise : ByteArray := prog_3_method_4_code
def yX1_raise : MethodName := ⟨RX1, "raise", "(LCounterBraid$Form;IJ)V"⟩
abbrev cX1_raiseNumbers : ByteArray := prog_3_method_5_code
def yX1_raiseNumbers : MethodName := ⟨RX1, "raiseNumbers", "(IJ)V"⟩
abbrev cX1_hasRoomFor : ByteArray := prog_3_method_6_code
def yX1_hasRoomFor : MethodName := ⟨RX1, "hasRoomFor", "(LCounterBraid$Braid;)Z"⟩
abbrev cX1_join : ByteArray := prog_3_method_7_code
def yX1_join : MethodName := ⟨RX1, "join", "(LCounterBraid$Form;LCounterBraid$Braid;)I"⟩
abbrev cX1_sumOfTruths : ByteArray := prog_3_method_8_code
def yX1_sumOfTruths : MethodName := ⟨RX1, "sumOfTruths", "()J"⟩
abbrev cX1_sumOfNumbers : ByteArray := prog_3_method_9_code
def yX1_sumOfNumbers : MethodName := ⟨RX1, "sumOfNumbers", "()J"⟩
def RX2 : String := "CounterBraid$Decoder"
def TX2 : u_T := fun k => match k with
  | 0 => ("CounterBraid$Decoder", "overflows", "LCounterBraid$Bounds;", true)
  | _ => ("CounterBraid$Decoder", "amounts", "LCounterBraid$Bounds;", true)
def tyX2 : Nat → FieldType := fun k => match k with
  | 0 => .object "CounterBraid$Bounds"
  | _ => .object "CounterBraid$Bounds"
abbrev wsX20 : List Cond := u_ws RX2 TX2 2
theorem nmX2 : ∀ a, a < 2 → ∀ b, b < 2 → a ≠ b → (TX2 a).2.1 ≠ (TX2 b).2.1 := by decide +kernel
theorem tyX2_ok : ∀ k, k < 2 → parseFieldDescriptor (TX2 k).2.2.1 = some (tyX2 k) := by decide +kernel
abbrev cX2_init : ByteArray := prog_4_method_1_code
def yX2_init : MethodName := ⟨RX2, "<init>", "()V"⟩
abbrev cX2_decodeOverflows : ByteArray := prog_4_method_2_code
def yX2_decodeOverflows : MethodName := ⟨RX2, "decodeOverflows", "(LCounterBraid$Form;LCounterBraid$Braid;)V"⟩
abbrev cX2_decode : ByteArray := prog_4_method_3_code
def yX2_decode : MethodName := ⟨RX2, "decode", "(LCounterBraid$State;LCounterBraid$Braid;I)I"⟩
def RX3 : String := "CounterBraid$Form"
def TX3 : u_T := fun k => match k with
  | 0 => ("CounterBraid$Form", "counters", "I", false)
  | 1 => ("CounterBraid$Form", "bits", "I", false)
  | 2 => ("CounterBraid$Form", "functions", "I", false)
  | 3 => ("CounterBraid$Form", "countersAbove", "I", false)
  | 4 => ("CounterBraid$Form", "functionsAbove", "I", false)
  | _ => ("CounterBraid$Form", "rounds", "I", false)
def tyX3 : Nat → FieldType := fun k => match k with
  | 0 => .int
  | 1 => .int
  | 2 => .int
  | 3 => .int
  | 4 => .int
  | _ => .int
abbrev wsX30 : List Cond := u_ws RX3 TX3 6
theorem nmX3 : ∀ a, a < 6 → ∀ b, b < 6 → a ≠ b → (TX3 a).2.1 ≠ (TX3 b).2.1 := by decide +kernel
theorem tyX3_ok : ∀ k, k < 6 → parseFieldDescriptor (TX3 k).2.2.1 = some (tyX3 k) := by decide +kernel
abbrev cX3_init : ByteArray := prog_5_method_1_code
def yX3_init : MethodName := ⟨RX3, "<init>", "()V"⟩
abbrev cX3_copyFrom : ByteArray := prog_5_method_2_code
def yX3_copyFrom : MethodName := ⟨RX3, "copyFrom", "(LCounterBraid$Form;)V"⟩
abbrev cX3_placesOfKey : ByteArray := prog_5_method_3_code
def yX3_placesOfKey : MethodName := ⟨RX3, "placesOfKey", "(I)I"⟩
abbrev cX3_placesOfCounter : ByteArray := prog_5_method_4_code
def yX3_placesOfCounter : MethodName := ⟨RX3, "placesOfCounter", "(I)I"⟩
abbrev cX3_remainder : ByteArray := prog_5_method_5_code
def yX3_remainder : MethodName := ⟨RX3, "remainder", "(II)I"⟩
def RX4 : String := "CounterBraid$History"
def TX4 : u_T := fun k => match k with
  | 0 => ("CounterBraid$History", "states", "[LCounterBraid$State;", true)
  | _ => ("CounterBraid$History", "kept", "I", false)
def tyX4 : Nat → FieldType := fun k => match k with
  | 0 => .array (.object "CounterBraid$State")
  | _ => .int
abbrev wsX40 : List Cond := u_ws RX4 TX4 2
theorem nmX4 : ∀ a, a < 2 → ∀ b, b < 2 → a ≠ b → (TX4 a).2.1 ≠ (TX4 b).2.1 := by decide +kernel
theorem tyX4_ok : ∀ k, k < 2 → parseFieldDescriptor (TX4 k).2.2.1 = some (tyX4 k) := by decide +kernel
abbrev cX4_init : ByteArray := prog_6_method_1_code
def yX4_init : MethodName := ⟨RX4, "<init>", "()V"⟩
abbrev cX4_push : ByteArray := prog_6_method_2_code
def yX4_push : MethodName := ⟨RX4, "push", "(LCounterBraid$State;)V"⟩
abbrev cX4_dropOldest : ByteArray := prog_6_method_3_code
def yX4_dropOldest : MethodName := ⟨RX4, "dropOldest", "()V"⟩
abbrev cX4_pop : ByteArray := prog_6_method_4_code
def yX4_pop : MethodName := ⟨RX4, "pop", "(LCounterBraid$State;)I"⟩
def RX5 : String := "CounterBraid$State"
def TX5 : u_T := fun k => match k with
  | 0 => ("CounterBraid$State", "form", "LCounterBraid$Form;", true)
  | 1 => ("CounterBraid$State", "flows", "I", false)
  | 2 => ("CounterBraid$State", "keys", "[I", true)
  | 3 => ("CounterBraid$State", "first", "LCounterBraid$Braid;", true)
  | _ => ("CounterBraid$State", "second", "LCounterBraid$Braid;", true)
def tyX5 : Nat → FieldType := fun k => match k with
  | 0 => .object "CounterBraid$Form"
  | 1 => .int
  | 2 => .array .int
  | 3 => .object "CounterBraid$Braid"
  | _ => .object "CounterBraid$Braid"
abbrev wsX50 : List Cond := u_ws RX5 TX5 5
theorem nmX5 : ∀ a, a < 5 → ∀ b, b < 5 → a ≠ b → (TX5 a).2.1 ≠ (TX5 b).2.1 := by decide +kernel
theorem tyX5_ok : ∀ k, k < 5 → parseFieldDescriptor (TX5 k).2.2.1 = some (tyX5 k) := by decide +kernel
abbrev cX5_init : ByteArray := prog_7_method_1_code
def yX5_init : MethodName := ⟨RX5, "<init>", "()V"⟩
abbrev cX5_copyFrom : ByteArray := prog_7_method_2_code
def yX5_copyFrom : MethodName := ⟨RX5, "copyFrom", "(LCounterBraid$State;)V"⟩
abbrev cX5_braid : ByteArray := prog_7_method_3_code
def yX5_braid : MethodName := ⟨RX5, "braid", "(I)LCounterBraid$Braid;"⟩
abbrev cX5_empty : ByteArray := prog_7_method_4_code
def yX5_empty : MethodName := ⟨RX5, "empty", "()V"⟩
abbrev cX5_formNumber : ByteArray := prog_7_method_5_code
def yX5_formNumber : MethodName := ⟨RX5, "formNumber", "(I)I"⟩
abbrev cX5_find : ByteArray := prog_7_method_6_code
def yX5_find : MethodName := ⟨RX5, "find", "(I)I"⟩
abbrev cX5_findOrAppend : ByteArray := prog_7_method_7_code
def yX5_findOrAppend : MethodName := ⟨RX5, "findOrAppend", "(I)I"⟩
abbrev cX5_countFlow : ByteArray := prog_7_method_8_code
def yX5_countFlow : MethodName := ⟨RX5, "countFlow", "(LCounterBraid$Braid;IJ)V"⟩
def RX6 : String := "CounterBraid$Text"
def TX6 : u_T := fun k => match k with
  | 0 => ("CounterBraid$Text", "codes", "[I", true)
  | 1 => ("CounterBraid$Text", "length", "I", false)
  | 2 => ("CounterBraid$Text", "itemKeys", "[I", true)
  | 3 => ("CounterBraid$Text", "itemCounts", "[I", true)
  | 4 => ("CounterBraid$Text", "items", "I", false)
  | 5 => ("CounterBraid$Text", "newFlows", "I", false)
  | _ => ("CounterBraid$Text", "at", "I", false)
def tyX6 : Nat → FieldType := fun k => match k with
  | 0 => .array .int
  | 1 => .int
  | 2 => .array .int
  | 3 => .array .int
  | 4 => .int
  | 5 => .int
  | _ => .int
abbrev wsX60 : List Cond := u_ws RX6 TX6 7
theorem nmX6 : ∀ a, a < 7 → ∀ b, b < 7 → a ≠ b → (TX6 a).2.1 ≠ (TX6 b).2.1 := by decide +kernel
theorem tyX6_ok : ∀ k, k < 7 → parseFieldDescriptor (TX6 k).2.2.1 = some (tyX6 k) := by decide +kernel
abbrev cX6_init : ByteArray := prog_8_method_1_code
def yX6_init : MethodName := ⟨RX6, "<init>", "()V"⟩
abbrev cX6_read : ByteArray := prog_8_method_3_code
def yX6_read : MethodName := ⟨RX6, "read", "(LCounterBraid$State;)I"⟩
abbrev cX6_readItem : ByteArray := prog_8_method_4_code
def yX6_readItem : MethodName := ⟨RX6, "readItem", "(LCounterBraid$State;)I"⟩
abbrev cX6_skipBlanks : ByteArray := prog_8_method_5_code
def yX6_skipBlanks : MethodName := ⟨RX6, "skipBlanks", "()V"⟩
abbrev cX6_skipSign : ByteArray := prog_8_method_6_code
def yX6_skipSign : MethodName := ⟨RX6, "skipSign", "(C)Z"⟩
abbrev cX6_readNumber : ByteArray := prog_8_method_7_code
def yX6_readNumber : MethodName := ⟨RX6, "readNumber", "()I"⟩
abbrev cX6_isKnown : ByteArray := prog_8_method_8_code
def yX6_isKnown : MethodName := ⟨RX6, "isKnown", "(ILCounterBraid$State;)Z"⟩
abbrev cX6_keep : ByteArray := prog_8_method_9_code
def yX6_keep : MethodName := ⟨RX6, "keep", "(II)V"⟩
abbrev cX6_fits : ByteArray := prog_8_method_10_code
def yX6_fits : MethodName := ⟨RX6, "fits", "(LCounterBraid$State;)Z"⟩
abbrev cX6_sumFor : ByteArray := prog_8_method_11_code
def yX6_sumFor : MethodName := ⟨RX6, "sumFor", "(I)J"⟩
def RX7 : String := "CounterBraid"
def TX7 : u_T := fun k => match k with
  | 0 => ("CounterBraid", "now", "LCounterBraid$State;", true)
  | 1 => ("CounterBraid", "history", "LCounterBraid$History;", true)
  | 2 => ("CounterBraid", "text", "LCounterBraid$Text;", true)
  | 3 => ("CounterBraid", "decoder", "LCounterBraid$Decoder;", true)
  | _ => ("CounterBraid", "trial", "LCounterBraid$State;", true)
def tyX7 : Nat → FieldType := fun k => match k with
  | 0 => .object "CounterBraid$State"
  | 1 => .object "CounterBraid$History"
  | 2 => .object "CounterBraid$Text"
  | 3 => .object "CounterBraid$Decoder"
  | _ => .object "CounterBraid$State"
abbrev wsX70 : List Cond := u_ws RX7 TX7 5
theorem nmX7 : ∀ a, a < 5 → ∀ b, b < 5 → a ≠ b → (TX7 a).2.1 ≠ (TX7 b).2.1 := by decide +kernel
theorem tyX7_ok : ∀ k, k < 5 → parseFieldDescriptor (TX7 k).2.2.1 = some (tyX7 k) := by decide +kernel
abbrev cX7_init : ByteArray := prog_1_method_1_code
def yX7_init : MethodName := ⟨RX7, "<init>", "()V"⟩
abbrev cX7_setFirst : ByteArray := prog_1_method_2_code
def yX7_setFirst : MethodName := ⟨RX7, "setFirst", "(III)I"⟩
abbrev cX7_setSecond : ByteArray := prog_1_method_3_code
def yX7_setSecond : MethodName := ⟨RX7, "setSecond", "(II)I"⟩
abbrev cX7_setRounds : ByteArray := prog_1_method_4_code
def yX7_setRounds : MethodName := ⟨RX7, "setRounds", "(I)I"⟩
abbrev cX7_form : ByteArray := prog_1_method_5_code
def yX7_form : MethodName := ⟨RX7, "form", "(I)I"⟩
abbrev cX7_addFlow : ByteArray := prog_1_method_6_code
def yX7_addFlow : MethodName := ⟨RX7, "addFlow", "(I)I"⟩
abbrev cX7_key : ByteArray := prog_1_method_7_code
def yX7_key : MethodName := ⟨RX7, "key", "(I)I"⟩
abbrev cX7_flowOf : ByteArray := prog_1_method_8_code
def yX7_flowOf : MethodName := ⟨RX7, "flowOf", "(I)I"⟩
abbrev cX7_places : ByteArray := prog_1_method_9_code
def yX7_places : MethodName := ⟨RX7, "places", "(I)I"⟩
abbrev cX7_placesAbove : ByteArray := prog_1_method_10_code
def yX7_placesAbove : MethodName := ⟨RX7, "placesAbove", "(I)I"⟩
abbrev cX7_count : ByteArray := prog_1_method_11_code
def yX7_count : MethodName := ⟨RX7, "count", "(III)J"⟩
abbrev cX7_addBraid : ByteArray := prog_1_method_12_code
def yX7_addBraid : MethodName := ⟨RX7, "addBraid", "(II)I"⟩
abbrev cX7_clear : ByteArray := prog_1_method_13_code
def yX7_clear : MethodName := ⟨RX7, "clear", "(I)J"⟩
abbrev cX7_truth : ByteArray := prog_1_method_14_code
def yX7_truth : MethodName := ⟨RX7, "truth", "(II)J"⟩
abbrev cX7_rest : ByteArray := prog_1_method_15_code
def yX7_rest : MethodName := ⟨RX7, "rest", "(II)I"⟩
abbrev cX7_isMarked : ByteArray := prog_1_method_16_code
def yX7_isMarked : MethodName := ⟨RX7, "isMarked", "(II)I"⟩
abbrev cX7_above : ByteArray := prog_1_method_17_code
def yX7_above : MethodName := ⟨RX7, "above", "(II)J"⟩
abbrev cX7_overflow : ByteArray := prog_1_method_18_code
def yX7_overflow : MethodName := ⟨RX7, "overflow", "(IIZ)J"⟩
abbrev cX7_bound : ByteArray := prog_1_method_19_code
def yX7_bound : MethodName := ⟨RX7, "bound", "(IIZ)J"⟩
abbrev cX7_boundAfter : ByteArray := prog_1_method_20_code
def yX7_boundAfter : MethodName := ⟨RX7, "boundAfter", "(IIZI)J"⟩
abbrev cX7_certain : ByteArray := prog_1_method_21_code
def yX7_certain : MethodName := ⟨RX7, "certain", "(I)I"⟩
abbrev cX7_certainOverflows : ByteArray := prog_1_method_22_code
def yX7_certainOverflows : MethodName := ⟨RX7, "certainOverflows", "(I)I"⟩
abbrev cX7_lastRound : ByteArray := prog_1_method_23_code
def yX7_lastRound : MethodName := ⟨RX7, "lastRound", "(I)I"⟩
abbrev cX7_total : ByteArray := prog_1_method_24_code
def yX7_total : MethodName := ⟨RX7, "total", "(II)J"⟩
abbrev cX7_estimate : ByteArray := prog_1_method_25_code
def yX7_estimate : MethodName := ⟨RX7, "estimate", "(II)J"⟩
abbrev cX7_leastPlace : ByteArray := prog_1_method_26_code
def yX7_leastPlace : MethodName := ⟨RX7, "leastPlace", "(II)J"⟩
abbrev cX7_widest : ByteArray := prog_1_method_27_code
def yX7_widest : MethodName := ⟨RX7, "widest", "(I)I"⟩
abbrev cX7_bits : ByteArray := prog_1_method_29_code
def yX7_bits : MethodName := ⟨RX7, "bits", "()I"⟩
abbrev cX7_bitsForEach : ByteArray := prog_1_method_30_code
def yX7_bitsForEach : MethodName := ⟨RX7, "bitsForEach", "()I"⟩
abbrev cX7_undo : ByteArray := prog_1_method_31_code
def yX7_undo : MethodName := ⟨RX7, "undo", "()I"⟩
abbrev cX7_load : ByteArray := prog_1_method_35_code
def yX7_load : MethodName := ⟨RX7, "load", "()I"⟩
abbrev cX7_digest : ByteArray := prog_1_method_36_code
def yX7_digest : MethodName := ⟨RX7, "digest", "()J"⟩
abbrev cX7_isFrom : ByteArray := prog_1_method_37_code
def yX7_isFrom : MethodName := ⟨RX7, "isFrom", "(III)Z"⟩
abbrev cX7_isBraid : ByteArray := prog_1_method_38_code
def yX7_isBraid : MethodName := ⟨RX7, "isBraid", "(I)Z"⟩
abbrev cX7_isFlow : ByteArray := prog_1_method_39_code
def yX7_isFlow : MethodName := ⟨RX7, "isFlow", "(I)Z"⟩
abbrev cX7_isCounter : ByteArray := prog_1_method_40_code
def yX7_isCounter : MethodName := ⟨RX7, "isCounter", "(I)Z"⟩
abbrev cX7_hashOfBraid : ByteArray := prog_1_method_42_code
def yX7_hashOfBraid : MethodName := ⟨RX7, "hashOfBraid", "(JLCounterBraid$Braid;)J"⟩
abbrev cX7_bitsOfFloat : ByteArray := prog_1_method_43_code
def yX7_bitsOfFloat : MethodName := ⟨RX7, "bitsOfFloat", "(F)I"⟩
abbrev cX7_isIn : ByteArray := prog_1_method_44_code
def yX7_isIn : MethodName := ⟨RX7, "isIn", "(II)Z"⟩
def RX8 : String := "CounterBraidModel"
def TX8 : u_T := fun k => match k with
  | _ => ("", "", "", false)
def tyX8 : Nat → FieldType := fun k => match k with
  | _ => .int
abbrev wsX80 : List Cond := u_ws RX8 TX8 0
theorem nmX8 : ∀ a, a < 0 → ∀ b, b < 0 → a ≠ b → (TX8 a).2.1 ≠ (TX8 b).2.1 := by decide +kernel
theorem tyX8_ok : ∀ k, k < 0 → parseFieldDescriptor (TX8 k).2.2.1 = some (tyX8 k) := by decide +kernel
def RJ9 : String := "java/lang/Math"
def TJ9 : u_T := fun k => match k with
  | _ => ("", "", "", false)
def tyJ9 : Nat → FieldType := fun k => match k with
  | _ => .int
abbrev wsJ90 : List Cond := u_ws RJ9 TJ9 0
theorem nmJ9 : ∀ a, a < 0 → ∀ b, b < 0 → a ≠ b → (TJ9 a).2.1 ≠ (TJ9 b).2.1 := by decide +kernel
theorem tyJ9_ok : ∀ k, k < 0 → parseFieldDescriptor (TJ9 k).2.2.1 = some (tyJ9 k) := by decide +kernel
abbrev cJ9_max_7cf53 : ByteArray := prog_11_method_65_code
def yJ9_max_7cf53 : MethodName := ⟨RJ9, "max", "(II)I"⟩
abbrev cJ9_min_f86c9 : ByteArray := prog_11_method_70_code
def yJ9_min_f86c9 : MethodName := ⟨RJ9, "min", "(JJ)J"⟩
def RJ10 : String := "java/lang/System"
def TJ10 : u_T := fun k => match k with
  | _ => ("", "", "", false)
def tyJ10 : Nat → FieldType := fun k => match k with
  | _ => .int
abbrev wsJ100 : List Cond := u_ws RJ10 TJ10 0
theorem nmJ10 : ∀ a, a < 0 → ∀ b, b < 0 → a ≠ b → (TJ10 a).2.1 ≠ (TJ10 b).2.1 := by decide +kernel
theorem tyJ10_ok : ∀ k, k < 0 → parseFieldDescriptor (TJ10 k).2.2.1 = some (tyJ10 k) := by decide +kernel
def RJ7 : String := "java/util/Arrays"
def TJ7 : u_T := fun k => match k with
  | _ => ("", "", "", false)
def tyJ7 : Nat → FieldType := fun k => match k with
  | _ => .int
abbrev wsJ70 : List Cond := u_ws RJ7 TJ7 0
theorem nmJ7 : ∀ a, a < 0 → ∀ b, b < 0 → a ≠ b → (TJ7 a).2.1 ≠ (TJ7 b).2.1 := by decide +kernel
theorem tyJ7_ok : ∀ k, k < 0 → parseFieldDescriptor (TJ7 k).2.2.1 = some (tyJ7 k) := by decide +kernel
abbrev cJ7_fill_d0a16 : ByteArray := prog_13_method_101_code
def yJ7_fill_d0a16 : MethodName := ⟨RJ7, "fill", "([JJ)V"⟩
abbrev cJ7_fill_53178 : ByteArray := prog_13_method_103_code
def yJ7_fill_53178 : MethodName := ⟨RJ7, "fill", "([II)V"⟩
def RL : String := "CounterBraidLaw"
abbrev cL_cell : ByteArray := method_2_code
def yL_cell : MethodName := ⟨RL, "cell", "([II)I"⟩
abbrev cL_low : ByteArray := method_3_code
def yL_low : MethodName := ⟨RL, "low", "(II)I"⟩
abbrev cL_areBoundsSound : ByteArray := method_4_code
def yL_areBoundsSound : MethodName := ⟨RL, "areBoundsSound", "(LCounterBraid;II)Z"⟩
abbrev cL_areCountersSound : ByteArray := method_5_code
def yL_areCountersSound : MethodName := ⟨RL, "areCountersSound", "(LCounterBraid;I)Z"⟩
abbrev cL_law : ByteArray := code
def yL_law : MethodName := ⟨RL, "law", "([I)Z"⟩
def wsL_law_r1 : List Cond := [Cond.classLink RL 9 RX7, Cond.instantiable RX7 5, Cond.initialized RX7, Cond.constant RL 109 (100000), Cond.constantLong RL 68 (-2), Cond.constantLong RL 136 (-3), Cond.methodLink RL 70 yX7_init, Cond.instanceMethod yX7_init, Cond.code yX7_init cX7_init 1 none, Cond.methodLink RX7 3 objectInit, Cond.instanceMethod objectInit, Cond.code objectInit ⟨#[0xb1]⟩ 1 none, Cond.classLink RX7 9 RX5, Cond.instantiable RX5 5, Cond.initialized RX5, Cond.fieldLink RX7 12 "CounterBraid" "now" "LCounterBraid$State;", Cond.classLink RX7 16 RX4, Cond.instantiable RX4 2, Cond.initialized RX4, Cond.fieldLink RX7 19 "CounterBraid" "history" "LCounterBraid$History;", Cond.classLink RX7 23 RX6, Cond.instantiable RX6 7, Cond.initialized RX6, Cond.fieldLink RX7 26 "CounterBraid" "text" "LCounterBraid$Text;"]
def wsL_law_r2 : List Cond := [Cond.classLink RX7 30 RX2, Cond.instantiable RX2 2, Cond.initialized RX2, Cond.fieldLink RX7 33 "CounterBraid" "decoder" "LCounterBraid$Decoder;", Cond.fieldLink RX7 37 "CounterBraid" "trial" "LCounterBraid$State;", Cond.instanceMethod yX5_init, Cond.code yX5_init cX5_init 1 none, Cond.methodLink RX5 3 objectInit, Cond.classLink RX5 9 RX3, Cond.instantiable RX3 6, Cond.initialized RX3, Cond.fieldLink RX5 12 "CounterBraid$State" "form" "LCounterBraid$Form;", Cond.arrayClass .int, Cond.fieldLink RX5 18 "CounterBraid$State" "keys" "[I", Cond.classLink RX5 22 RX1, Cond.instantiable RX1 4, Cond.initialized RX1, Cond.fieldLink RX5 25 "CounterBraid$State" "first" "LCounterBraid$Braid;", Cond.fieldLink RX5 29 "CounterBraid$State" "second" "LCounterBraid$Braid;", Cond.instanceMethod yX3_init, Cond.code yX3_init cX3_init 1 none, Cond.methodLink RX3 3 objectInit, Cond.fieldLink RX3 9 "CounterBraid$Form" "counters" "I", Cond.fieldLink RX3 15 "CounterBraid$Form" "bits" "I"]
def wsL_law_r3 : List Cond := [Cond.fieldLink RX3 18 "CounterBraid$Form" "functions" "I", Cond.fieldLink RX3 21 "CounterBraid$Form" "countersAbove" "I", Cond.fieldLink RX3 24 "CounterBraid$Form" "functionsAbove" "I", Cond.fieldLink RX3 27 "CounterBraid$Form" "rounds" "I", Cond.instanceMethod yX1_init, Cond.code yX1_init cX1_init 1 none, Cond.methodLink RX1 3 objectInit, Cond.arrayClass .long, Cond.fieldLink RX1 9 "CounterBraid$Braid" "truths" "[J", Cond.fieldLink RX1 15 "CounterBraid$Braid" "rests" "[I", Cond.fieldLink RX1 19 "CounterBraid$Braid" "marks" "[I", Cond.fieldLink RX1 22 "CounterBraid$Braid" "numbers" "[J", Cond.methodLink RX7 18 yX4_init, Cond.instanceMethod yX4_init, Cond.code yX4_init cX4_init 2 none, Cond.methodLink RX4 3 objectInit, Cond.classLink RX4 9 RX5, Cond.fieldLink RX4 11 "CounterBraid$History" "states" "[LCounterBraid$State;", Cond.instanceMethod yX6_init, Cond.code yX6_init cX6_init 1 none, Cond.methodLink RX6 3 objectInit, Cond.fieldLink RX6 9 "CounterBraid$Text" "codes" "[I", Cond.fieldLink RX6 15 "CounterBraid$Text" "itemKeys" "[I", Cond.fieldLink RX6 18 "CounterBraid$Text" "itemCounts" "[I"]
def wsL_law_r4 : List Cond := [Cond.instanceMethod yX2_init, Cond.code yX2_init cX2_init 1 none, Cond.methodLink RX2 3 objectInit, Cond.classLink RX2 9 RX0, Cond.instantiable RX0 9, Cond.initialized RX0, Cond.fieldLink RX2 12 "CounterBraid$Decoder" "overflows" "LCounterBraid$Bounds;", Cond.fieldLink RX2 18 "CounterBraid$Decoder" "amounts" "LCounterBraid$Bounds;", Cond.instanceMethod yX0_init, Cond.code yX0_init cX0_init 1 none, Cond.methodLink RX0 3 objectInit, Cond.fieldLink RX0 9 "CounterBraid$Bounds" "least" "[J", Cond.fieldLink RX0 15 "CounterBraid$Bounds" "greatest" "[J", Cond.fieldLink RX0 18 "CounterBraid$Bounds" "lowerSums" "[J", Cond.fieldLink RX0 21 "CounterBraid$Bounds" "upperSums" "[J", Cond.fieldLink RX0 24 "CounterBraid$Bounds" "lower" "[J", Cond.fieldLink RX0 27 "CounterBraid$Bounds" "upper" "[J", Cond.classLink RX0 30 "[[I", Cond.fieldLink RX0 32 "CounterBraid$Bounds" "places" "[[I", Cond.fieldLink RX0 35 "CounterBraid$Bounds" "placeCounts" "[I", Cond.methodLink RL 71 yL_cell, Cond.static yL_cell, Cond.initialized RL, Cond.code yL_cell cL_cell 2 (some .int)]
def wsL_law_r5 : List Cond := [Cond.methodLink RL 77 yL_low, Cond.static yL_low, Cond.code yL_low cL_low 2 (some .int), Cond.constant RL 7 (2147483647), Cond.methodLink RL 80 yX7_undo, Cond.instanceMethod yX7_undo, Cond.selects RX7 yX7_undo yX7_undo, Cond.code yX7_undo cX7_undo 1 (some .int), Cond.methodLink RX7 207 yX4_pop, Cond.instanceMethod yX4_pop, Cond.selects RX4 yX4_pop yX4_pop, Cond.code yX4_pop cX4_pop 2 (some .int), Cond.fieldLink RX4 18 "CounterBraid$History" "kept" "I", Cond.methodLink RX4 25 yX5_copyFrom, Cond.instanceMethod yX5_copyFrom, Cond.selects RX5 yX5_copyFrom yX5_copyFrom, Cond.code yX5_copyFrom cX5_copyFrom 2 none, Cond.fieldLink RX5 36 "CounterBraid$State" "flows" "I", Cond.methodLink RX5 40 arraycopyName, Cond.native arraycopyName, Cond.static arraycopyName, Cond.initialized "java/lang/System", Cond.methodLink RX5 32 yX3_copyFrom, Cond.instanceMethod yX3_copyFrom]
def wsL_law_r6 : List Cond := [Cond.selects RX3 yX3_copyFrom yX3_copyFrom, Cond.code yX3_copyFrom cX3_copyFrom 2 none, Cond.methodLink RX5 46 yX1_copyFrom, Cond.instanceMethod yX1_copyFrom, Cond.selects RX1 yX1_copyFrom yX1_copyFrom, Cond.code yX1_copyFrom cX1_copyFrom 2 none, Cond.methodLink RX1 25 arraycopyName, Cond.methodLink RL 84 yX7_load, Cond.instanceMethod yX7_load, Cond.selects RX7 yX7_load yX7_load, Cond.code yX7_load cX7_load 2 (some .int), Cond.fieldLink RX7 224 "CounterBraid$Text" "items" "I", Cond.fieldLink RX7 227 "CounterBraid$Text" "itemKeys" "[I", Cond.fieldLink RX7 230 "CounterBraid$Text" "itemCounts" "[I", Cond.fieldLink RX7 83 "CounterBraid$State" "flows" "I", Cond.methodLink RX7 217 yX6_read, Cond.instanceMethod yX6_read, Cond.selects RX6 yX6_read yX6_read, Cond.code yX6_read cX6_read 4 (some .int), Cond.fieldLink RX6 25 "CounterBraid$Text" "at" "I", Cond.fieldLink RX6 28 "CounterBraid$Text" "items" "I", Cond.fieldLink RX6 31 "CounterBraid$Text" "newFlows" "I", Cond.fieldLink RX6 21 "CounterBraid$Text" "length" "I", Cond.methodLink RX6 34 yX6_readItem]
def wsL_law_r7 : List Cond := [Cond.instanceMethod yX6_readItem, Cond.selects RX6 yX6_readItem yX6_readItem, Cond.code yX6_readItem cX6_readItem 5 (some .int), Cond.fieldLink RX6 57 "CounterBraid$State" "flows" "I", Cond.methodLink RX6 42 yX6_skipBlanks, Cond.instanceMethod yX6_skipBlanks, Cond.selects RX6 yX6_skipBlanks yX6_skipBlanks, Cond.code yX6_skipBlanks cX6_skipBlanks 1 none, Cond.methodLink RX6 45 yX6_readNumber, Cond.instanceMethod yX6_readNumber, Cond.selects RX6 yX6_readNumber yX6_readNumber, Cond.code yX6_readNumber cX6_readNumber 3 (some .int), Cond.static yX7_isFrom, Cond.code yX7_isFrom cX7_isFrom 3 (some .boolean), Cond.methodLink RX6 53 yX6_isKnown, Cond.instanceMethod yX6_isKnown, Cond.selects RX6 yX6_isKnown yX6_isKnown, Cond.code yX6_isKnown cX6_isKnown 4 (some .boolean), Cond.methodLink RX6 66 yX5_find, Cond.instanceMethod yX5_find, Cond.selects RX5 yX5_find yX5_find, Cond.code yX5_find cX5_find 3 (some .int), Cond.methodLink RX6 38 yX6_skipSign, Cond.instanceMethod yX6_skipSign]
def wsL_law_r8 : List Cond := [Cond.selects RX6 yX6_skipSign yX6_skipSign, Cond.code yX6_skipSign cX6_skipSign 2 (some .boolean), Cond.methodLink RX6 62 yX6_keep, Cond.instanceMethod yX6_keep, Cond.selects RX6 yX6_keep yX6_keep, Cond.code yX6_keep cX6_keep 3 none, Cond.methodLink RX7 220 yX6_fits, Cond.instanceMethod yX6_fits, Cond.selects RX6 yX6_fits yX6_fits, Cond.code yX6_fits cX6_fits 4 (some .boolean), Cond.fieldLink RX6 74 "CounterBraid$Braid" "truths" "[J", Cond.constantLong RX6 84 (1000000000), Cond.methodLink RX6 70 yX5_braid, Cond.instanceMethod yX5_braid, Cond.selects RX5 yX5_braid yX5_braid, Cond.code yX5_braid cX5_braid 2 (some (.object "CounterBraid$Braid")), Cond.methodLink RX6 80 yX6_sumFor, Cond.instanceMethod yX6_sumFor, Cond.selects RX6 yX6_sumFor yX6_sumFor, Cond.code yX6_sumFor cX6_sumFor 5 (some .long), Cond.methodLink RX7 44 yX4_push, Cond.instanceMethod yX4_push, Cond.selects RX4 yX4_push yX4_push, Cond.code yX4_push cX4_push 2 none]
def wsL_law_r9 : List Cond := [Cond.methodLink RX4 22 yX4_dropOldest, Cond.instanceMethod yX4_dropOldest, Cond.selects RX4 yX4_dropOldest yX4_dropOldest, Cond.code yX4_dropOldest cX4_dropOldest 3 none, Cond.methodLink RX7 114 yX5_braid, Cond.methodLink RX7 86 yX5_findOrAppend, Cond.instanceMethod yX5_findOrAppend, Cond.selects RX5 yX5_findOrAppend yX5_findOrAppend, Cond.code yX5_findOrAppend cX5_findOrAppend 3 (some .int), Cond.methodLink RX5 70 yX5_find, Cond.methodLink RX7 128 yX5_countFlow, Cond.instanceMethod yX5_countFlow, Cond.selects RX5 yX5_countFlow yX5_countFlow, Cond.code yX5_countFlow cX5_countFlow 7 none, Cond.fieldLink RX5 78 "CounterBraid$Braid" "truths" "[J", Cond.methodLink RX5 82 yX3_placesOfKey, Cond.instanceMethod yX3_placesOfKey, Cond.selects RX3 yX3_placesOfKey yX3_placesOfKey, Cond.code yX3_placesOfKey cX3_placesOfKey 5 (some .int), Cond.methodLink RX3 37 yX3_remainder, Cond.static yX3_remainder, Cond.code yX3_remainder cX3_remainder 2 (some .int), Cond.static yX7_isIn, Cond.code yX7_isIn cX7_isIn 2 (some .boolean)]
def wsL_law_r10 : List Cond := [Cond.methodLink RX5 89 yX1_raise, Cond.instanceMethod yX1_raise, Cond.selects RX1 yX1_raise yX1_raise, Cond.code yX1_raise cX1_raise 9 none, Cond.fieldLink RX1 40 "CounterBraid$Form" "bits" "I", Cond.methodLink RX1 46 yX3_placesOfCounter, Cond.instanceMethod yX3_placesOfCounter, Cond.selects RX3 yX3_placesOfCounter yX3_placesOfCounter, Cond.code yX3_placesOfCounter cX3_placesOfCounter 5 (some .int), Cond.methodLink RX1 50 yX1_raiseNumbers, Cond.instanceMethod yX1_raiseNumbers, Cond.selects RX1 yX1_raiseNumbers yX1_raiseNumbers, Cond.code yX1_raiseNumbers cX1_raiseNumbers 5 none, Cond.methodLink RL 87 yX7_bitsForEach, Cond.instanceMethod yX7_bitsForEach, Cond.selects RX7 yX7_bitsForEach yX7_bitsForEach, Cond.code yX7_bitsForEach cX7_bitsForEach 2 (some .int), Cond.methodLink RX7 201 yX7_bits, Cond.instanceMethod yX7_bits, Cond.selects RX7 yX7_bits yX7_bits, Cond.code yX7_bits cX7_bits 1 (some .int), Cond.fieldLink RX7 48 "CounterBraid$State" "form" "LCounterBraid$Form;", Cond.fieldLink RX7 52 "CounterBraid$Form" "counters" "I", Cond.fieldLink RX7 58 "CounterBraid$Form" "bits" "I"]
def wsL_law_r11 : List Cond := [Cond.fieldLink RX7 67 "CounterBraid$Form" "countersAbove" "I", Cond.methodLink RX7 203 yX7_bitsOfFloat, Cond.static yX7_bitsOfFloat, Cond.code yX7_bitsOfFloat cX7_bitsOfFloat 4 (some .int), Cond.constant RX7 241 (8388608), Cond.methodLink RL 90 yX7_setFirst, Cond.instanceMethod yX7_setFirst, Cond.selects RX7 yX7_setFirst yX7_setFirst, Cond.code yX7_setFirst cX7_setFirst 5 (some .int), Cond.fieldLink RX7 61 "CounterBraid$Form" "functions" "I", Cond.methodLink RX7 40 yX7_isFrom, Cond.methodLink RX7 64 yX5_empty, Cond.instanceMethod yX5_empty, Cond.selects RX5 yX5_empty yX5_empty, Cond.code yX5_empty cX5_empty 1 none, Cond.methodLink RX5 49 yX1_empty, Cond.instanceMethod yX1_empty, Cond.selects RX1 yX1_empty yX1_empty, Cond.code yX1_empty cX1_empty 1 none, Cond.methodLink RX1 31 yJ7_fill_d0a16, Cond.static yJ7_fill_d0a16, Cond.initialized RJ7, Cond.code yJ7_fill_d0a16 cJ7_fill_d0a16 5 none, Cond.methodLink RX1 37 yJ7_fill_53178]
def wsL_law_r12 : List Cond := [Cond.static yJ7_fill_53178, Cond.code yJ7_fill_53178 cJ7_fill_53178 4 none, Cond.methodLink RL 94 yX7_setSecond, Cond.instanceMethod yX7_setSecond, Cond.selects RX7 yX7_setSecond yX7_setSecond, Cond.code yX7_setSecond cX7_setSecond 4 (some .int), Cond.fieldLink RX7 70 "CounterBraid$Form" "functionsAbove" "I", Cond.methodLink RL 97 yX7_setRounds, Cond.instanceMethod yX7_setRounds, Cond.selects RX7 yX7_setRounds yX7_setRounds, Cond.code yX7_setRounds cX7_setRounds 3 (some .int), Cond.fieldLink RX7 73 "CounterBraid$Form" "rounds" "I", Cond.methodLink RL 100 yX7_addFlow, Cond.instanceMethod yX7_addFlow, Cond.selects RX7 yX7_addFlow yX7_addFlow, Cond.code yX7_addFlow cX7_addFlow 2 (some .int), Cond.methodLink RX7 80 yX5_find, Cond.methodLink RL 103 yX7_key, Cond.instanceMethod yX7_key, Cond.selects RX7 yX7_key yX7_key, Cond.code yX7_key cX7_key 2 (some .int), Cond.fieldLink RX7 93 "CounterBraid$State" "keys" "[I", Cond.methodLink RX7 89 yX7_isFlow, Cond.instanceMethod yX7_isFlow]
def wsL_law_r13 : List Cond := [Cond.selects RX7 yX7_isFlow yX7_isFlow, Cond.code yX7_isFlow cX7_isFlow 2 (some .boolean), Cond.methodLink RL 106 yX7_flowOf, Cond.instanceMethod yX7_flowOf, Cond.selects RX7 yX7_flowOf yX7_flowOf, Cond.code yX7_flowOf cX7_flowOf 2 (some .int), Cond.methodLink RL 14 yX7_form, Cond.instanceMethod yX7_form, Cond.selects RX7 yX7_form yX7_form, Cond.code yX7_form cX7_form 2 (some .int), Cond.methodLink RX7 76 yX5_formNumber, Cond.instanceMethod yX5_formNumber, Cond.selects RX5 yX5_formNumber yX5_formNumber, Cond.code yX5_formNumber cX5_formNumber 2 (some .int), Cond.fieldLink RX5 52 "CounterBraid$Form" "counters" "I", Cond.fieldLink RX5 55 "CounterBraid$Form" "bits" "I", Cond.fieldLink RX5 58 "CounterBraid$Form" "functions" "I", Cond.fieldLink RX5 61 "CounterBraid$Form" "countersAbove" "I", Cond.fieldLink RX5 64 "CounterBraid$Form" "functionsAbove" "I", Cond.fieldLink RX5 67 "CounterBraid$Form" "rounds" "I", Cond.methodLink RL 110 yX7_digest, Cond.instanceMethod yX7_digest, Cond.selects RX7 yX7_digest yX7_digest, Cond.code yX7_digest cX7_digest 4 (some .long)]
def wsL_law_r14 : List Cond := [Cond.constantLong RX7 233 (17), Cond.constantLong RX7 235 (31), Cond.methodLink RX7 237 yX7_hashOfBraid, Cond.instanceMethod yX7_hashOfBraid, Cond.selects RX7 yX7_hashOfBraid yX7_hashOfBraid, Cond.code yX7_hashOfBraid cX7_hashOfBraid 7 (some .long), Cond.fieldLink RX7 118 "CounterBraid$Braid" "truths" "[J", Cond.fieldLink RX7 145 "CounterBraid$Braid" "rests" "[I", Cond.fieldLink RX7 148 "CounterBraid$Braid" "marks" "[I", Cond.fieldLink RX7 151 "CounterBraid$Braid" "numbers" "[J", Cond.methodLink RL 17 yX7_truth, Cond.instanceMethod yX7_truth, Cond.selects RX7 yX7_truth yX7_truth, Cond.code yX7_truth cX7_truth 3 (some .long), Cond.constantLong RX7 109 (-2), Cond.methodLink RX7 106 yX7_isBraid, Cond.static yX7_isBraid, Cond.code yX7_isBraid cX7_isBraid 1 (some .boolean), Cond.methodLink RL 114 yX7_count, Cond.instanceMethod yX7_count, Cond.selects RX7 yX7_count yX7_count, Cond.code yX7_count cX7_count 5 (some .long), Cond.constant RX7 111 (1000000), Cond.constantLong RX7 112 (-3)]
def wsL_law_r15 : List Cond := [Cond.constantLong RX7 124 (1000000000), Cond.constantLong RX7 126 (-5), Cond.methodLink RL 118 yL_areBoundsSound, Cond.static yL_areBoundsSound, Cond.code yL_areBoundsSound cL_areBoundsSound 24 (some .boolean), Cond.constantLong RL 28 (2), Cond.methodLink RL 8 yX7_certain, Cond.instanceMethod yX7_certain, Cond.selects RX7 yX7_certain yX7_certain, Cond.code yX7_certain cX7_certain 2 (some .int), Cond.fieldLink RX7 176 "CounterBraid$Decoder" "amounts" "LCounterBraid$Bounds;", Cond.methodLink RX7 172 yX2_decode, Cond.instanceMethod yX2_decode, Cond.selects RX2 yX2_decode yX2_decode, Cond.code yX2_decode cX2_decode 6 (some .int), Cond.fieldLink RX2 60 "CounterBraid$State" "form" "LCounterBraid$Form;", Cond.fieldLink RX2 36 "CounterBraid$Form" "counters" "I", Cond.fieldLink RX2 24 "CounterBraid$Bounds" "least" "[J", Cond.fieldLink RX2 70 "CounterBraid$Braid" "rests" "[I", Cond.fieldLink RX2 77 "CounterBraid$Form" "bits" "I", Cond.fieldLink RX2 33 "CounterBraid$Bounds" "greatest" "[J", Cond.fieldLink RX2 80 "CounterBraid$State" "flows" "I", Cond.fieldLink RX2 83 "CounterBraid$State" "keys" "[I", Cond.methodLink RX2 66 yX2_decodeOverflows]
def wsL_law_r16 : List Cond := [Cond.instanceMethod yX2_decodeOverflows, Cond.selects RX2 yX2_decodeOverflows yX2_decodeOverflows, Cond.code yX2_decodeOverflows cX2_decodeOverflows 5 none, Cond.fieldLink RX2 28 "CounterBraid$Braid" "numbers" "[J", Cond.fieldLink RX2 42 "CounterBraid$Braid" "marks" "[I", Cond.fieldLink RX2 54 "CounterBraid$Form" "rounds" "I", Cond.methodLink RX2 21 yX0_start, Cond.instanceMethod yX0_start, Cond.selects RX0 yX0_start yX0_start, Cond.code yX0_start cX0_start 1 none, Cond.fieldLink RX0 39 "CounterBraid$Bounds" "things" "I", Cond.methodLink RX2 46 yX3_placesOfCounter, Cond.methodLink RX2 50 yX0_append, Cond.instanceMethod yX0_append, Cond.selects RX0 yX0_append yX0_append, Cond.code yX0_append cX0_append 8 none, Cond.methodLink RX0 47 Lib.MathLoose.min_long.x, Cond.static Lib.MathLoose.min_long.x, Cond.initialized "java/lang/Math", Cond.code Lib.MathLoose.min_long.x Lib.MathLoose.min_long.code 4 (some .long), Cond.methodLink RX2 57 yX0_narrow, Cond.instanceMethod yX0_narrow, Cond.selects RX0 yX0_narrow yX0_narrow, Cond.code yX0_narrow cX0_narrow 3 (some .int)]
def wsL_law_r17 : List Cond := [Cond.methodLink RX0 53 yX0_narrowOnce, Cond.instanceMethod yX0_narrowOnce, Cond.selects RX0 yX0_narrowOnce yX0_narrowOnce, Cond.code yX0_narrowOnce cX0_narrowOnce 3 (some .boolean), Cond.methodLink RX0 57 yX0_sumBounds, Cond.instanceMethod yX0_sumBounds, Cond.selects RX0 yX0_sumBounds yX0_sumBounds, Cond.code yX0_sumBounds cX0_sumBounds 3 none, Cond.methodLink RX0 64 yJ7_fill_d0a16, Cond.methodLink RX0 60 yX0_narrowThing, Cond.instanceMethod yX0_narrowThing, Cond.selects RX0 yX0_narrowThing yX0_narrowThing, Cond.code yX0_narrowThing cX0_narrowThing 12 (some .boolean), Cond.methodLink RX2 73 yX0_boundOf, Cond.instanceMethod yX0_boundOf, Cond.selects RX0 yX0_boundOf yX0_boundOf, Cond.code yX0_boundOf cX0_boundOf 3 (some .long), Cond.methodLink RX2 86 yX3_placesOfKey, Cond.methodLink RX7 179 yX0_certainThings, Cond.instanceMethod yX0_certainThings, Cond.selects RX0 yX0_certainThings yX0_certainThings, Cond.code yX0_certainThings cX0_certainThings 3 (some .int), Cond.methodLink RL 21 yX7_bound, Cond.instanceMethod yX7_bound]
def wsL_law_r18 : List Cond := [Cond.selects RX7 yX7_bound yX7_bound, Cond.code yX7_bound cX7_bound 4 (some .long), Cond.methodLink RX7 168 yX7_boundAfter, Cond.instanceMethod yX7_boundAfter, Cond.selects RX7 yX7_boundAfter yX7_boundAfter, Cond.code yX7_boundAfter cX7_boundAfter 5 (some .long), Cond.methodLink RX7 162 yX0_boundOf, Cond.methodLink RL 25 yX7_estimate, Cond.instanceMethod yX7_estimate, Cond.selects RX7 yX7_estimate yX7_estimate, Cond.code yX7_estimate cX7_estimate 3 (some .long), Cond.constantLong RX7 190 (2), Cond.methodLink RL 30 yX7_boundAfter, Cond.methodLink RL 34 yX7_leastPlace, Cond.instanceMethod yX7_leastPlace, Cond.selects RX7 yX7_leastPlace yX7_leastPlace, Cond.code yX7_leastPlace cX7_leastPlace 3 (some .long), Cond.methodLink RL 37 yX7_widest, Cond.instanceMethod yX7_widest, Cond.selects RX7 yX7_widest yX7_widest, Cond.code yX7_widest cX7_widest 2 (some .int), Cond.methodLink RX7 192 yX0_widestThing, Cond.instanceMethod yX0_widestThing, Cond.selects RX0 yX0_widestThing yX0_widestThing]
def wsL_law_r19 : List Cond := [Cond.code yX0_widestThing cX0_widestThing 5 (some .int), Cond.methodLink RL 40 yX7_total, Cond.instanceMethod yX7_total, Cond.selects RX7 yX7_total yX7_total, Cond.code yX7_total cX7_total 3 (some .long), Cond.methodLink RX7 140 yX1_sumOfTruths, Cond.instanceMethod yX1_sumOfTruths, Cond.selects RX1 yX1_sumOfTruths yX1_sumOfTruths, Cond.code yX1_sumOfTruths cX1_sumOfTruths 4 (some .long), Cond.methodLink RX7 183 yX1_sumOfNumbers, Cond.instanceMethod yX1_sumOfNumbers, Cond.selects RX1 yX1_sumOfNumbers yX1_sumOfNumbers, Cond.code yX1_sumOfNumbers cX1_sumOfNumbers 4 (some .long), Cond.methodLink RX7 186 yX0_sumOfBounds, Cond.instanceMethod yX0_sumOfBounds, Cond.selects RX0 yX0_sumOfBounds yX0_sumOfBounds, Cond.code yX0_sumOfBounds cX0_sumOfBounds 5 (some .long), Cond.methodLink RX0 70 yX0_boundOf, Cond.methodLink RL 43 yX7_lastRound, Cond.instanceMethod yX7_lastRound, Cond.selects RX7 yX7_lastRound yX7_lastRound, Cond.code yX7_lastRound cX7_lastRound 2 (some .int), Cond.methodLink RL 122 yL_areCountersSound, Cond.static yL_areCountersSound]
def wsL_law_r20 : List Cond := [Cond.code yL_areCountersSound cL_areCountersSound 17 (some .boolean), Cond.methodLink RL 46 yX7_certainOverflows, Cond.instanceMethod yX7_certainOverflows, Cond.selects RX7 yX7_certainOverflows yX7_certainOverflows, Cond.code yX7_certainOverflows cX7_certainOverflows 2 (some .int), Cond.fieldLink RX7 158 "CounterBraid$Decoder" "overflows" "LCounterBraid$Bounds;", Cond.methodLink RX7 154 yX2_decodeOverflows, Cond.methodLink RL 49 yX7_places, Cond.instanceMethod yX7_places, Cond.selects RX7 yX7_places yX7_places, Cond.code yX7_places cX7_places 2 (some .int), Cond.methodLink RX7 97 yX3_placesOfKey, Cond.methodLink RL 52 yX7_placesAbove, Cond.instanceMethod yX7_placesAbove, Cond.selects RX7 yX7_placesAbove yX7_placesAbove, Cond.code yX7_placesAbove cX7_placesAbove 2 (some .int), Cond.methodLink RX7 100 yX7_isCounter, Cond.instanceMethod yX7_isCounter, Cond.selects RX7 yX7_isCounter yX7_isCounter, Cond.code yX7_isCounter cX7_isCounter 2 (some .boolean), Cond.methodLink RX7 103 yX3_placesOfCounter, Cond.methodLink RL 55 yX7_overflow, Cond.instanceMethod yX7_overflow, Cond.selects RX7 yX7_overflow yX7_overflow]
def wsL_law_r21 : List Cond := [Cond.code yX7_overflow cX7_overflow 4 (some .long), Cond.methodLink RL 58 yX7_rest, Cond.instanceMethod yX7_rest, Cond.selects RX7 yX7_rest yX7_rest, Cond.code yX7_rest cX7_rest 3 (some .int), Cond.methodLink RL 62 yX7_isMarked, Cond.instanceMethod yX7_isMarked, Cond.selects RX7 yX7_isMarked yX7_isMarked, Cond.code yX7_isMarked cX7_isMarked 3 (some .int), Cond.methodLink RL 65 yX7_above, Cond.instanceMethod yX7_above, Cond.selects RX7 yX7_above yX7_above, Cond.code yX7_above cX7_above 3 (some .long), Cond.methodLink RL 126 yX7_addBraid, Cond.instanceMethod yX7_addBraid, Cond.selects RX7 yX7_addBraid yX7_addBraid, Cond.code yX7_addBraid cX7_addBraid 3 (some .int), Cond.methodLink RX7 132 yX1_hasRoomFor, Cond.instanceMethod yX1_hasRoomFor, Cond.selects RX1 yX1_hasRoomFor yX1_hasRoomFor, Cond.code yX1_hasRoomFor cX1_hasRoomFor 3 (some .boolean), Cond.constantLong RX1 58 (1000000000), Cond.methodLink RX7 136 yX1_join, Cond.instanceMethod yX1_join]
def wsL_law_r22 : List Cond := [Cond.selects RX1 yX1_join yX1_join, Cond.code yX1_join cX1_join 6 (some .int), Cond.methodLink RX1 64 Lib.Math.max.name, Cond.static Lib.Math.max.name, Cond.code Lib.Math.max.name Lib.Math.max.code 2 (some .int), Cond.methodLink RX1 60 yX1_raise, Cond.methodLink RL 129 yX7_clear, Cond.instanceMethod yX7_clear, Cond.selects RX7 yX7_clear yX7_clear, Cond.code yX7_clear cX7_clear 4 (some .long), Cond.methodLink RX7 144 yX1_empty, Cond.methodLink RL 133 yX7_bits]
def wsL_law : List Cond := (wsL_law_r1 ++ (wsL_law_r2 ++ (wsL_law_r3 ++ (wsL_law_r4 ++ (wsL_law_r5 ++ (wsL_law_r6 ++ (wsL_law_r7 ++ (wsL_law_r8 ++ (wsL_law_r9 ++ (wsL_law_r10 ++ (wsL_law_r11 ++ (wsL_law_r12 ++ (wsL_law_r13 ++ (wsL_law_r14 ++ (wsL_law_r15 ++ (wsL_law_r16 ++ (wsL_law_r17 ++ (wsL_law_r18 ++ (wsL_law_r19 ++ (wsL_law_r20 ++ (wsL_law_r21 ++ wsL_law_r22))))))))))))))))))))) ++ wsX70 ++ wsX50 ++ wsX40 ++ wsX60 ++ wsX20 ++ wsX30 ++ wsX10 ++ wsX00 ++ ([] : List Cond)
theorem inlX0 : ∀ w ∈ wsX00, w ∈ wsL_law := fun _ h => List.mem_append_left _ (List.mem_append_right _ h)
theorem inlX1 : ∀ w ∈ wsX10, w ∈ wsL_law := fun _ h => List.mem_append_left _ (List.mem_append_left _ (List.mem_append_right _ h))
theorem inlX2 : ∀ w ∈ wsX20, w ∈ wsL_law := fun _ h => List.mem_append_left _ (List.mem_append_left _ (List.mem_append_left _ (List.mem_append_left _ (List.mem_append_right _ h))))
theorem inlX3 : ∀ w ∈ wsX30, w ∈ wsL_law := fun _ h => List.mem_append_left _ (List.mem_append_left _ (List.mem_append_left _ (List.mem_append_right _ h)))
theorem inlX4 : ∀ w ∈ wsX40, w ∈ wsL_law := fun _ h => List.mem_append_left _ (List.mem_append_left _ (List.mem_append_left _ (List.mem_append_left _ (List.mem_append_left _ (List.mem_append_left _ (List.mem_append_right _ h))))))
theorem inlX5 : ∀ w ∈ wsX50, w ∈ wsL_law := fun _ h => List.mem_append_left _ (List.mem_append_left _ (List.mem_append_left _ (List.mem_append_left _ (List.mem_append_left _ (List.mem_append_left _ (List.mem_append_left _ (List.mem_append_right _ h)))))))
theorem inlX6 : ∀ w ∈ wsX60, w ∈ wsL_law := fun _ h => List.mem_append_left _ (List.mem_append_left _ (List.mem_append_left _ (List.mem_append_left _ (List.mem_append_left _ (List.mem_append_right _ h)))))
theorem inlX7 : ∀ w ∈ wsX70, w ∈ wsL_law := fun _ h => List.mem_append_left _ (List.mem_append_left _ (List.mem_append_left _ (List.mem_append_left _ (List.mem_append_left _ (List.mem_append_left _ (List.mem_append_left _ (List.mem_append_left _ (List.mem_append_right _ h))))))))
theorem inJ9 : ∀ w ∈ wsJ90, w ∈ lw_tbl := by decide +kernel
theorem inJ10 : ∀ w ∈ wsJ100, w ∈ lw_tbl := by decide +kernel
theorem inJ7 : ∀ w ∈ wsJ70, w ∈ lw_tbl := by decide +kernel
abbrev vwCl : List vw_C := [(RX0, TX0, 9), (RX1, TX1, 4), (RX2, TX2, 2), (RX3, TX3, 6), (RX4, TX4, 2), (RX5, TX5, 5), (RX6, TX6, 7), (RX7, TX7, 5)]
