/-! ===== BEGIN words of one list among another's, by their places ===== -/
theorem goodIn_r {big : List Cond} (ws : List Cond) (ps : List Nat) (hp : ws = ps.filterMap (fun i => big[i]?)) (h : ws.all goodWord = true) : GoodIn big ws := by
  intro w hw
  have h1 := List.all_eq_true.mp h w hw
  rw [hp] at hw
  obtain ⟨i, -, hi⟩ := List.mem_filterMap.mp hw
  have hm : w ∈ big := by first | exact List.mem_of_getElem? hi | exact List.getElem?_mem hi
  exact ⟨hm, good_of_word h1⟩
theorem goodIn_app {big a b : List Cond} (ha : GoodIn big a) (hb : GoodIn big b) : GoodIn big (a ++ b) := fun w h => (List.mem_append.mp h).elim (ha w) (hb w)
theorem goodIn_ca {big a b : List Cond} {c : Cond} (ha : GoodIn big (c :: a)) (hb : GoodIn big b) : GoodIn big (c :: (a ++ b)) := fun w h => (List.mem_cons.mp h).elim (fun e => ha w (List.mem_cons.mpr (Or.inl e))) (fun h => (List.mem_append.mp h).elim (fun h => ha w (List.mem_cons.mpr (Or.inr h))) (hb w))
theorem goodIn_sub {big ws : List Cond} (hm : ∀ w ∈ ws, w ∈ big) (h : ws.all goodWord = true) : GoodIn big ws := fun w hw => ⟨hm w hw, good_of_word (List.all_eq_true.mp h w hw)⟩
def RX0 : String := "CounterBraid$Bounds"
def TX0 : u_T := fun k => match k with
  | 0 => ("CounterBraid$Bounds", "least", "[J", true)
  | 1 => ("CounterBraid$Bounds", "greatest", "[J", true)
  | 2 => ("CounterBraid$Bounds", "lowerSums", "[J", true)
  | 3 => ("CounterBraid$Bounds", "upperSums", "[J", true)
  | 4 => ("CounterBraid$Bounds", "lower", "[J", true)
  | 5 => ("CounterBraid$Bounds", "upper", "[J", true)
  | 6 => ("CounterBraid$Bounds", "places", "[[I", true)
  | 7 => ("CounterBraid$Bounds", "placeCounts", "[I", true)
  | _ => ("CounterBraid$Bounds", "things", "I", false)
def tyX0 : Nat → FieldType := fun k => match k with
  | 0 => .array .long
  | 1 => .array .long
  | 2 => .array .long
  | 3 => .array .long
  | 4 => .array .long
  | 5 => .array .long
  | 6 => .array (.array .int)
  | 7 => .array .int
  | _ => .int
abbrev wsX00 : List Cond := u_ws RX0 TX0 9
theorem nmX0 : ∀ a, a < 9 → ∀ b, b < 9 → a ≠ b → (TX0 a).2.1 ≠ (TX0 b).2.1 := by decide +kernel
theorem tyX0_ok : ∀ k, k < 9 → parseFieldDescriptor (TX0 k).2.2.1 = some (tyX0 k) := by decide +kernel
abbrev cX0_init : ByteArray := prog_2_method_1_code
def yX0_init : MethodName := ⟨RX0, "<init>", "()V"⟩
abbrev cX0_start : ByteArray := prog_2_method_2_code
def yX0_start : MethodName := ⟨RX0, "start", "()V"⟩
abbrev cX0_append : ByteArray := prog_2_method_3_code
def yX0_append : MethodName := ⟨RX0, "append", "(IJ)V"⟩
abbrev cX0_narrow : ByteArray := prog_2_method_4_code
def yX0_narrow : MethodName := ⟨RX0, "narrow", "(I)I"⟩
abbrev cX0_narrowOnce : ByteArray := prog_2_method_5_code
def yX0_narrowOnce : MethodName := ⟨RX0, "narrowOnce", "()Z"⟩
abbrev cX0_sumBounds : ByteArray := prog_2_method_6_code
def yX0_sumBounds : MethodName := ⟨RX0, "sumBounds", "()V"⟩
abbrev cX0_narrowThing : ByteArray := prog_2_method_7_code
def yX0_narrowThing : MethodName := ⟨RX0, "narrowThing", "(I)Z"⟩
abbrev cX0_boundOf : ByteArray := prog_2_method_8_code
def yX0_boundOf : MethodName := ⟨RX0, "boundOf", "(IZ)J"⟩
abbrev cX0_certainThings : ByteArray := prog_2_method_9_code
def yX0_certainThings : MethodName := ⟨RX0, "certainThings", "()I"⟩
abbrev cX0_sumOfBounds : ByteArray := prog_2_method_10_code
def yX0_sumOfBounds : MethodName := ⟨RX0, "sumOfBounds", "(Z)J"⟩
abbrev cX0_widestThing : ByteArray := prog_2_method_11_code
def yX0_widestThing : MethodName := ⟨RX0, "widestThing", "()I"⟩
def RX1 : String := "CounterBraid$Braid"
def TX1 : u_T := fun k => match k with
  | 0 => ("CounterBraid$Braid", "truths", "[J", true)
  | 1 => ("CounterBraid$Braid", "rests", "[I", true)
  | 2 => ("CounterBraid$Braid", "marks", "[I", true)
  | _ => ("CounterBraid$Braid", "numbers", "[J", true)
def tyX1 : Nat → FieldType := fun k => match k with
  | 0 => .array .long
  | 1 => .array .int
  | 2 => .array .int
  | _ => .array .long
abbrev wsX10 : List Cond := u_ws RX1 TX1 4
theorem nmX1 : ∀ a, a < 4 → ∀ b, b < 4 → a ≠ b → (TX1 a).2.1 ≠ (TX1 b).2.1 := by decide +kernel
theorem tyX1_ok : ∀ k, k < 4 → parseFieldDescriptor (TX1 k).2.2.1 = some (tyX1 k) := by decide +kernel
abbrev cX1_init : ByteArray := prog_3_method_1_code
def yX1_init : MethodName := ⟨RX1, "<init>", "()V"⟩
abbrev cX1_copyFrom : ByteArray := prog_3_method_2_code
def yX1_copyFrom : MethodName := ⟨RX1, "copyFrom", "(LCounterBraid$Braid;)V"⟩
abbrev cX1_empty : ByteArray := prog_3_method_3_code
def yX1_empty : MethodName := ⟨RX1, "empty", "()V"⟩
abbrev cX1_raise : ByteArray := prog_3_method_4_code
def yX1_raise : MethodName := ⟨RX1, "raise", "(LCounterBraid$Form;IJ)V"⟩
abbrev cX1_raiseNumbers : ByteArray := prog_3_method_5_code
def yX1_raiseNumbers : MethodName := ⟨RX1, "raiseNumbers", "(IJ)V"⟩
abbrev cX1_hasRoomFor : ByteArray := prog_3_method_6_code
def yX1_hasRoomFor : MethodName := ⟨RX1, "hasRoomFor", "(LCounterBraid$Braid;)Z"⟩
abbrev cX1_join : ByteArray := prog_3_method_7_code
def yX1_join : MethodName := ⟨RX1, "join", "(LCounterBraid$Form;LCounterBraid$Braid;)I"⟩
abbrev cX1_sumOfTruths : ByteArray := prog_3_method_8_code
def yX1_sumOfTruths : MethodName := ⟨RX1, "sumOfTruths", "()J"⟩
abbrev cX1_sumOfNumbers : ByteArray := prog_3_method_9_code
def yX1_sumOfNumbers : MethodName := ⟨RX1, "sumOfNumbers", "()J"⟩
def RX2 : String := "CounterBraid$Decoder"
def TX2 : u_T := fun k => match k with
  | 0 => ("CounterBraid$Decoder", "overflows", "LCounterBraid$Bounds;", true)
  | _ => ("CounterBraid$Decoder", "amounts", "LCounterBraid$Bounds;", true)
def tyX2 : Nat → FieldType := fun k => match k with
  | 0 => .object "CounterBraid$Bounds"
  | _ => .object "CounterBraid$Bounds"
abbrev wsX20 : List Cond := u_ws RX2 TX2 2
theorem nmX2 : ∀ a, a < 2 → ∀ b, b < 2 → a ≠ b → (TX2 a).2.1 ≠ (TX2 b).2.1 := by decide +kernel
theorem tyX2_ok : ∀ k, k < 2 → parseFieldDescriptor (TX2 k).2.2.1 = some (tyX2 k) := by decide +kernel
abbrev cX2_init : ByteArray := prog_4_method_1_code
def yX2_init : MethodName := ⟨RX2, "<init>", "()V"⟩
abbrev cX2_decodeOverflows : ByteArray := prog_4_method_2_code
def yX2_decodeOverflows : MethodName := ⟨RX2, "decodeOverflows", "(LCounterBraid$Form;LCounterBraid$Braid;)V"⟩
abbrev cX2_decode : ByteArray := prog_4_method_3_code
def yX2_decode : MethodName := ⟨RX2, "decode", "(LCounterBraid$State;LCounterBraid$Braid;I)I"⟩
def RX3 : String := "CounterBraid$Form"
def TX3 : u_T := fun k => match k with
  | 0 => ("CounterBraid$Form", "counters", "I", false)
  | 1 => ("CounterBraid$Form", "bits", "I", false)
  | 2 => ("CounterBraid$Form", "functions", "I", false)
  | 3 => ("CounterBraid$Form", "countersAbove", "I", false)
  | 4 => ("CounterBraid$Form", "functionsAbove", "I", false)
  | _ => ("CounterBraid$Form", "rounds", "I", false)
def tyX3 : Nat → FieldType := fun k => match k with
  | 0 => .int
  | 1 => .int
  | 2 => .int
  | 3 => .int
  | 4 => .int
  | _ => .int
abbrev wsX30 : List Cond := u_ws RX3 TX3 6
theorem nmX3 : ∀ a, a < 6 → ∀ b, b < 6 → a ≠ b → (TX3 a).2.1 ≠ (TX3 b).2.1 := by decide +kernel
theorem tyX3_ok : ∀ k, k < 6 → parseFieldDescriptor (TX3 k).2.2.1 = some (tyX3 k) := by decide +kernel
abbrev cX3_init : ByteArray := prog_5_method_1_code
def yX3_init : MethodName := ⟨RX3, "<init>", "()V"⟩
abbrev cX3_copyFrom : ByteArray := prog_5_method_2_code
def yX3_copyFrom : MethodName := ⟨RX3, "copyFrom", "(LCounterBraid$Form;)V"⟩
abbrev cX3_placesOfKey : ByteArray := prog_5_method_3_code
def yX3_placesOfKey : MethodName := ⟨RX3, "placesOfKey", "(I)I"⟩
abbrev cX3_placesOfCounter : ByteArray := prog_5_method_4_code
def yX3_placesOfCounter : MethodName := ⟨RX3, "placesOfCounter", "(I)I"⟩
abbrev cX3_remainder : ByteArray := prog_5_method_5_code
def yX3_remainder : MethodName := ⟨RX3, "remainder", "(II)I"⟩
def RX4 : String := "CounterBraid$History"
def TX4 : u_T := fun k => match k with
  | 0 => ("CounterBraid$History", "states", "[LCounterBraid$State;", true)
  | _ => ("CounterBraid$History", "kept", "I", false)
def tyX4 : Nat → FieldType := fun k => match k with
  | 0 => .array (.object "CounterBraid$State")
  | _ => .int
abbrev wsX40 : List Cond := u_ws RX4 TX4 2
theorem nmX4 : ∀ a, a < 2 → ∀ b, b < 2 → a ≠ b → (TX4 a).2.1 ≠ (TX4 b).2.1 := by decide +kernel
theorem tyX4_ok : ∀ k, k < 2 → parseFieldDescriptor (TX4 k).2.2.1 = some (tyX4 k) := by decide +kernel
abbrev cX4_init : ByteArray := prog_6_method_1_code
def yX4_init : MethodName := ⟨RX4, "<init>", "()V"⟩
abbrev cX4_push : ByteArray := prog_6_method_2_code
def yX4_push : MethodName := ⟨RX4, "push", "(LCounterBraid$State;)V"⟩
abbrev cX4_dropOldest : ByteArray := prog_6_method_3_code
def yX4_dropOldest : MethodName := ⟨RX4, "dropOldest", "()V"⟩
abbrev cX4_pop : ByteArray := prog_6_method_4_code
def yX4_pop : MethodName := ⟨RX4, "pop", "(LCounterBraid$State;)I"⟩
def RX5 : String := "CounterBraid$State"
def TX5 : u_T := fun k => match k with
  | 0 => ("CounterBraid$State", "form", "LCounterBraid$Form;", true)
  | 1 => ("CounterBraid$State", "flows", "I", false)
  | 2 => ("CounterBraid$State", "keys", "[I", true)
  | 3 => ("CounterBraid$State", "first", "LCounterBraid$Braid;", true)
  | _ => ("CounterBraid$State", "second", "LCounterBraid$Braid;", true)
def tyX5 : Nat → FieldType := fun k => match k with
  | 0 => .object "CounterBraid$Form"
  | 1 => .int
  | 2 => .array .int
  | 3 => .object "CounterBraid$Braid"
  | _ => .object "CounterBraid$Braid"
abbrev wsX50 : List Cond := u_ws RX5 TX5 5
theorem nmX5 : ∀ a, a < 5 → ∀ b, b < 5 → a ≠ b → (TX5 a).2.1 ≠ (TX5 b).2.1 := by decide +kernel
theorem tyX5_ok : ∀ k, k < 5 → parseFieldDescriptor (TX5 k).2.2.1 = some (tyX5 k) := by decide +kernel
abbrev cX5_init : ByteArray := prog_7_method_1_code
def yX5_init : MethodName := ⟨RX5, "<init>", "()V"⟩
abbrev cX5_copyFrom : ByteArray := prog_7_method_2_code
def yX5_copyFrom : MethodName := ⟨RX5, "copyFrom", "(LCounterBraid$State;)V"⟩
abbrev cX5_braid : ByteArray := prog_7_method_3_code
def yX5_braid : MethodName := ⟨RX5, "braid", "(I)LCounterBraid$Braid;"⟩
abbrev cX5_empty : ByteArray := prog_7_method_4_code
def yX5_empty : MethodName := ⟨RX5, "empty", "()V"⟩
abbrev cX5_formNumber : ByteArray := prog_7_method_5_code
def yX5_formNumber : MethodName := ⟨RX5, "formNumber", "(I)I"⟩
abbrev cX5_find : ByteArray := prog_7_method_6_code
def yX5_find : MethodName := ⟨RX5, "find", "(I)I"⟩
abbrev cX5_findOrAppend : ByteArray := prog_7_method_7_code
def yX5_findOrAppend : MethodName := ⟨RX5, "findOrAppend", "(I)I"⟩
abbrev cX5_countFlow : ByteArray := prog_7_method_8_code
def yX5_countFlow : MethodName := ⟨RX5, "countFlow", "(LCounterBraid$Braid;IJ)V"⟩
def RX6 : String := "CounterBraid$Text"
def TX6 : u_T := fun k => match k with
  | 0 => ("CounterBraid$Text", "codes", "[I", true)
  | 1 => ("CounterBraid$Text", "length", "I", false)
  | 2 => ("CounterBraid$Text", "itemKeys", "[I", true)
  | 3 => ("CounterBraid$Text", "itemCounts", "[I", true)
  | 4 => ("CounterBraid$Text", "items", "I", false)
  | 5 => ("CounterBraid$Text", "newFlows", "I", false)
  | _ => ("CounterBraid$Text", "at", "I", false)
def tyX6 : Nat → FieldType := fun k => match k with
  | 0 => .array .int
  | 1 => .int
  | 2 => .array .int
  | 3 => .array .int
  | 4 => .int
  | 5 => .int
  | _ => .int
abbrev wsX60 : List Cond := u_ws RX6 TX6 7
theorem nmX6 : ∀ a, a < 7 → ∀ b, b < 7 → a ≠ b → (TX6 a).2.1 ≠ (TX6 b).2.1 := by decide +kernel
theorem tyX6_ok : ∀ k, k < 7 → parseFieldDescriptor (TX6 k).2.2.1 = some (tyX6 k) := by decide +kernel
abbrev cX6_init : ByteArray := prog_8_method_1_code
def yX6_init : MethodName := ⟨RX6, "<init>", "()V"⟩
abbrev cX6_append : ByteArray := prog_8_method_2_code
def yX6_append : MethodName := ⟨RX6, "append", "(I)I"⟩
abbrev cX6_read : ByteArray := prog_8_method_3_code
def yX6_read : MethodName := ⟨RX6, "read", "(LCounterBraid$State;)I"⟩
abbrev cX6_readItem : ByteArray := prog_8_method_4_code
def yX6_readItem : MethodName := ⟨RX6, "readItem", "(LCounterBraid$State;)I"⟩
abbrev cX6_skipBlanks : ByteArray := prog_8_method_5_code
def yX6_skipBlanks : MethodName := ⟨RX6, "skipBlanks", "()V"⟩
abbrev cX6_skipSign : ByteArray := prog_8_method_6_code
def yX6_skipSign : MethodName := ⟨RX6, "skipSign", "(C)Z"⟩
abbrev cX6_readNumber : ByteArray := prog_8_method_7_code
def yX6_readNumber : MethodName := ⟨RX6, "readNumber", "()I"⟩
abbrev cX6_isKnown : ByteArray := prog_8_method_8_code
def yX6_isKnown : MethodName := ⟨RX6, "isKnown", "(ILCounterBraid$State;)Z"⟩
abbrev cX6_keep : ByteArray := prog_8_method_9_code
def yX6_keep : MethodName := ⟨RX6, "keep", "(II)V"⟩
abbrev cX6_fits : ByteArray := prog_8_method_10_code
def yX6_fits : MethodName := ⟨RX6, "fits", "(LCounterBraid$State;)Z"⟩
abbrev cX6_sumFor : ByteArray := prog_8_method_11_code
def yX6_sumFor : MethodName := ⟨RX6, "sumFor", "(I)J"⟩
def RX7 : String := "CounterBraid"
def TX7 : u_T := fun k => match k with
  | 0 => ("CounterBraid", "now", "LCounterBraid$State;", true)
  | 1 => ("CounterBraid", "history", "LCounterBraid$History;", true)
  | 2 => ("CounterBraid", "text", "LCounterBraid$Text;", true)
  | 3 => ("CounterBraid", "decoder", "LCounterBraid$Decoder;", true)
  | _ => ("CounterBraid", "trial", "LCounterBraid$State;", true)
def tyX7 : Nat → FieldType := fun k => match k with
  | 0 => .object "CounterBraid$State"
  | 1 => .object "CounterBraid$History"
  | 2 => .object "CounterBraid$Text"
  | 3 => .object "CounterBraid$Decoder"
  | _ => .object "CounterBraid$State"
abbrev wsX70 : List Cond := u_ws RX7 TX7 5
theorem nmX7 : ∀ a, a < 5 → ∀ b, b < 5 → a ≠ b → (TX7 a).2.1 ≠ (TX7 b).2.1 := by decide +kernel
theorem tyX7_ok : ∀ k, k < 5 → parseFieldDescriptor (TX7 k).2.2.1 = some (tyX7 k) := by decide +kernel
abbrev cX7_init : ByteArray := prog_1_method_1_code
def yX7_init : MethodName := ⟨RX7, "<init>", "()V"⟩
abbrev cX7_setFirst : ByteArray := prog_1_method_2_code
def yX7_setFirst : MethodName := ⟨RX7, "setFirst", "(III)I"⟩
abbrev cX7_setSecond : ByteArray := prog_1_method_3_code
def yX7_setSecond : MethodName := ⟨RX7, "setSecond", "(II)I"⟩
abbrev cX7_setRounds : ByteArray := prog_1_method_4_code
def yX7_setRounds : MethodName := ⟨RX7, "setRounds", "(I)I"⟩
abbrev cX7_form : ByteArray := prog_1_method_5_code
def yX7_form : MethodName := ⟨RX7, "form", "(I)I"⟩
abbrev cX7_addFlow : ByteArray := prog_1_method_6_code
def yX7_addFlow : MethodName := ⟨RX7, "addFlow", "(I)I"⟩
abbrev cX7_key : ByteArray := prog_1_method_7_code
def yX7_key : MethodName := ⟨RX7, "key", "(I)I"⟩
abbrev cX7_flowOf : ByteArray := prog_1_method_8_code
def yX7_flowOf : MethodName := ⟨RX7, "flowOf", "(I)I"⟩
abbrev cX7_places : ByteArray := prog_1_method_9_code
def yX7_places : MethodName := ⟨RX7, "places", "(I)I"⟩
abbrev cX7_placesAbove : ByteArray := prog_1_method_10_code
def yX7_placesAbove : MethodName := ⟨RX7, "placesAbove", "(I)I"⟩
abbrev cX7_count : ByteArray := prog_1_method_11_code
def yX7_count : MethodName := ⟨RX7, "count", "(III)J"⟩
abbrev cX7_addBraid : ByteArray := prog_1_method_12_code
def yX7_addBraid : MethodName := ⟨RX7, "addBraid", "(II)I"⟩
abbrev cX7_clear : ByteArray := prog_1_method_13_code
def yX7_clear : MethodName := ⟨RX7, "clear", "(I)J"⟩
abbrev cX7_truth : ByteArray := prog_1_method_14_code
def yX7_truth : MethodName := ⟨RX7, "truth", "(II)J"⟩
abbrev cX7_rest : ByteArray := prog_1_method_15_code
def yX7_rest : MethodName := ⟨RX7, "rest", "(II)I"⟩
abbrev cX7_isMarked : ByteArray := prog_1_method_16_code
def yX7_isMarked : MethodName := ⟨RX7, "isMarked", "(II)I"⟩
abbrev cX7_above : ByteArray := prog_1_method_17_code
def yX7_above : MethodName := ⟨RX7, "above", "(II)J"⟩
abbrev cX7_overflow : ByteArray := prog_1_method_18_code
def yX7_overflow : MethodName := ⟨RX7, "overflow", "(IIZ)J"⟩
abbrev cX7_bound : ByteArray := prog_1_method_19_code
def yX7_bound : MethodName := ⟨RX7, "bound", "(IIZ)J"⟩
abbrev cX7_boundAfter : ByteArray := prog_1_method_20_code
def yX7_boundAfter : MethodName := ⟨RX7, "boundAfter", "(IIZI)J"⟩
abbrev cX7_certain : ByteArray := prog_1_method_21_code
def yX7_certain : MethodName := ⟨RX7, "certain", "(I)I"⟩
abbrev cX7_certainOverflows : ByteArray := prog_1_method_22_code
def yX7_certainOverflows : MethodName := ⟨RX7, "certainOverflows", "(I)I"⟩
abbrev cX7_lastRound : ByteArray := prog_1_method_23_code
def yX7_lastRound : MethodName := ⟨RX7, "lastRound", "(I)I"⟩
abbrev cX7_total : ByteArray := prog_1_method_24_code
def yX7_total : MethodName := ⟨RX7, "total", "(II)J"⟩
abbrev cX7_estimate : ByteArray := prog_1_method_25_code
def yX7_estimate : MethodName := ⟨RX7, "estimate", "(II)J"⟩
abbrev cX7_leastPlace : ByteArray := prog_1_method_26_code
def yX7_leastPlace : MethodName := ⟨RX7, "leastPlace", "(II)J"⟩
abbrev cX7_widest : ByteArray := prog_1_method_27_code
def yX7_widest : MethodName := ⟨RX7, "widest", "(I)I"⟩
abbrev cX7_leastSpace : ByteArray := prog_1_method_28_code
def yX7_leastSpace : MethodName := ⟨RX7, "leastSpace", "(I)I"⟩
abbrev cX7_bits : ByteArray := prog_1_method_29_code
def yX7_bits : MethodName := ⟨RX7, "bits", "()I"⟩
abbrev cX7_bitsForEach : ByteArray := prog_1_method_30_code
def yX7_bitsForEach : MethodName := ⟨RX7, "bitsForEach", "()I"⟩
abbrev cX7_undo : ByteArray := prog_1_method_31_code
def yX7_undo : MethodName := ⟨RX7, "undo", "()I"⟩
abbrev cX7_type : ByteArray := prog_1_method_32_code
def yX7_type : MethodName := ⟨RX7, "type", "(I)I"⟩
abbrev cX7_clearText : ByteArray := prog_1_method_33_code
def yX7_clearText : MethodName := ⟨RX7, "clearText", "()I"⟩
abbrev cX7_textFault : ByteArray := prog_1_method_34_code
def yX7_textFault : MethodName := ⟨RX7, "textFault", "()I"⟩
abbrev cX7_load : ByteArray := prog_1_method_35_code
def yX7_load : MethodName := ⟨RX7, "load", "()I"⟩
abbrev cX7_digest : ByteArray := prog_1_method_36_code
def yX7_digest : MethodName := ⟨RX7, "digest", "()J"⟩
abbrev cX7_isFrom : ByteArray := prog_1_method_37_code
def yX7_isFrom : MethodName := ⟨RX7, "isFrom", "(III)Z"⟩
abbrev cX7_isBraid : ByteArray := prog_1_method_38_code
def yX7_isBraid : MethodName := ⟨RX7, "isBraid", "(I)Z"⟩
abbrev cX7_isFlow : ByteArray := prog_1_method_39_code
def yX7_isFlow : MethodName := ⟨RX7, "isFlow", "(I)Z"⟩
abbrev cX7_isCounter : ByteArray := prog_1_method_40_code
def yX7_isCounter : MethodName := ⟨RX7, "isCounter", "(I)Z"⟩
abbrev cX7_isTrialCertain : ByteArray := prog_1_method_41_code
def yX7_isTrialCertain : MethodName := ⟨RX7, "isTrialCertain", "(LCounterBraid$Braid;)Z"⟩
abbrev cX7_hashOfBraid : ByteArray := prog_1_method_42_code
def yX7_hashOfBraid : MethodName := ⟨RX7, "hashOfBraid", "(JLCounterBraid$Braid;)J"⟩
abbrev cX7_bitsOfFloat : ByteArray := prog_1_method_43_code
def yX7_bitsOfFloat : MethodName := ⟨RX7, "bitsOfFloat", "(F)I"⟩
abbrev cX7_isIn : ByteArray := prog_1_method_44_code
def yX7_isIn : MethodName := ⟨RX7, "isIn", "(II)Z"⟩
def RX8 : String := "CounterBraidModel"
def TX8 : u_T := fun k => match k with
  | 0 => ("CounterBraidModel", "row", "[I", true)
  | 1 => ("CounterBraidModel", "number", "[J", true)
  | 2 => ("CounterBraidModel", "saved", "I", false)
  | 3 => ("CounterBraidModel", "place", "[I", true)
  | 4 => ("CounterBraidModel", "low", "[J", true)
  | 5 => ("CounterBraidModel", "high", "[J", true)
  | 6 => ("CounterBraidModel", "lowBefore", "[J", true)
  | 7 => ("CounterBraidModel", "highBefore", "[J", true)
  | 8 => ("CounterBraidModel", "least", "[J", true)
  | 9 => ("CounterBraidModel", "greatest", "[J", true)
  | 10 => ("CounterBraidModel", "things", "I", false)
  | 11 => ("CounterBraidModel", "changing", "I", false)
  | 12 => ("CounterBraidModel", "overLow", "[J", true)
  | 13 => ("CounterBraidModel", "overHigh", "[J", true)
  | 14 => ("CounterBraidModel", "text", "[I", true)
  | 15 => ("CounterBraidModel", "length", "I", false)
  | 16 => ("CounterBraidModel", "at", "I", false)
  | 17 => ("CounterBraidModel", "readKey", "[I", true)
  | 18 => ("CounterBraidModel", "readCount", "[J", true)
  | 19 => ("CounterBraidModel", "keys", "I", false)
  | _ => ("CounterBraidModel", "h", "J", false)
def tyX8 : Nat → FieldType := fun k => match k with
  | 0 => .array .int
  | 1 => .array .long
  | 2 => .int
  | 3 => .array .int
  | 4 => .array .long
  | 5 => .array .long
  | 6 => .array .long
  | 7 => .array .long
  | 8 => .array .long
  | 9 => .array .long
  | 10 => .int
  | 11 => .int
  | 12 => .array .long
  | 13 => .array .long
  | 14 => .array .int
  | 15 => .int
  | 16 => .int
  | 17 => .array .int
  | 18 => .array .long
  | 19 => .int
  | _ => .long
abbrev wsX80 : List Cond := u_ws RX8 TX8 21
theorem nmX8 : ∀ a, a < 21 → ∀ b, b < 21 → a ≠ b → (TX8 a).2.1 ≠ (TX8 b).2.1 := by decide +kernel
theorem tyX8_ok : ∀ k, k < 21 → parseFieldDescriptor (TX8 k).2.2.1 = some (tyX8 k) := by decide +kernel
abbrev cX8_init : ByteArray := prog_10_method_1_code
def yX8_init : MethodName := ⟨RX8, "<init>", "()V"⟩
abbrev cX8_in : ByteArray := prog_10_method_2_code
def yX8_in : MethodName := ⟨RX8, "in", "(III)Z"⟩
abbrev cX8_copies : ByteArray := prog_10_method_3_code
def yX8_copies : MethodName := ⟨RX8, "copies", "(II)V"⟩
abbrev cX8_saves : ByteArray := prog_10_method_4_code
def yX8_saves : MethodName := ⟨RX8, "saves", "()V"⟩
abbrev cX8_isBraid : ByteArray := prog_10_method_5_code
def yX8_isBraid : MethodName := ⟨RX8, "isBraid", "(I)Z"⟩
abbrev cX8_isFlow : ByteArray := prog_10_method_6_code
def yX8_isFlow : MethodName := ⟨RX8, "isFlow", "(I)Z"⟩
abbrev cX8_isCounter : ByteArray := prog_10_method_7_code
def yX8_isCounter : MethodName := ⟨RX8, "isCounter", "(I)Z"⟩
abbrev cX8_restAt : ByteArray := prog_10_method_8_code
def yX8_restAt : MethodName := ⟨RX8, "restAt", "(II)I"⟩
abbrev cX8_marked : ByteArray := prog_10_method_9_code
def yX8_marked : MethodName := ⟨RX8, "marked", "(II)Z"⟩
abbrev cX8_truthAt : ByteArray := prog_10_method_10_code
def yX8_truthAt : MethodName := ⟨RX8, "truthAt", "(II)J"⟩
abbrev cX8_aboveAt : ByteArray := prog_10_method_11_code
def yX8_aboveAt : MethodName := ⟨RX8, "aboveAt", "(II)J"⟩
abbrev cX8_empties : ByteArray := prog_10_method_12_code
def yX8_empties : MethodName := ⟨RX8, "empties", "(I)V"⟩
abbrev cX8_placesOf : ByteArray := prog_10_method_13_code
def yX8_placesOf : MethodName := ⟨RX8, "placesOf", "(I)I"⟩
abbrev cX8_placesUp : ByteArray := prog_10_method_14_code
def yX8_placesUp : MethodName := ⟨RX8, "placesUp", "(I)I"⟩
abbrev cX8_setFirst : ByteArray := prog_10_method_15_code
def yX8_setFirst : MethodName := ⟨RX8, "setFirst", "(III)I"⟩
abbrev cX8_setSecond : ByteArray := prog_10_method_16_code
def yX8_setSecond : MethodName := ⟨RX8, "setSecond", "(II)I"⟩
abbrev cX8_setRounds : ByteArray := prog_10_method_17_code
def yX8_setRounds : MethodName := ⟨RX8, "setRounds", "(I)I"⟩
abbrev cX8_form : ByteArray := prog_10_method_18_code
def yX8_form : MethodName := ⟨RX8, "form", "(I)I"⟩
abbrev cX8_find : ByteArray := prog_10_method_19_code
def yX8_find : MethodName := ⟨RX8, "find", "(I)I"⟩
abbrev cX8_adds : ByteArray := prog_10_method_20_code
def yX8_adds : MethodName := ⟨RX8, "adds", "(I)I"⟩
abbrev cX8_addFlow : ByteArray := prog_10_method_21_code
def yX8_addFlow : MethodName := ⟨RX8, "addFlow", "(I)I"⟩
abbrev cX8_key : ByteArray := prog_10_method_22_code
def yX8_key : MethodName := ⟨RX8, "key", "(I)I"⟩
abbrev cX8_flowOf : ByteArray := prog_10_method_23_code
def yX8_flowOf : MethodName := ⟨RX8, "flowOf", "(I)I"⟩
abbrev cX8_places : ByteArray := prog_10_method_24_code
def yX8_places : MethodName := ⟨RX8, "places", "(I)I"⟩
abbrev cX8_placesAbove : ByteArray := prog_10_method_25_code
def yX8_placesAbove : MethodName := ⟨RX8, "placesAbove", "(I)I"⟩
abbrev cX8_grows : ByteArray := prog_10_method_26_code
def yX8_grows : MethodName := ⟨RX8, "grows", "(IIJ)Z"⟩
abbrev cX8_counts : ByteArray := prog_10_method_27_code
def yX8_counts : MethodName := ⟨RX8, "counts", "(IIJ)V"⟩
abbrev cX8_count : ByteArray := prog_10_method_28_code
def yX8_count : MethodName := ⟨RX8, "count", "(III)J"⟩
abbrev cX8_addBraid : ByteArray := prog_10_method_29_code
def yX8_addBraid : MethodName := ⟨RX8, "addBraid", "(II)I"⟩
abbrev cX8_clear : ByteArray := prog_10_method_30_code
def yX8_clear : MethodName := ⟨RX8, "clear", "(I)J"⟩
abbrev cX8_truth : ByteArray := prog_10_method_31_code
def yX8_truth : MethodName := ⟨RX8, "truth", "(II)J"⟩
abbrev cX8_rest : ByteArray := prog_10_method_32_code
def yX8_rest : MethodName := ⟨RX8, "rest", "(II)I"⟩
abbrev cX8_isMarked : ByteArray := prog_10_method_33_code
def yX8_isMarked : MethodName := ⟨RX8, "isMarked", "(II)I"⟩
abbrev cX8_above : ByteArray := prog_10_method_34_code
def yX8_above : MethodName := ⟨RX8, "above", "(II)J"⟩
abbrev cX8_begins : ByteArray := prog_10_method_35_code
def yX8_begins : MethodName := ⟨RX8, "begins", "(J)V"⟩
abbrev cX8_others : ByteArray := prog_10_method_36_code
def yX8_others : MethodName := ⟨RX8, "others", "(IIZ)J"⟩
abbrev cX8_round : ByteArray := prog_10_method_37_code
def yX8_round : MethodName := ⟨RX8, "round", "()Z"⟩
abbrev cX8_rounds : ByteArray := prog_10_method_38_code
def yX8_rounds : MethodName := ⟨RX8, "rounds", "(I)V"⟩
abbrev cX8_findsOverflows : ByteArray := prog_10_method_39_code
def yX8_findsOverflows : MethodName := ⟨RX8, "findsOverflows", "(I)V"⟩
abbrev cX8_findsFlows : ByteArray := prog_10_method_40_code
def yX8_findsFlows : MethodName := ⟨RX8, "findsFlows", "(II)V"⟩
abbrev cX8_overflow : ByteArray := prog_10_method_41_code
def yX8_overflow : MethodName := ⟨RX8, "overflow", "(IIZ)J"⟩
abbrev cX8_boundOf : ByteArray := prog_10_method_42_code
def yX8_boundOf : MethodName := ⟨RX8, "boundOf", "(IIZI)J"⟩
abbrev cX8_bound : ByteArray := prog_10_method_43_code
def yX8_bound : MethodName := ⟨RX8, "bound", "(IIZ)J"⟩
abbrev cX8_boundAfter : ByteArray := prog_10_method_44_code
def yX8_boundAfter : MethodName := ⟨RX8, "boundAfter", "(IIZI)J"⟩
abbrev cX8_certainOf : ByteArray := prog_10_method_45_code
def yX8_certainOf : MethodName := ⟨RX8, "certainOf", "(I)I"⟩
abbrev cX8_certain : ByteArray := prog_10_method_46_code
def yX8_certain : MethodName := ⟨RX8, "certain", "(I)I"⟩
abbrev cX8_certainOverflows : ByteArray := prog_10_method_47_code
def yX8_certainOverflows : MethodName := ⟨RX8, "certainOverflows", "(I)I"⟩
abbrev cX8_lastRound : ByteArray := prog_10_method_48_code
def yX8_lastRound : MethodName := ⟨RX8, "lastRound", "(I)I"⟩
abbrev cX8_total : ByteArray := prog_10_method_49_code
def yX8_total : MethodName := ⟨RX8, "total", "(II)J"⟩
abbrev cX8_estimate : ByteArray := prog_10_method_50_code
def yX8_estimate : MethodName := ⟨RX8, "estimate", "(II)J"⟩
abbrev cX8_leastPlace : ByteArray := prog_10_method_51_code
def yX8_leastPlace : MethodName := ⟨RX8, "leastPlace", "(II)J"⟩
abbrev cX8_widest : ByteArray := prog_10_method_52_code
def yX8_widest : MethodName := ⟨RX8, "widest", "(I)I"⟩
abbrev cX8_leastSpace : ByteArray := prog_10_method_53_code
def yX8_leastSpace : MethodName := ⟨RX8, "leastSpace", "(I)I"⟩
abbrev cX8_bits : ByteArray := prog_10_method_54_code
def yX8_bits : MethodName := ⟨RX8, "bits", "()I"⟩
abbrev cX8_bitsForEach : ByteArray := prog_10_method_55_code
def yX8_bitsForEach : MethodName := ⟨RX8, "bitsForEach", "()I"⟩
abbrev cX8_undo : ByteArray := prog_10_method_56_code
def yX8_undo : MethodName := ⟨RX8, "undo", "()I"⟩
abbrev cX8_type : ByteArray := prog_10_method_57_code
def yX8_type : MethodName := ⟨RX8, "type", "(I)I"⟩
abbrev cX8_clearText : ByteArray := prog_10_method_58_code
def yX8_clearText : MethodName := ⟨RX8, "clearText", "()I"⟩
abbrev cX8_here : ByteArray := prog_10_method_59_code
def yX8_here : MethodName := ⟨RX8, "here", "()I"⟩
abbrev cX8_sign : ByteArray := prog_10_method_60_code
def yX8_sign : MethodName := ⟨RX8, "sign", "(I)Z"⟩
abbrev cX8_reads : ByteArray := prog_10_method_61_code
def yX8_reads : MethodName := ⟨RX8, "reads", "(II)I"⟩
abbrev cX8_readAt : ByteArray := prog_10_method_62_code
def yX8_readAt : MethodName := ⟨RX8, "readAt", "(I)I"⟩
abbrev cX8_readsItem : ByteArray := prog_10_method_63_code
def yX8_readsItem : MethodName := ⟨RX8, "readsItem", "(Z)Z"⟩
abbrev cX8_readsAll : ByteArray := prog_10_method_64_code
def yX8_readsAll : MethodName := ⟨RX8, "readsAll", "(Z)Z"⟩
abbrev cX8_textFault : ByteArray := prog_10_method_65_code
def yX8_textFault : MethodName := ⟨RX8, "textFault", "()I"⟩
abbrev cX8_load : ByteArray := prog_10_method_66_code
def yX8_load : MethodName := ⟨RX8, "load", "()I"⟩
abbrev cX8_note : ByteArray := prog_10_method_67_code
def yX8_note : MethodName := ⟨RX8, "note", "(J)V"⟩
abbrev cX8_digest : ByteArray := prog_10_method_68_code
def yX8_digest : MethodName := ⟨RX8, "digest", "()J"⟩
def RJx145de : String := "java/io/Serializable"
def TJx145de : u_T := fun k => match k with
  | _ => ("", "", "", false)
def tyJx145de : Nat → FieldType := fun k => match k with
  | _ => .int
abbrev wsJx145de0 : List Cond := u_ws RJx145de TJx145de 0
theorem nmJx145de : ∀ a, a < 0 → ∀ b, b < 0 → a ≠ b → (TJx145de a).2.1 ≠ (TJx145de b).2.1 := by decide +kernel
theorem tyJx145de_ok : ∀ k, k < 0 → parseFieldDescriptor (TJx145de k).2.2.1 = some (tyJx145de k) := by decide +kernel
def RJxb160c : String := "java/lang/Comparable"
def TJxb160c : u_T := fun k => match k with
  | _ => ("", "", "", false)
def tyJxb160c : Nat → FieldType := fun k => match k with
  | _ => .int
abbrev wsJxb160c0 : List Cond := u_ws RJxb160c TJxb160c 0
theorem nmJxb160c : ∀ a, a < 0 → ∀ b, b < 0 → a ≠ b → (TJxb160c a).2.1 ≠ (TJxb160c b).2.1 := by decide +kernel
theorem tyJxb160c_ok : ∀ k, k < 0 → parseFieldDescriptor (TJxb160c k).2.2.1 = some (tyJxb160c k) := by decide +kernel
def RJxf58ca : String := "java/lang/Float"
def TJxf58ca : u_T := fun k => match k with
  | _ => ("", "", "", false)
def tyJxf58ca : Nat → FieldType := fun k => match k with
  | _ => .int
abbrev wsJxf58ca0 : List Cond := u_ws RJxf58ca TJxf58ca 0
theorem nmJxf58ca : ∀ a, a < 0 → ∀ b, b < 0 → a ≠ b → (TJxf58ca a).2.1 ≠ (TJxf58ca b).2.1 := by decide +kernel
theorem tyJxf58ca_ok : ∀ k, k < 0 → parseFieldDescriptor (TJxf58ca k).2.2.1 = some (tyJxf58ca k) := by decide +kernel
abbrev cJxf58ca_isNaN_12338 : ByteArray := prog_11_method_6_code
def yJxf58ca_isNaN_12338 : MethodName := ⟨RJxf58ca, "isNaN", "(F)Z"⟩
abbrev cJxf58ca_floatToIntBits_5c35a : ByteArray := prog_11_method_24_code
def yJxf58ca_floatToIntBits_5c35a : MethodName := ⟨RJxf58ca, "floatToIntBits", "(F)I"⟩
def RJ9 : String := "java/lang/Math"
def TJ9 : u_T := fun k => match k with
  | _ => ("", "", "", false)
def tyJ9 : Nat → FieldType := fun k => match k with
  | _ => .int
abbrev wsJ90 : List Cond := u_ws RJ9 TJ9 0
theorem nmJ9 : ∀ a, a < 0 → ∀ b, b < 0 → a ≠ b → (TJ9 a).2.1 ≠ (TJ9 b).2.1 := by decide +kernel
theorem tyJ9_ok : ∀ k, k < 0 → parseFieldDescriptor (TJ9 k).2.2.1 = some (tyJ9 k) := by decide +kernel
abbrev cJ9_max_7cf53 : ByteArray := prog_12_method_65_code
def yJ9_max_7cf53 : MethodName := ⟨RJ9, "max", "(II)I"⟩
abbrev cJ9_min_f86c9 : ByteArray := prog_12_method_70_code
def yJ9_min_f86c9 : MethodName := ⟨RJ9, "min", "(JJ)J"⟩
def RJxd2413 : String := "java/lang/Number"
def TJxd2413 : u_T := fun k => match k with
  | _ => ("", "", "", false)
def tyJxd2413 : Nat → FieldType := fun k => match k with
  | _ => .int
abbrev wsJxd24130 : List Cond := u_ws RJxd2413 TJxd2413 0
theorem nmJxd2413 : ∀ a, a < 0 → ∀ b, b < 0 → a ≠ b → (TJxd2413 a).2.1 ≠ (TJxd2413 b).2.1 := by decide +kernel
theorem tyJxd2413_ok : ∀ k, k < 0 → parseFieldDescriptor (TJxd2413 k).2.2.1 = some (tyJxd2413 k) := by decide +kernel
def RJ10 : String := "java/lang/System"
def TJ10 : u_T := fun k => match k with
  | _ => ("", "", "", false)
def tyJ10 : Nat → FieldType := fun k => match k with
  | _ => .int
abbrev wsJ100 : List Cond := u_ws RJ10 TJ10 0
theorem nmJ10 : ∀ a, a < 0 → ∀ b, b < 0 → a ≠ b → (TJ10 a).2.1 ≠ (TJ10 b).2.1 := by decide +kernel
theorem tyJ10_ok : ∀ k, k < 0 → parseFieldDescriptor (TJ10 k).2.2.1 = some (tyJ10 k) := by decide +kernel
def RJxfd54e : String := "java/lang/constant/Constable"
def TJxfd54e : u_T := fun k => match k with
  | _ => ("", "", "", false)
def tyJxfd54e : Nat → FieldType := fun k => match k with
  | _ => .int
abbrev wsJxfd54e0 : List Cond := u_ws RJxfd54e TJxfd54e 0
theorem nmJxfd54e : ∀ a, a < 0 → ∀ b, b < 0 → a ≠ b → (TJxfd54e a).2.1 ≠ (TJxfd54e b).2.1 := by decide +kernel
theorem tyJxfd54e_ok : ∀ k, k < 0 → parseFieldDescriptor (TJxfd54e k).2.2.1 = some (tyJxfd54e k) := by decide +kernel
def RJx3cf43 : String := "java/lang/constant/ConstantDesc"
def TJx3cf43 : u_T := fun k => match k with
  | _ => ("", "", "", false)
def tyJx3cf43 : Nat → FieldType := fun k => match k with
  | _ => .int
abbrev wsJx3cf430 : List Cond := u_ws RJx3cf43 TJx3cf43 0
theorem nmJx3cf43 : ∀ a, a < 0 → ∀ b, b < 0 → a ≠ b → (TJx3cf43 a).2.1 ≠ (TJx3cf43 b).2.1 := by decide +kernel
theorem tyJx3cf43_ok : ∀ k, k < 0 → parseFieldDescriptor (TJx3cf43 k).2.2.1 = some (tyJx3cf43 k) := by decide +kernel
def RJ7 : String := "java/util/Arrays"
def TJ7 : u_T := fun k => match k with
  | _ => ("", "", "", false)
def tyJ7 : Nat → FieldType := fun k => match k with
  | _ => .int
abbrev wsJ70 : List Cond := u_ws RJ7 TJ7 0
theorem nmJ7 : ∀ a, a < 0 → ∀ b, b < 0 → a ≠ b → (TJ7 a).2.1 ≠ (TJ7 b).2.1 := by decide +kernel
theorem tyJ7_ok : ∀ k, k < 0 → parseFieldDescriptor (TJ7 k).2.2.1 = some (tyJ7 k) := by decide +kernel
abbrev cJ7_fill_d0a16 : ByteArray := prog_15_method_101_code
def yJ7_fill_d0a16 : MethodName := ⟨RJ7, "fill", "([JJ)V"⟩
abbrev cJ7_fill_53178 : ByteArray := prog_15_method_103_code
def yJ7_fill_53178 : MethodName := ⟨RJ7, "fill", "([II)V"⟩
def RL : String := "CounterBraidLaw"
abbrev cL_law : ByteArray := code
def yL_law : MethodName := ⟨RL, "law", "([I)Z"⟩
def wsL_law_r1 : List Cond := [Cond.classLink RL 7 RX7, Cond.instantiable RX7 5, Cond.initialized RX7, Cond.classLink RL 10 RX8, Cond.instantiable RX8 21, Cond.initialized RX8, Cond.methodLink RL 9 yX7_init, Cond.instanceMethod yX7_init, Cond.code yX7_init cX7_init 1 none, Cond.methodLink RX7 3 objectInit, Cond.instanceMethod objectInit, Cond.code objectInit ⟨#[0xb1]⟩ 1 none, Cond.classLink RX7 9 RX5, Cond.instantiable RX5 5, Cond.initialized RX5, Cond.fieldLink RX7 12 "CounterBraid" "now" "LCounterBraid$State;", Cond.classLink RX7 16 RX4, Cond.instantiable RX4 2, Cond.initialized RX4, Cond.fieldLink RX7 19 "CounterBraid" "history" "LCounterBraid$History;", Cond.classLink RX7 23 RX6, Cond.instantiable RX6 7, Cond.initialized RX6, Cond.fieldLink RX7 26 "CounterBraid" "text" "LCounterBraid$Text;"]
def wsL_law_r2 : List Cond := [Cond.classLink RX7 30 RX2, Cond.instantiable RX2 2, Cond.initialized RX2, Cond.fieldLink RX7 33 "CounterBraid" "decoder" "LCounterBraid$Decoder;", Cond.fieldLink RX7 37 "CounterBraid" "trial" "LCounterBraid$State;", Cond.instanceMethod yX5_init, Cond.code yX5_init cX5_init 1 none, Cond.methodLink RX5 3 objectInit, Cond.classLink RX5 9 RX3, Cond.instantiable RX3 6, Cond.initialized RX3, Cond.fieldLink RX5 12 "CounterBraid$State" "form" "LCounterBraid$Form;", Cond.arrayClass .int, Cond.fieldLink RX5 18 "CounterBraid$State" "keys" "[I", Cond.classLink RX5 22 RX1, Cond.instantiable RX1 4, Cond.initialized RX1, Cond.fieldLink RX5 25 "CounterBraid$State" "first" "LCounterBraid$Braid;", Cond.fieldLink RX5 29 "CounterBraid$State" "second" "LCounterBraid$Braid;", Cond.instanceMethod yX3_init, Cond.code yX3_init cX3_init 1 none, Cond.methodLink RX3 3 objectInit, Cond.fieldLink RX3 9 "CounterBraid$Form" "counters" "I", Cond.fieldLink RX3 15 "CounterBraid$Form" "bits" "I"]
def wsL_law_r3 : List Cond := [Cond.fieldLink RX3 18 "CounterBraid$Form" "functions" "I", Cond.fieldLink RX3 21 "CounterBraid$Form" "countersAbove" "I", Cond.fieldLink RX3 24 "CounterBraid$Form" "functionsAbove" "I", Cond.fieldLink RX3 27 "CounterBraid$Form" "rounds" "I", Cond.instanceMethod yX1_init, Cond.code yX1_init cX1_init 1 none, Cond.methodLink RX1 3 objectInit, Cond.arrayClass .long, Cond.fieldLink RX1 9 "CounterBraid$Braid" "truths" "[J", Cond.fieldLink RX1 15 "CounterBraid$Braid" "rests" "[I", Cond.fieldLink RX1 19 "CounterBraid$Braid" "marks" "[I", Cond.fieldLink RX1 22 "CounterBraid$Braid" "numbers" "[J", Cond.methodLink RX7 18 yX4_init, Cond.instanceMethod yX4_init, Cond.code yX4_init cX4_init 2 none, Cond.methodLink RX4 3 objectInit, Cond.classLink RX4 9 RX5, Cond.fieldLink RX4 11 "CounterBraid$History" "states" "[LCounterBraid$State;", Cond.instanceMethod yX6_init, Cond.code yX6_init cX6_init 1 none, Cond.methodLink RX6 3 objectInit, Cond.fieldLink RX6 9 "CounterBraid$Text" "codes" "[I", Cond.fieldLink RX6 15 "CounterBraid$Text" "itemKeys" "[I", Cond.fieldLink RX6 18 "CounterBraid$Text" "itemCounts" "[I"]
def wsL_law_r4 : List Cond := [Cond.instanceMethod yX2_init, Cond.code yX2_init cX2_init 1 none, Cond.methodLink RX2 3 objectInit, Cond.classLink RX2 9 RX0, Cond.instantiable RX0 9, Cond.initialized RX0, Cond.fieldLink RX2 12 "CounterBraid$Decoder" "overflows" "LCounterBraid$Bounds;", Cond.fieldLink RX2 18 "CounterBraid$Decoder" "amounts" "LCounterBraid$Bounds;", Cond.instanceMethod yX0_init, Cond.code yX0_init cX0_init 1 none, Cond.methodLink RX0 3 objectInit, Cond.fieldLink RX0 9 "CounterBraid$Bounds" "least" "[J", Cond.fieldLink RX0 15 "CounterBraid$Bounds" "greatest" "[J", Cond.fieldLink RX0 18 "CounterBraid$Bounds" "lowerSums" "[J", Cond.fieldLink RX0 21 "CounterBraid$Bounds" "upperSums" "[J", Cond.fieldLink RX0 24 "CounterBraid$Bounds" "lower" "[J", Cond.fieldLink RX0 27 "CounterBraid$Bounds" "upper" "[J", Cond.classLink RX0 30 "[[I", Cond.fieldLink RX0 32 "CounterBraid$Bounds" "places" "[[I", Cond.fieldLink RX0 35 "CounterBraid$Bounds" "placeCounts" "[I", Cond.methodLink RL 12 yX8_init, Cond.instanceMethod yX8_init, Cond.code yX8_init cX8_init 1 none, Cond.methodLink RX8 1 objectInit]
def wsL_law_r5 : List Cond := [Cond.fieldLink RX8 7 "CounterBraidModel" "row" "[I", Cond.fieldLink RX8 13 "CounterBraidModel" "number" "[J", Cond.fieldLink RX8 17 "CounterBraidModel" "place" "[I", Cond.fieldLink RX8 20 "CounterBraidModel" "low" "[J", Cond.fieldLink RX8 23 "CounterBraidModel" "high" "[J", Cond.fieldLink RX8 26 "CounterBraidModel" "lowBefore" "[J", Cond.fieldLink RX8 29 "CounterBraidModel" "highBefore" "[J", Cond.fieldLink RX8 32 "CounterBraidModel" "least" "[J", Cond.fieldLink RX8 35 "CounterBraidModel" "greatest" "[J", Cond.fieldLink RX8 38 "CounterBraidModel" "overLow" "[J", Cond.fieldLink RX8 41 "CounterBraidModel" "overHigh" "[J", Cond.fieldLink RX8 44 "CounterBraidModel" "text" "[I", Cond.fieldLink RX8 47 "CounterBraidModel" "readKey" "[I", Cond.fieldLink RX8 50 "CounterBraidModel" "readCount" "[J", Cond.methodLink RL 13 yX7_setFirst, Cond.instanceMethod yX7_setFirst, Cond.selects RX7 yX7_setFirst yX7_setFirst, Cond.code yX7_setFirst cX7_setFirst 5 (some .int), Cond.fieldLink RX7 48 "CounterBraid$State" "form" "LCounterBraid$Form;", Cond.fieldLink RX7 52 "CounterBraid$Form" "counters" "I", Cond.fieldLink RX7 58 "CounterBraid$Form" "bits" "I", Cond.fieldLink RX7 61 "CounterBraid$Form" "functions" "I", Cond.methodLink RX7 40 yX7_isFrom, Cond.static yX7_isFrom]
def wsL_law_r6 : List Cond := [Cond.code yX7_isFrom cX7_isFrom 3 (some .boolean), Cond.methodLink RX7 44 yX4_push, Cond.instanceMethod yX4_push, Cond.selects RX4 yX4_push yX4_push, Cond.code yX4_push cX4_push 2 none, Cond.fieldLink RX4 18 "CounterBraid$History" "kept" "I", Cond.methodLink RX4 22 yX4_dropOldest, Cond.instanceMethod yX4_dropOldest, Cond.selects RX4 yX4_dropOldest yX4_dropOldest, Cond.code yX4_dropOldest cX4_dropOldest 3 none, Cond.methodLink RX4 25 yX5_copyFrom, Cond.instanceMethod yX5_copyFrom, Cond.selects RX5 yX5_copyFrom yX5_copyFrom, Cond.code yX5_copyFrom cX5_copyFrom 2 none, Cond.fieldLink RX5 36 "CounterBraid$State" "flows" "I", Cond.methodLink RX5 40 arraycopyName, Cond.native arraycopyName, Cond.static arraycopyName, Cond.initialized "java/lang/System", Cond.methodLink RX5 32 yX3_copyFrom, Cond.instanceMethod yX3_copyFrom, Cond.selects RX3 yX3_copyFrom yX3_copyFrom, Cond.code yX3_copyFrom cX3_copyFrom 2 none, Cond.methodLink RX5 46 yX1_copyFrom]
def wsL_law_r7 : List Cond := [Cond.instanceMethod yX1_copyFrom, Cond.selects RX1 yX1_copyFrom yX1_copyFrom, Cond.code yX1_copyFrom cX1_copyFrom 2 none, Cond.methodLink RX1 25 arraycopyName, Cond.methodLink RX7 64 yX5_empty, Cond.instanceMethod yX5_empty, Cond.selects RX5 yX5_empty yX5_empty, Cond.code yX5_empty cX5_empty 1 none, Cond.methodLink RX5 49 yX1_empty, Cond.instanceMethod yX1_empty, Cond.selects RX1 yX1_empty yX1_empty, Cond.code yX1_empty cX1_empty 1 none, Cond.methodLink RX1 31 yJ7_fill_d0a16, Cond.static yJ7_fill_d0a16, Cond.initialized RJ7, Cond.code yJ7_fill_d0a16 cJ7_fill_d0a16 5 none, Cond.methodLink RX1 37 yJ7_fill_53178, Cond.static yJ7_fill_53178, Cond.code yJ7_fill_53178 cJ7_fill_53178 4 none, Cond.methodLink RL 17 yX8_setFirst, Cond.instanceMethod yX8_setFirst, Cond.selects RX8 yX8_setFirst yX8_setFirst, Cond.code yX8_setFirst cX8_setFirst 5 (some .int), Cond.methodLink RX8 61 yX8_in]
def wsL_law_r8 : List Cond := [Cond.static yX8_in, Cond.code yX8_in cX8_in 3 (some .boolean), Cond.methodLink RX8 65 yX8_saves, Cond.instanceMethod yX8_saves, Cond.selects RX8 yX8_saves yX8_saves, Cond.code yX8_saves cX8_saves 2 none, Cond.fieldLink RX8 53 "CounterBraidModel" "saved" "I", Cond.methodLink RX8 57 yX8_copies, Cond.instanceMethod yX8_copies, Cond.selects RX8 yX8_copies yX8_copies, Cond.code yX8_copies cX8_copies 4 none, Cond.methodLink RX8 68 yX8_empties, Cond.instanceMethod yX8_empties, Cond.selects RX8 yX8_empties yX8_empties, Cond.code yX8_empties cX8_empties 3 none, Cond.methodLink RL 18 yX7_setSecond, Cond.instanceMethod yX7_setSecond, Cond.selects RX7 yX7_setSecond yX7_setSecond, Cond.code yX7_setSecond cX7_setSecond 4 (some .int), Cond.fieldLink RX7 67 "CounterBraid$Form" "countersAbove" "I", Cond.fieldLink RX7 70 "CounterBraid$Form" "functionsAbove" "I", Cond.methodLink RL 22 yX8_setSecond, Cond.instanceMethod yX8_setSecond, Cond.selects RX8 yX8_setSecond yX8_setSecond]
def wsL_law_r9 : List Cond := [Cond.code yX8_setSecond cX8_setSecond 4 (some .int), Cond.methodLink RL 23 yX7_setRounds, Cond.instanceMethod yX7_setRounds, Cond.selects RX7 yX7_setRounds yX7_setRounds, Cond.code yX7_setRounds cX7_setRounds 3 (some .int), Cond.fieldLink RX7 73 "CounterBraid$Form" "rounds" "I", Cond.methodLink RL 27 yX8_setRounds, Cond.instanceMethod yX8_setRounds, Cond.selects RX8 yX8_setRounds yX8_setRounds, Cond.code yX8_setRounds cX8_setRounds 3 (some .int), Cond.methodLink RL 28 yX7_form, Cond.instanceMethod yX7_form, Cond.selects RX7 yX7_form yX7_form, Cond.code yX7_form cX7_form 2 (some .int), Cond.methodLink RX7 76 yX5_formNumber, Cond.instanceMethod yX5_formNumber, Cond.selects RX5 yX5_formNumber yX5_formNumber, Cond.code yX5_formNumber cX5_formNumber 2 (some .int), Cond.fieldLink RX5 52 "CounterBraid$Form" "counters" "I", Cond.fieldLink RX5 55 "CounterBraid$Form" "bits" "I", Cond.fieldLink RX5 58 "CounterBraid$Form" "functions" "I", Cond.fieldLink RX5 61 "CounterBraid$Form" "countersAbove" "I", Cond.fieldLink RX5 64 "CounterBraid$Form" "functionsAbove" "I", Cond.fieldLink RX5 67 "CounterBraid$Form" "rounds" "I"]
def wsL_law_r10 : List Cond := [Cond.methodLink RL 31 yX8_form, Cond.instanceMethod yX8_form, Cond.selects RX8 yX8_form yX8_form, Cond.code yX8_form cX8_form 2 (some .int), Cond.methodLink RL 32 yX7_addFlow, Cond.instanceMethod yX7_addFlow, Cond.selects RX7 yX7_addFlow yX7_addFlow, Cond.code yX7_addFlow cX7_addFlow 2 (some .int), Cond.fieldLink RX7 83 "CounterBraid$State" "flows" "I", Cond.methodLink RX7 80 yX5_find, Cond.instanceMethod yX5_find, Cond.selects RX5 yX5_find yX5_find, Cond.code yX5_find cX5_find 3 (some .int), Cond.methodLink RX7 86 yX5_findOrAppend, Cond.instanceMethod yX5_findOrAppend, Cond.selects RX5 yX5_findOrAppend yX5_findOrAppend, Cond.code yX5_findOrAppend cX5_findOrAppend 3 (some .int), Cond.methodLink RX5 70 yX5_find, Cond.methodLink RL 35 yX8_addFlow, Cond.instanceMethod yX8_addFlow, Cond.selects RX8 yX8_addFlow yX8_addFlow, Cond.code yX8_addFlow cX8_addFlow 2 (some .int), Cond.methodLink RX8 72 yX8_find, Cond.instanceMethod yX8_find]
def wsL_law_r11 : List Cond := [Cond.selects RX8 yX8_find yX8_find, Cond.code yX8_find cX8_find 4 (some .int), Cond.methodLink RX8 76 yX8_adds, Cond.instanceMethod yX8_adds, Cond.selects RX8 yX8_adds yX8_adds, Cond.code yX8_adds cX8_adds 2 (some .int), Cond.methodLink RL 36 yX7_key, Cond.instanceMethod yX7_key, Cond.selects RX7 yX7_key yX7_key, Cond.code yX7_key cX7_key 2 (some .int), Cond.fieldLink RX7 93 "CounterBraid$State" "keys" "[I", Cond.methodLink RX7 89 yX7_isFlow, Cond.instanceMethod yX7_isFlow, Cond.selects RX7 yX7_isFlow yX7_isFlow, Cond.code yX7_isFlow cX7_isFlow 2 (some .boolean), Cond.methodLink RL 39 yX8_key, Cond.instanceMethod yX8_key, Cond.selects RX8 yX8_key yX8_key, Cond.code yX8_key cX8_key 2 (some .int), Cond.methodLink RX8 79 yX8_isFlow, Cond.instanceMethod yX8_isFlow, Cond.selects RX8 yX8_isFlow yX8_isFlow, Cond.code yX8_isFlow cX8_isFlow 2 (some .boolean), Cond.methodLink RL 40 yX7_flowOf]
def wsL_law_r12 : List Cond := [Cond.instanceMethod yX7_flowOf, Cond.selects RX7 yX7_flowOf yX7_flowOf, Cond.code yX7_flowOf cX7_flowOf 2 (some .int), Cond.methodLink RL 43 yX8_flowOf, Cond.instanceMethod yX8_flowOf, Cond.selects RX8 yX8_flowOf yX8_flowOf, Cond.code yX8_flowOf cX8_flowOf 2 (some .int), Cond.methodLink RL 44 yX7_places, Cond.instanceMethod yX7_places, Cond.selects RX7 yX7_places yX7_places, Cond.code yX7_places cX7_places 2 (some .int), Cond.methodLink RX7 97 yX3_placesOfKey, Cond.instanceMethod yX3_placesOfKey, Cond.selects RX3 yX3_placesOfKey yX3_placesOfKey, Cond.code yX3_placesOfKey cX3_placesOfKey 5 (some .int), Cond.methodLink RX3 37 yX3_remainder, Cond.static yX3_remainder, Cond.code yX3_remainder cX3_remainder 2 (some .int), Cond.methodLink RL 47 yX8_places, Cond.instanceMethod yX8_places, Cond.selects RX8 yX8_places yX8_places, Cond.code yX8_places cX8_places 2 (some .int), Cond.methodLink RX8 83 yX8_placesOf, Cond.instanceMethod yX8_placesOf]
def wsL_law_r13 : List Cond := [Cond.selects RX8 yX8_placesOf yX8_placesOf, Cond.code yX8_placesOf cX8_placesOf 6 (some .int), Cond.methodLink RL 48 yX7_placesAbove, Cond.instanceMethod yX7_placesAbove, Cond.selects RX7 yX7_placesAbove yX7_placesAbove, Cond.code yX7_placesAbove cX7_placesAbove 2 (some .int), Cond.methodLink RX7 100 yX7_isCounter, Cond.instanceMethod yX7_isCounter, Cond.selects RX7 yX7_isCounter yX7_isCounter, Cond.code yX7_isCounter cX7_isCounter 2 (some .boolean), Cond.methodLink RX7 103 yX3_placesOfCounter, Cond.instanceMethod yX3_placesOfCounter, Cond.selects RX3 yX3_placesOfCounter yX3_placesOfCounter, Cond.code yX3_placesOfCounter cX3_placesOfCounter 5 (some .int), Cond.methodLink RL 51 yX8_placesAbove, Cond.instanceMethod yX8_placesAbove, Cond.selects RX8 yX8_placesAbove yX8_placesAbove, Cond.code yX8_placesAbove cX8_placesAbove 2 (some .int), Cond.methodLink RX8 86 yX8_isCounter, Cond.instanceMethod yX8_isCounter, Cond.selects RX8 yX8_isCounter yX8_isCounter, Cond.code yX8_isCounter cX8_isCounter 2 (some .boolean), Cond.methodLink RX8 89 yX8_placesUp, Cond.instanceMethod yX8_placesUp]
def wsL_law_r14 : List Cond := [Cond.selects RX8 yX8_placesUp yX8_placesUp, Cond.code yX8_placesUp cX8_placesUp 6 (some .int), Cond.methodLink RL 52 yX7_count, Cond.instanceMethod yX7_count, Cond.selects RX7 yX7_count yX7_count, Cond.code yX7_count cX7_count 5 (some .long), Cond.constantLong RX7 109 (-2), Cond.constant RX7 111 (1000000), Cond.constantLong RX7 112 (-3), Cond.fieldLink RX7 118 "CounterBraid$Braid" "truths" "[J", Cond.constantLong RX7 124 (1000000000), Cond.constantLong RX7 126 (-5), Cond.methodLink RX7 106 yX7_isBraid, Cond.static yX7_isBraid, Cond.code yX7_isBraid cX7_isBraid 1 (some .boolean), Cond.methodLink RX7 114 yX5_braid, Cond.instanceMethod yX5_braid, Cond.selects RX5 yX5_braid yX5_braid, Cond.code yX5_braid cX5_braid 2 (some (.object "CounterBraid$Braid")), Cond.methodLink RX7 128 yX5_countFlow, Cond.instanceMethod yX5_countFlow, Cond.selects RX5 yX5_countFlow yX5_countFlow, Cond.code yX5_countFlow cX5_countFlow 7 none, Cond.fieldLink RX5 78 "CounterBraid$Braid" "truths" "[J"]
def wsL_law_r15 : List Cond := [Cond.methodLink RX5 82 yX3_placesOfKey, Cond.static yX7_isIn, Cond.code yX7_isIn cX7_isIn 2 (some .boolean), Cond.methodLink RX5 89 yX1_raise, Cond.instanceMethod yX1_raise, Cond.selects RX1 yX1_raise yX1_raise, Cond.code yX1_raise cX1_raise 9 none, Cond.fieldLink RX1 40 "CounterBraid$Form" "bits" "I", Cond.methodLink RX1 46 yX3_placesOfCounter, Cond.methodLink RX1 50 yX1_raiseNumbers, Cond.instanceMethod yX1_raiseNumbers, Cond.selects RX1 yX1_raiseNumbers yX1_raiseNumbers, Cond.code yX1_raiseNumbers cX1_raiseNumbers 5 none, Cond.methodLink RL 56 yX8_count, Cond.instanceMethod yX8_count, Cond.selects RX8 yX8_count yX8_count, Cond.code yX8_count cX8_count 4 (some .long), Cond.constantLong RX8 103 (-2), Cond.constant RX8 105 (1000000), Cond.constantLong RX8 106 (-3), Cond.constantLong RX8 112 (1000000000), Cond.constantLong RX8 114 (-5), Cond.methodLink RX8 100 yX8_isBraid, Cond.static yX8_isBraid]
def wsL_law_r16 : List Cond := [Cond.code yX8_isBraid cX8_isBraid 1 (some .boolean), Cond.methodLink RX8 108 yX8_truthAt, Cond.instanceMethod yX8_truthAt, Cond.selects RX8 yX8_truthAt yX8_truthAt, Cond.code yX8_truthAt cX8_truthAt 3 (some .long), Cond.methodLink RX8 116 yX8_counts, Cond.instanceMethod yX8_counts, Cond.selects RX8 yX8_counts yX8_counts, Cond.code yX8_counts cX8_counts 8 none, Cond.methodLink RX8 96 yX8_grows, Cond.instanceMethod yX8_grows, Cond.selects RX8 yX8_grows yX8_grows, Cond.code yX8_grows cX8_grows 10 (some .boolean), Cond.methodLink RX8 92 yX8_restAt, Cond.instanceMethod yX8_restAt, Cond.selects RX8 yX8_restAt yX8_restAt, Cond.code yX8_restAt cX8_restAt 3 (some .int), Cond.methodLink RL 57 yX7_addBraid, Cond.instanceMethod yX7_addBraid, Cond.selects RX7 yX7_addBraid yX7_addBraid, Cond.code yX7_addBraid cX7_addBraid 3 (some .int), Cond.methodLink RX7 132 yX1_hasRoomFor, Cond.instanceMethod yX1_hasRoomFor, Cond.selects RX1 yX1_hasRoomFor yX1_hasRoomFor]
def wsL_law_r17 : List Cond := [Cond.code yX1_hasRoomFor cX1_hasRoomFor 3 (some .boolean), Cond.constantLong RX1 58 (1000000000), Cond.methodLink RX7 136 yX1_join, Cond.instanceMethod yX1_join, Cond.selects RX1 yX1_join yX1_join, Cond.code yX1_join cX1_join 6 (some .int), Cond.methodLink RX1 64 Lib.Math.max.name, Cond.static Lib.Math.max.name, Cond.initialized "java/lang/Math", Cond.code Lib.Math.max.name Lib.Math.max.code 2 (some .int), Cond.methodLink RX1 60 yX1_raise, Cond.methodLink RL 60 yX8_addBraid, Cond.instanceMethod yX8_addBraid, Cond.selects RX8 yX8_addBraid yX8_addBraid, Cond.code yX8_addBraid cX8_addBraid 7 (some .int), Cond.methodLink RX8 120 yX8_marked, Cond.instanceMethod yX8_marked, Cond.selects RX8 yX8_marked yX8_marked, Cond.code yX8_marked cX8_marked 3 (some .boolean), Cond.methodLink RL 61 yX7_clear, Cond.instanceMethod yX7_clear, Cond.selects RX7 yX7_clear yX7_clear, Cond.code yX7_clear cX7_clear 4 (some .long), Cond.methodLink RX7 140 yX1_sumOfTruths]
def wsL_law_r18 : List Cond := [Cond.instanceMethod yX1_sumOfTruths, Cond.selects RX1 yX1_sumOfTruths yX1_sumOfTruths, Cond.code yX1_sumOfTruths cX1_sumOfTruths 4 (some .long), Cond.methodLink RX7 144 yX1_empty, Cond.methodLink RL 65 yX8_clear, Cond.instanceMethod yX8_clear, Cond.selects RX8 yX8_clear yX8_clear, Cond.code yX8_clear cX8_clear 5 (some .long), Cond.methodLink RL 66 yX7_truth, Cond.instanceMethod yX7_truth, Cond.selects RX7 yX7_truth yX7_truth, Cond.code yX7_truth cX7_truth 3 (some .long), Cond.methodLink RL 70 yX8_truth, Cond.instanceMethod yX8_truth, Cond.selects RX8 yX8_truth yX8_truth, Cond.code yX8_truth cX8_truth 3 (some .long), Cond.methodLink RL 71 yX7_rest, Cond.instanceMethod yX7_rest, Cond.selects RX7 yX7_rest yX7_rest, Cond.code yX7_rest cX7_rest 3 (some .int), Cond.fieldLink RX7 145 "CounterBraid$Braid" "rests" "[I", Cond.methodLink RL 74 yX8_rest, Cond.instanceMethod yX8_rest, Cond.selects RX8 yX8_rest yX8_rest]
def wsL_law_r19 : List Cond := [Cond.code yX8_rest cX8_rest 3 (some .int), Cond.methodLink RL 75 yX7_isMarked, Cond.instanceMethod yX7_isMarked, Cond.selects RX7 yX7_isMarked yX7_isMarked, Cond.code yX7_isMarked cX7_isMarked 3 (some .int), Cond.fieldLink RX7 148 "CounterBraid$Braid" "marks" "[I", Cond.methodLink RL 78 yX8_isMarked, Cond.instanceMethod yX8_isMarked, Cond.selects RX8 yX8_isMarked yX8_isMarked, Cond.code yX8_isMarked cX8_isMarked 3 (some .int), Cond.methodLink RL 79 yX7_above, Cond.instanceMethod yX7_above, Cond.selects RX7 yX7_above yX7_above, Cond.code yX7_above cX7_above 3 (some .long), Cond.fieldLink RX7 151 "CounterBraid$Braid" "numbers" "[J", Cond.methodLink RL 82 yX8_above, Cond.instanceMethod yX8_above, Cond.selects RX8 yX8_above yX8_above, Cond.code yX8_above cX8_above 3 (some .long), Cond.methodLink RX8 124 yX8_aboveAt, Cond.instanceMethod yX8_aboveAt, Cond.selects RX8 yX8_aboveAt yX8_aboveAt, Cond.code yX8_aboveAt cX8_aboveAt 3 (some .long), Cond.methodLink RL 83 yX7_overflow]
def wsL_law_r20 : List Cond := [Cond.instanceMethod yX7_overflow, Cond.selects RX7 yX7_overflow yX7_overflow, Cond.code yX7_overflow cX7_overflow 4 (some .long), Cond.fieldLink RX7 158 "CounterBraid$Decoder" "overflows" "LCounterBraid$Bounds;", Cond.methodLink RX7 154 yX2_decodeOverflows, Cond.instanceMethod yX2_decodeOverflows, Cond.selects RX2 yX2_decodeOverflows yX2_decodeOverflows, Cond.code yX2_decodeOverflows cX2_decodeOverflows 5 none, Cond.fieldLink RX2 24 "CounterBraid$Bounds" "least" "[J", Cond.fieldLink RX2 28 "CounterBraid$Braid" "numbers" "[J", Cond.fieldLink RX2 33 "CounterBraid$Bounds" "greatest" "[J", Cond.fieldLink RX2 36 "CounterBraid$Form" "counters" "I", Cond.fieldLink RX2 42 "CounterBraid$Braid" "marks" "[I", Cond.fieldLink RX2 54 "CounterBraid$Form" "rounds" "I", Cond.methodLink RX2 21 yX0_start, Cond.instanceMethod yX0_start, Cond.selects RX0 yX0_start yX0_start, Cond.code yX0_start cX0_start 1 none, Cond.fieldLink RX0 39 "CounterBraid$Bounds" "things" "I", Cond.methodLink RX2 46 yX3_placesOfCounter, Cond.methodLink RX2 50 yX0_append, Cond.instanceMethod yX0_append, Cond.selects RX0 yX0_append yX0_append, Cond.code yX0_append cX0_append 8 none]
def wsL_law_r21 : List Cond := [Cond.methodLink RX0 47 Lib.MathLoose.min_long.x, Cond.static Lib.MathLoose.min_long.x, Cond.code Lib.MathLoose.min_long.x Lib.MathLoose.min_long.code 4 (some .long), Cond.methodLink RX2 57 yX0_narrow, Cond.instanceMethod yX0_narrow, Cond.selects RX0 yX0_narrow yX0_narrow, Cond.code yX0_narrow cX0_narrow 3 (some .int), Cond.methodLink RX0 53 yX0_narrowOnce, Cond.instanceMethod yX0_narrowOnce, Cond.selects RX0 yX0_narrowOnce yX0_narrowOnce, Cond.code yX0_narrowOnce cX0_narrowOnce 3 (some .boolean), Cond.methodLink RX0 57 yX0_sumBounds, Cond.instanceMethod yX0_sumBounds, Cond.selects RX0 yX0_sumBounds yX0_sumBounds, Cond.code yX0_sumBounds cX0_sumBounds 3 none, Cond.methodLink RX0 64 yJ7_fill_d0a16, Cond.methodLink RX0 60 yX0_narrowThing, Cond.instanceMethod yX0_narrowThing, Cond.selects RX0 yX0_narrowThing yX0_narrowThing, Cond.code yX0_narrowThing cX0_narrowThing 12 (some .boolean), Cond.methodLink RX7 162 yX0_boundOf, Cond.instanceMethod yX0_boundOf, Cond.selects RX0 yX0_boundOf yX0_boundOf, Cond.code yX0_boundOf cX0_boundOf 3 (some .long)]
def wsL_law_r22 : List Cond := [Cond.methodLink RL 87 yX8_overflow, Cond.instanceMethod yX8_overflow, Cond.selects RX8 yX8_overflow yX8_overflow, Cond.code yX8_overflow cX8_overflow 4 (some .long), Cond.methodLink RX8 150 yX8_findsOverflows, Cond.instanceMethod yX8_findsOverflows, Cond.selects RX8 yX8_findsOverflows yX8_findsOverflows, Cond.code yX8_findsOverflows cX8_findsOverflows 5 none, Cond.fieldLink RX8 127 "CounterBraidModel" "things" "I", Cond.methodLink RX8 143 yX8_begins, Cond.instanceMethod yX8_begins, Cond.selects RX8 yX8_begins yX8_begins, Cond.code yX8_begins cX8_begins 6 none, Cond.constantLong RX8 130 (-1), Cond.methodLink RX8 147 yX8_rounds, Cond.instanceMethod yX8_rounds, Cond.selects RX8 yX8_rounds yX8_rounds, Cond.code yX8_rounds cX8_rounds 3 none, Cond.fieldLink RX8 136 "CounterBraidModel" "changing" "I", Cond.methodLink RX8 139 yX8_round, Cond.instanceMethod yX8_round, Cond.selects RX8 yX8_round yX8_round, Cond.code yX8_round cX8_round 8 (some .boolean), Cond.methodLink RX8 132 yX8_others]
def wsL_law_r23 : List Cond := [Cond.instanceMethod yX8_others, Cond.selects RX8 yX8_others yX8_others, Cond.code yX8_others cX8_others 8 (some .long), Cond.methodLink RL 88 yX7_bound, Cond.instanceMethod yX7_bound, Cond.selects RX7 yX7_bound yX7_bound, Cond.code yX7_bound cX7_bound 4 (some .long), Cond.methodLink RX7 168 yX7_boundAfter, Cond.instanceMethod yX7_boundAfter, Cond.selects RX7 yX7_boundAfter yX7_boundAfter, Cond.code yX7_boundAfter cX7_boundAfter 5 (some .long), Cond.fieldLink RX7 176 "CounterBraid$Decoder" "amounts" "LCounterBraid$Bounds;", Cond.methodLink RX7 172 yX2_decode, Cond.instanceMethod yX2_decode, Cond.selects RX2 yX2_decode yX2_decode, Cond.code yX2_decode cX2_decode 6 (some .int), Cond.fieldLink RX2 60 "CounterBraid$State" "form" "LCounterBraid$Form;", Cond.fieldLink RX2 70 "CounterBraid$Braid" "rests" "[I", Cond.fieldLink RX2 77 "CounterBraid$Form" "bits" "I", Cond.fieldLink RX2 80 "CounterBraid$State" "flows" "I", Cond.fieldLink RX2 83 "CounterBraid$State" "keys" "[I", Cond.methodLink RX2 66 yX2_decodeOverflows, Cond.methodLink RX2 73 yX0_boundOf, Cond.methodLink RX2 86 yX3_placesOfKey]
def wsL_law_r24 : List Cond := [Cond.methodLink RL 91 yX8_bound, Cond.instanceMethod yX8_bound, Cond.selects RX8 yX8_bound yX8_bound, Cond.code yX8_bound cX8_bound 4 (some .long), Cond.methodLink RX8 156 yX8_boundOf, Cond.instanceMethod yX8_boundOf, Cond.selects RX8 yX8_boundOf yX8_boundOf, Cond.code yX8_boundOf cX8_boundOf 5 (some .long), Cond.methodLink RX8 153 yX8_findsFlows, Cond.instanceMethod yX8_findsFlows, Cond.selects RX8 yX8_findsFlows yX8_findsFlows, Cond.code yX8_findsFlows cX8_findsFlows 4 none, Cond.methodLink RL 92 yX7_boundAfter, Cond.methodLink RL 96 yX8_boundAfter, Cond.instanceMethod yX8_boundAfter, Cond.selects RX8 yX8_boundAfter yX8_boundAfter, Cond.code yX8_boundAfter cX8_boundAfter 5 (some .long), Cond.methodLink RL 97 yX7_certain, Cond.instanceMethod yX7_certain, Cond.selects RX7 yX7_certain yX7_certain, Cond.code yX7_certain cX7_certain 2 (some .int), Cond.methodLink RX7 179 yX0_certainThings, Cond.instanceMethod yX0_certainThings, Cond.selects RX0 yX0_certainThings yX0_certainThings]
def wsL_law_r25 : List Cond := [Cond.code yX0_certainThings cX0_certainThings 3 (some .int), Cond.methodLink RL 100 yX8_certain, Cond.instanceMethod yX8_certain, Cond.selects RX8 yX8_certain yX8_certain, Cond.code yX8_certain cX8_certain 2 (some .int), Cond.methodLink RX8 160 yX8_certainOf, Cond.instanceMethod yX8_certainOf, Cond.selects RX8 yX8_certainOf yX8_certainOf, Cond.code yX8_certainOf cX8_certainOf 4 (some .int), Cond.methodLink RL 101 yX7_certainOverflows, Cond.instanceMethod yX7_certainOverflows, Cond.selects RX7 yX7_certainOverflows yX7_certainOverflows, Cond.code yX7_certainOverflows cX7_certainOverflows 2 (some .int), Cond.methodLink RL 104 yX8_certainOverflows, Cond.instanceMethod yX8_certainOverflows, Cond.selects RX8 yX8_certainOverflows yX8_certainOverflows, Cond.code yX8_certainOverflows cX8_certainOverflows 4 (some .int), Cond.methodLink RL 105 yX7_lastRound, Cond.instanceMethod yX7_lastRound, Cond.selects RX7 yX7_lastRound yX7_lastRound, Cond.code yX7_lastRound cX7_lastRound 2 (some .int), Cond.methodLink RL 108 yX8_lastRound, Cond.instanceMethod yX8_lastRound, Cond.selects RX8 yX8_lastRound yX8_lastRound]
def wsL_law_r26 : List Cond := [Cond.code yX8_lastRound cX8_lastRound 2 (some .int), Cond.methodLink RL 109 yX7_total, Cond.instanceMethod yX7_total, Cond.selects RX7 yX7_total yX7_total, Cond.code yX7_total cX7_total 3 (some .long), Cond.methodLink RX7 183 yX1_sumOfNumbers, Cond.instanceMethod yX1_sumOfNumbers, Cond.selects RX1 yX1_sumOfNumbers yX1_sumOfNumbers, Cond.code yX1_sumOfNumbers cX1_sumOfNumbers 4 (some .long), Cond.methodLink RX7 186 yX0_sumOfBounds, Cond.instanceMethod yX0_sumOfBounds, Cond.selects RX0 yX0_sumOfBounds yX0_sumOfBounds, Cond.code yX0_sumOfBounds cX0_sumOfBounds 5 (some .long), Cond.methodLink RX0 70 yX0_boundOf, Cond.methodLink RL 112 yX8_total, Cond.instanceMethod yX8_total, Cond.selects RX8 yX8_total yX8_total, Cond.code yX8_total cX8_total 6 (some .long), Cond.methodLink RL 113 yX7_estimate, Cond.instanceMethod yX7_estimate, Cond.selects RX7 yX7_estimate yX7_estimate, Cond.code yX7_estimate cX7_estimate 3 (some .long), Cond.constantLong RX7 190 (2), Cond.methodLink RL 116 yX8_estimate]
def wsL_law_r27 : List Cond := [Cond.instanceMethod yX8_estimate, Cond.selects RX8 yX8_estimate yX8_estimate, Cond.code yX8_estimate cX8_estimate 3 (some .long), Cond.constantLong RX8 163 (2), Cond.methodLink RL 117 yX7_leastPlace, Cond.instanceMethod yX7_leastPlace, Cond.selects RX7 yX7_leastPlace yX7_leastPlace, Cond.code yX7_leastPlace cX7_leastPlace 3 (some .long), Cond.methodLink RL 120 yX8_leastPlace, Cond.instanceMethod yX8_leastPlace, Cond.selects RX8 yX8_leastPlace yX8_leastPlace, Cond.code yX8_leastPlace cX8_leastPlace 3 (some .long), Cond.methodLink RL 121 yX7_widest, Cond.instanceMethod yX7_widest, Cond.selects RX7 yX7_widest yX7_widest, Cond.code yX7_widest cX7_widest 2 (some .int), Cond.methodLink RX7 192 yX0_widestThing, Cond.instanceMethod yX0_widestThing, Cond.selects RX0 yX0_widestThing yX0_widestThing, Cond.code yX0_widestThing cX0_widestThing 5 (some .int), Cond.methodLink RL 124 yX8_widest, Cond.instanceMethod yX8_widest, Cond.selects RX8 yX8_widest yX8_widest, Cond.code yX8_widest cX8_widest 6 (some .int)]
def wsL_law_r28 : List Cond := [Cond.methodLink RL 125 yX7_leastSpace, Cond.instanceMethod yX7_leastSpace, Cond.selects RX7 yX7_leastSpace yX7_leastSpace, Cond.code yX7_leastSpace cX7_leastSpace 3 (some .int), Cond.methodLink RX7 195 yX5_copyFrom, Cond.methodLink RX7 198 yX7_isTrialCertain, Cond.instanceMethod yX7_isTrialCertain, Cond.selects RX7 yX7_isTrialCertain yX7_isTrialCertain, Cond.code yX7_isTrialCertain cX7_isTrialCertain 4 (some .boolean), Cond.methodLink RL 128 yX8_leastSpace, Cond.instanceMethod yX8_leastSpace, Cond.selects RX8 yX8_leastSpace yX8_leastSpace, Cond.code yX8_leastSpace cX8_leastSpace 6 (some .int), Cond.methodLink RL 129 yX7_bits, Cond.instanceMethod yX7_bits, Cond.selects RX7 yX7_bits yX7_bits, Cond.code yX7_bits cX7_bits 1 (some .int), Cond.methodLink RL 133 yX8_bits, Cond.instanceMethod yX8_bits, Cond.selects RX8 yX8_bits yX8_bits, Cond.code yX8_bits cX8_bits 1 (some .int), Cond.methodLink RL 134 yX7_bitsForEach, Cond.instanceMethod yX7_bitsForEach, Cond.selects RX7 yX7_bitsForEach yX7_bitsForEach]
def wsL_law_r29 : List Cond := [Cond.code yX7_bitsForEach cX7_bitsForEach 2 (some .int), Cond.methodLink RX7 201 yX7_bits, Cond.methodLink RX7 203 yX7_bitsOfFloat, Cond.static yX7_bitsOfFloat, Cond.code yX7_bitsOfFloat cX7_bitsOfFloat 4 (some .int), Cond.constant RX7 241 (8388608), Cond.methodLink RL 137 yX8_bitsForEach, Cond.instanceMethod yX8_bitsForEach, Cond.selects RX8 yX8_bitsForEach yX8_bitsForEach, Cond.code yX8_bitsForEach cX8_bitsForEach 1 (some .int), Cond.methodLink RX8 165 yX8_bits, Cond.methodLink RX8 169 yJxf58ca_floatToIntBits_5c35a, Cond.static yJxf58ca_floatToIntBits_5c35a, Cond.initialized RJxf58ca, Cond.code yJxf58ca_floatToIntBits_5c35a cJxf58ca_floatToIntBits_5c35a 1 (some .int), Cond.methodLink RJxf58ca 74 ⟨"java/lang/Float", "floatToRawIntBits", "(F)I"⟩, Cond.native ⟨"java/lang/Float", "floatToRawIntBits", "(F)I"⟩, Cond.static ⟨"java/lang/Float", "floatToRawIntBits", "(F)I"⟩, Cond.initialized "java/lang/Float", Cond.constant RJxf58ca 77 (2143289344), Cond.methodLink RJxf58ca 59 yJxf58ca_isNaN_12338, Cond.static yJxf58ca_isNaN_12338, Cond.code yJxf58ca_isNaN_12338 cJxf58ca_isNaN_12338 1 (some .boolean), Cond.methodLink RL 138 yX7_undo]
def wsL_law_r30 : List Cond := [Cond.instanceMethod yX7_undo, Cond.selects RX7 yX7_undo yX7_undo, Cond.code yX7_undo cX7_undo 1 (some .int), Cond.methodLink RX7 207 yX4_pop, Cond.instanceMethod yX4_pop, Cond.selects RX4 yX4_pop yX4_pop, Cond.code yX4_pop cX4_pop 2 (some .int), Cond.methodLink RL 141 yX8_undo, Cond.instanceMethod yX8_undo, Cond.selects RX8 yX8_undo yX8_undo, Cond.code yX8_undo cX8_undo 1 (some .int), Cond.methodLink RL 142 yX7_type, Cond.instanceMethod yX7_type, Cond.selects RX7 yX7_type yX7_type, Cond.code yX7_type cX7_type 2 (some .int), Cond.methodLink RX7 211 yX6_append, Cond.instanceMethod yX6_append, Cond.selects RX6 yX6_append yX6_append, Cond.code yX6_append cX6_append 2 (some .int), Cond.fieldLink RX6 21 "CounterBraid$Text" "length" "I", Cond.methodLink RL 145 yX8_type, Cond.instanceMethod yX8_type, Cond.selects RX8 yX8_type yX8_type, Cond.code yX8_type cX8_type 2 (some .int)]
def wsL_law_r31 : List Cond := [Cond.fieldLink RX8 175 "CounterBraidModel" "length" "I", Cond.methodLink RL 146 yX7_clearText, Cond.instanceMethod yX7_clearText, Cond.selects RX7 yX7_clearText yX7_clearText, Cond.code yX7_clearText cX7_clearText 2 (some .int), Cond.fieldLink RX7 214 "CounterBraid$Text" "length" "I", Cond.methodLink RL 149 yX8_clearText, Cond.instanceMethod yX8_clearText, Cond.selects RX8 yX8_clearText yX8_clearText, Cond.code yX8_clearText cX8_clearText 2 (some .int), Cond.methodLink RL 150 yX7_textFault, Cond.instanceMethod yX7_textFault, Cond.selects RX7 yX7_textFault yX7_textFault, Cond.code yX7_textFault cX7_textFault 1 (some .int), Cond.methodLink RX7 217 yX6_read, Cond.instanceMethod yX6_read, Cond.selects RX6 yX6_read yX6_read, Cond.code yX6_read cX6_read 4 (some .int), Cond.fieldLink RX6 25 "CounterBraid$Text" "at" "I", Cond.fieldLink RX6 28 "CounterBraid$Text" "items" "I", Cond.fieldLink RX6 31 "CounterBraid$Text" "newFlows" "I", Cond.methodLink RX6 34 yX6_readItem, Cond.instanceMethod yX6_readItem, Cond.selects RX6 yX6_readItem yX6_readItem]
def wsL_law_r32 : List Cond := [Cond.code yX6_readItem cX6_readItem 5 (some .int), Cond.fieldLink RX6 57 "CounterBraid$State" "flows" "I", Cond.methodLink RX6 42 yX6_skipBlanks, Cond.instanceMethod yX6_skipBlanks, Cond.selects RX6 yX6_skipBlanks yX6_skipBlanks, Cond.code yX6_skipBlanks cX6_skipBlanks 1 none, Cond.methodLink RX6 45 yX6_readNumber, Cond.instanceMethod yX6_readNumber, Cond.selects RX6 yX6_readNumber yX6_readNumber, Cond.code yX6_readNumber cX6_readNumber 3 (some .int), Cond.methodLink RX6 53 yX6_isKnown, Cond.instanceMethod yX6_isKnown, Cond.selects RX6 yX6_isKnown yX6_isKnown, Cond.code yX6_isKnown cX6_isKnown 4 (some .boolean), Cond.methodLink RX6 66 yX5_find, Cond.methodLink RX6 38 yX6_skipSign, Cond.instanceMethod yX6_skipSign, Cond.selects RX6 yX6_skipSign yX6_skipSign, Cond.code yX6_skipSign cX6_skipSign 2 (some .boolean), Cond.methodLink RX6 62 yX6_keep, Cond.instanceMethod yX6_keep, Cond.selects RX6 yX6_keep yX6_keep, Cond.code yX6_keep cX6_keep 3 none, Cond.methodLink RL 153 yX8_textFault]
def wsL_law_r33 : List Cond := [Cond.instanceMethod yX8_textFault, Cond.selects RX8 yX8_textFault yX8_textFault, Cond.code yX8_textFault cX8_textFault 1 (some .int), Cond.fieldLink RX8 178 "CounterBraidModel" "at" "I", Cond.methodLink RX8 200 yX8_readsAll, Cond.instanceMethod yX8_readsAll, Cond.selects RX8 yX8_readsAll yX8_readsAll, Cond.code yX8_readsAll cX8_readsAll 4 (some .boolean), Cond.fieldLink RX8 184 "CounterBraidModel" "keys" "I", Cond.methodLink RX8 196 yX8_readsItem, Cond.instanceMethod yX8_readsItem, Cond.selects RX8 yX8_readsItem yX8_readsItem, Cond.code yX8_readsItem cX8_readsItem 7 (some .boolean), Cond.methodLink RX8 181 yX8_here, Cond.instanceMethod yX8_here, Cond.selects RX8 yX8_here yX8_here, Cond.code yX8_here cX8_here 1 (some .int), Cond.methodLink RX8 187 yX8_reads, Cond.instanceMethod yX8_reads, Cond.selects RX8 yX8_reads yX8_reads, Cond.code yX8_reads cX8_reads 6 (some .int), Cond.methodLink RX8 190 yX8_readAt, Cond.instanceMethod yX8_readAt, Cond.selects RX8 yX8_readAt yX8_readAt]
def wsL_law_r34 : List Cond := [Cond.code yX8_readAt cX8_readAt 3 (some .int), Cond.methodLink RX8 193 yX8_sign, Cond.instanceMethod yX8_sign, Cond.selects RX8 yX8_sign yX8_sign, Cond.code yX8_sign cX8_sign 3 (some .boolean), Cond.methodLink RL 154 yX7_load, Cond.instanceMethod yX7_load, Cond.selects RX7 yX7_load yX7_load, Cond.code yX7_load cX7_load 2 (some .int), Cond.fieldLink RX7 224 "CounterBraid$Text" "items" "I", Cond.fieldLink RX7 227 "CounterBraid$Text" "itemKeys" "[I", Cond.fieldLink RX7 230 "CounterBraid$Text" "itemCounts" "[I", Cond.methodLink RX7 220 yX6_fits, Cond.instanceMethod yX6_fits, Cond.selects RX6 yX6_fits yX6_fits, Cond.code yX6_fits cX6_fits 4 (some .boolean), Cond.fieldLink RX6 74 "CounterBraid$Braid" "truths" "[J", Cond.constantLong RX6 84 (1000000000), Cond.methodLink RX6 70 yX5_braid, Cond.methodLink RX6 80 yX6_sumFor, Cond.instanceMethod yX6_sumFor, Cond.selects RX6 yX6_sumFor yX6_sumFor, Cond.code yX6_sumFor cX6_sumFor 5 (some .long), Cond.methodLink RL 157 yX8_load]
def wsL_law_r35 : List Cond := [Cond.instanceMethod yX8_load, Cond.selects RX8 yX8_load yX8_load, Cond.code yX8_load cX8_load 2 (some .int), Cond.methodLink RL 158 yX7_digest, Cond.instanceMethod yX7_digest, Cond.selects RX7 yX7_digest yX7_digest, Cond.code yX7_digest cX7_digest 4 (some .long), Cond.constantLong RX7 233 (17), Cond.constantLong RX7 235 (31), Cond.methodLink RX7 237 yX7_hashOfBraid, Cond.instanceMethod yX7_hashOfBraid, Cond.selects RX7 yX7_hashOfBraid yX7_hashOfBraid, Cond.code yX7_hashOfBraid cX7_hashOfBraid 7 (some .long), Cond.methodLink RL 162 yX8_digest, Cond.instanceMethod yX8_digest, Cond.selects RX8 yX8_digest yX8_digest, Cond.code yX8_digest cX8_digest 3 (some .long), Cond.constantLong RX8 209 (17), Cond.fieldLink RX8 205 "CounterBraidModel" "h" "J", Cond.methodLink RX8 211 yX8_note, Cond.instanceMethod yX8_note, Cond.selects RX8 yX8_note yX8_note, Cond.code yX8_note cX8_note 3 none, Cond.constantLong RX8 203 (31)]
def wsL_law : List Cond := (wsL_law_r1 ++ (wsL_law_r2 ++ (wsL_law_r3 ++ (wsL_law_r4 ++ (wsL_law_r5 ++ (wsL_law_r6 ++ (wsL_law_r7 ++ (wsL_law_r8 ++ (wsL_law_r9 ++ (wsL_law_r10 ++ (wsL_law_r11 ++ (wsL_law_r12 ++ (wsL_law_r13 ++ (wsL_law_r14 ++ (wsL_law_r15 ++ (wsL_law_r16 ++ (wsL_law_r17 ++ (wsL_law_r18 ++ (wsL_law_r19 ++ (wsL_law_r20 ++ (wsL_law_r21 ++ (wsL_law_r22 ++ (wsL_law_r23 ++ (wsL_law_r24 ++ (wsL_law_r25 ++ (wsL_law_r26 ++ (wsL_law_r27 ++ (wsL_law_r28 ++ (wsL_law_r29 ++ (wsL_law_r30 ++ (wsL_law_r31 ++ (wsL_law_r32 ++ (wsL_law_r33 ++ (wsL_law_r34 ++ wsL_law_r35)))))))))))))))))))))))))))))))))) ++ wsX70 ++ wsX80 ++ wsX50 ++ wsX40 ++ wsX60 ++ wsX20 ++ wsX30 ++ wsX10 ++ wsX00 ++ ([] : List Cond)
theorem inlX0 : ∀ w ∈ wsX00, w ∈ wsL_law := fun _ h => List.mem_append_left _ (List.mem_append_right _ h)
theorem inlX1 : ∀ w ∈ wsX10, w ∈ wsL_law := fun _ h => List.mem_append_left _ (List.mem_append_left _ (List.mem_append_right _ h))
theorem inlX2 : ∀ w ∈ wsX20, w ∈ wsL_law := fun _ h => List.mem_append_left _ (List.mem_append_left _ (List.mem_append_left _ (List.mem_append_left _ (List.mem_append_right _ h))))
theorem inlX3 : ∀ w ∈ wsX30, w ∈ wsL_law := fun _ h => List.mem_append_left _ (List.mem_append_left _ (List.mem_append_left _ (List.mem_append_right _ h)))
theorem inlX4 : ∀ w ∈ wsX40, w ∈ wsL_law := fun _ h => List.mem_append_left _ (List.mem_append_left _ (List.mem_append_left _ (List.mem_append_left _ (List.mem_append_left _ (List.mem_append_left _ (List.mem_append_right _ h))))))
theorem inlX5 : ∀ w ∈ wsX50, w ∈ wsL_law := fun _ h => List.mem_append_left _ (List.mem_append_left _ (List.mem_append_left _ (List.mem_append_left _ (List.mem_append_left _ (List.mem_append_left _ (List.mem_append_left _ (List.mem_append_right _ h)))))))
theorem inlX6 : ∀ w ∈ wsX60, w ∈ wsL_law := fun _ h => List.mem_append_left _ (List.mem_append_left _ (List.mem_append_left _ (List.mem_append_left _ (List.mem_append_left _ (List.mem_append_right _ h)))))
theorem inlX7 : ∀ w ∈ wsX70, w ∈ wsL_law := fun _ h => List.mem_append_left _ (List.mem_append_left _ (List.mem_append_left _ (List.mem_append_left _ (List.mem_append_left _ (List.mem_append_left _ (List.mem_append_left _ (List.mem_append_left _ (List.mem_append_left _ (List.mem_append_right _ h)))))))))
theorem inlX8 : ∀ w ∈ wsX80, w ∈ wsL_law := fun _ h => List.mem_append_left _ (List.mem_append_left _ (List.mem_append_left _ (List.mem_append_left _ (List.mem_append_left _ (List.mem_append_left _ (List.mem_append_left _ (List.mem_append_left _ (List.mem_append_right _ h))))))))
abbrev vwCl : List vw_C := [(RX0, TX0, 9), (RX1, TX1, 4), (RX2, TX2, 2), (RX3, TX3, 6), (RX4, TX4, 2), (RX5, TX5, 5), (RX6, TX6, 7), (RX7, TX7, 5), (RX8, TX8, 21)]
