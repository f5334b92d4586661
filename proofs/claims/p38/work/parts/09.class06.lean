/-! Text_isKnown: private boolean isKnown(int, CounterBraid$State); -/
abbrev rm_Text_isKnown : Room := ({ frames := 1, cells := 0, slots := 0, locals := 22 } : Room)
def f_Text_isKnown_L13 (i2 : Int32) (v0_itemKeys : FI) (v0_items : Int32) (K39 : Int32 → Option (Int32)) : Nat → Int32 → Option (Int32)
  | 0, _ => none
  | n + 1, i3 => if v0_items ≤ i3 then K39 i3 else if ck i3 50 = true then if (v0_itemKeys i3.toNatClampNeg) = i2 then some 1 else f_Text_isKnown_L13 i2 v0_itemKeys v0_items K39 n (i3 + 1) else none
def f_Text_isKnown (N : Nat) (x1 : Int32) (v0_itemKeys : FI) (v0_items : Int32) (v1_flows : Int32) (v1_keys : FI) : Option (Int32) := (f_State_find N x1 v1_flows v1_keys).bind (fun r1 => if r1 = (-1) then f_Text_isKnown_L13 x1 v0_itemKeys v0_items (fun i4 => some 0) N 0 else some 1)
abbrev Q_Text_isKnown (below : List Frame) (D : va_G) (k : Nat → ClassId) (A : Nat → Prop) (args : Array Value) (s : State) (b0 : Nat → Nat) (o0 : Nat) (v0_codes : FI) (v0_length : Int32) (v0_itemKeys : FI) (v0_itemCounts : FI) (v0_items : Int32) (v0_newFlows : Int32) (v0_at : Int32) (b1 : Nat → Nat) (o1 : Nat) (v1_form_counters : Int32) (v1_form_bits : Int32) (v1_form_functions : Int32) (v1_form_countersAbove : Int32) (v1_form_functionsAbove : Int32) (v1_form_rounds : Int32) (v1_flows : Int32) (v1_keys : FI) (v1_first_truths : FJ) (v1_first_rests : FI) (v1_first_marks : FI) (v1_first_numbers : FJ) (v1_second_truths : FJ) (v1_second_rests : FI) (v1_second_marks : FI) (v1_second_numbers : FJ) (out : Int32) : State → Prop := MQ below (QW D k A (some (.int out)) [W_Text k b0 o0 v0_codes v0_length v0_itemKeys v0_itemCounts v0_items v0_newFlows v0_at, W_State k b1 o1 v1_form_counters v1_form_bits v1_form_functions v1_form_countersAbove v1_form_functionsAbove v1_form_rounds v1_flows v1_keys v1_first_truths v1_first_rests v1_first_marks v1_first_numbers v1_second_truths v1_second_rests v1_second_marks v1_second_numbers].flatten) args s 0 0 A
set_option maxRecDepth 100000 in
set_option maxHeartbeats 1000000 in
theorem w_Text_isKnown_L13 {p : Program} {l : Launch} {e : Env} {s : State} {m : MethodId} {below : List Frame} {meth : Method} {c : Code} {args : Array Value} {A : Nat → Prop} {D : va_G} {k : Nat → ClassId} {t : Nat → Nat} (X : BX l D k t p s m args meth c cX6_isKnown 4 RX6 (some .boolean) A) (b0 : Nat → Nat) (o0 : Nat) (v0_codes : FI) (v0_length : Int32) (v0_itemKeys : FI) (v0_itemCounts : FI) (v0_items : Int32) (v0_newFlows : Int32) (v0_at : Int32) (b1 : Nat → Nat) (o1 : Nat) (v1_form_counters : Int32) (v1_form_bits : Int32) (v1_form_functions : Int32) (v1_form_countersAbove : Int32) (v1_form_functionsAbove : Int32) (v1_form_rounds : Int32) (v1_flows : Int32) (v1_keys : FI) (v1_first_truths : FJ) (v1_first_rests : FI) (v1_first_marks : FI) (v1_first_numbers : FJ) (v1_second_truths : FJ) (v1_second_rests : FI) (v1_second_marks : FI) (v1_second_numbers : FJ) (N : Nat) (i2 : Int32) (out : Int32) (K39 : Int32 → Option (Int32)) (hK39 : ∀ (i3' : Int32) (H : Heap) (locs : List Loc) (ls : Array Slot), va_P D vwCl [W_Text k b0 o0 v0_codes v0_length v0_itemKeys v0_itemCounts v0_items v0_newFlows v0_at, W_State k b1 o1 v1_form_counters v1_form_bits v1_form_functions v1_form_countersAbove v1_form_functionsAbove v1_form_rounds v1_flows v1_keys v1_first_truths v1_first_rests v1_first_marks v1_first_numbers v1_second_truths v1_second_rests v1_second_marks v1_second_numbers].flatten H → va_D A [W_Text k b0 o0 v0_codes v0_length v0_itemKeys v0_itemCounts v0_items v0_newFlows v0_at, W_State k b1 o1 v1_form_counters v1_form_bits v1_form_functions v1_form_countersAbove v1_form_functionsAbove v1_form_rounds v1_flows v1_keys v1_first_truths v1_first_rests v1_first_marks v1_first_numbers v1_second_truths v1_second_rests v1_second_marks v1_second_numbers].flatten → va_S A s.heap H locs → lv_has ls 4 [] → K39 i3' = some out → W p l e rm_Text_isKnown s m args below meth c H locs 0 0 (Q_Text_isKnown below D k A args s b0 o0 v0_codes v0_length v0_itemKeys v0_itemCounts v0_items v0_newFlows v0_at b1 o1 v1_form_counters v1_form_bits v1_form_functions v1_form_countersAbove v1_form_functionsAbove v1_form_rounds v1_flows v1_keys v1_first_truths v1_first_rests v1_first_marks v1_first_numbers v1_second_truths v1_second_rests v1_second_marks v1_second_numbers out) (F0 m 39 ls [])) : ∀ (n : Nat) (i3 : Int32) (H : Heap) (locs : List Loc) (ls : Array Slot), va_P D vwCl [W_Text k b0 o0 v0_codes v0_length v0_itemKeys v0_itemCounts v0_items v0_newFlows v0_at, W_State k b1 o1 v1_form_counters v1_form_bits v1_form_functions v1_form_countersAbove v1_form_functionsAbove v1_form_rounds v1_flows v1_keys v1_first_truths v1_first_rests v1_first_marks v1_first_numbers v1_second_truths v1_second_rests v1_second_marks v1_second_numbers].flatten H → va_D A [W_Text k b0 o0 v0_codes v0_length v0_itemKeys v0_itemCounts v0_items v0_newFlows v0_at, W_State k b1 o1 v1_form_counters v1_form_bits v1_form_functions v1_form_countersAbove v1_form_functionsAbove v1_form_rounds v1_flows v1_keys v1_first_truths v1_first_rests v1_first_marks v1_first_numbers v1_second_truths v1_second_rests v1_second_marks v1_second_numbers].flatten → va_S A s.heap H locs → lv_has ls 4 [(0, .ref (b0 o0)), (1, .int i2), (3, .int i3)] → f_Text_isKnown_L13 i2 v0_itemKeys v0_items K39 n i3 = some out → W p l e rm_Text_isKnown s m args below meth c H locs 0 0 (Q_Text_isKnown below D k A args s b0 o0 v0_codes v0_length v0_itemKeys v0_itemCounts v0_items v0_newFlows v0_at b1 o1 v1_form_counters v1_form_bits v1_form_functions v1_form_countersAbove v1_form_functionsAbove v1_form_rounds v1_flows v1_keys v1_first_truths v1_first_rests v1_first_marks v1_first_numbers v1_second_truths v1_second_rests v1_second_marks v1_second_numbers out) (F0 m 13 ls []) := by
  have hx := X.1.1
  have hb := X.1.2.1
  have hml := X.1.2.2.1
  have hown := X.1.2.2.2.1
  have hts := X.1.2.2.2.2
  intro n
  induction n with
  | zero =>
    intro i3 H locs ls hP hD hS hl hf
    rw [f_Text_isKnown_L13] at hf
    cases hf
  | succ n ih =>
    intro i3 H locs ls hP hD hS hl hf
    rw [f_Text_isKnown_L13] at hf
    refine lv_iload_n hx hb dX6_isKnown_13 rfl (lv_at hl 2 rfl) ?_
    refine lv_aload_n hx hb dX6_isKnown_14 rfl (lv_at hl 0 rfl) ?_
    refine kget (v := .int v0_items) X hP ff_X6_28 0 rfl rfl dX6_isKnown_15 ?_
    refine lv_icmp_ge (tgt := 39) hx hb dX6_isKnown_18 (by decide) (fun hc => ?_) (fun hc => ?_)
    · have hf := ofpos hf hc
      exact hK39 i3 _ _ _ hP hD hS (lv_sub hl [] rfl) hf
    · have hf := ofneg hf hc
      refine lv_aload_n hx hb dX6_isKnown_21 rfl (lv_at hl 0 rfl) ?_
      refine kget (v := .ref (b0 (o0+2))) X hP ff_X6_15 0 rfl rfl dX6_isKnown_22 ?_
      refine lv_iload_n hx hb dX6_isKnown_25 rfl (lv_at hl 2 rfl) ?_
      obtain ⟨hc, hf⟩ := ofck hf
      refine kiald (f := v0_itemKeys) (n := 50) X hP 2 rfl hc dX6_isKnown_26 ?_
      refine lv_iload_n hx hb dX6_isKnown_27 rfl (lv_at hl 1 rfl) ?_
      refine lv_icmp_ne (tgt := 33) hx hb dX6_isKnown_28 (by decide) (fun hc => ?_) (fun hc => ?_)
      · have hf := ofneg hf hc
        refine lv_iinc (v := i3 + 1) (lv' := [(3, .int (i3 + 1)), (0, .ref (b0 o0)), (1, .int i2)]) hx hb dX6_isKnown_33 hl (k := 2) rfl rfl (by decide) rfl (fun ls hl => ?_)
        refine lv_goto (tgt := 13) hx hb dX6_isKnown_36 (by decide) ?_
        exact ih (i3 + 1) _ _ _ hP hD hS (lv_sub hl [1, 2, 0] rfl) hf
      · have hf := ofpos hf hc
        refine lv_iconst (v := 1) hx hb dX6_isKnown_31 (by decide) ?_
        have hf := Option.some.inj hf
        subst hf
        exact kzret (v := 1) X hP hD hS rfl dX6_isKnown_32
set_option maxRecDepth 100000 in
set_option maxHeartbeats 1000000 in
theorem c_Text_isKnown (l : Launch) (D : va_G) (k : Nat → ClassId) (t : Nat → Nat) (b0 : Nat → Nat) (o0 : Nat) (v0_codes : FI) (v0_length : Int32) (v0_itemKeys : FI) (v0_itemCounts : FI) (v0_items : Int32) (v0_newFlows : Int32) (v0_at : Int32) (b1 : Nat → Nat) (o1 : Nat) (v1_form_counters : Int32) (v1_form_bits : Int32) (v1_form_functions : Int32) (v1_form_countersAbove : Int32) (v1_form_functionsAbove : Int32) (v1_form_rounds : Int32) (v1_flows : Int32) (v1_keys : FI) (v1_first_truths : FJ) (v1_first_rests : FI) (v1_first_marks : FI) (v1_first_numbers : FJ) (v1_second_truths : FJ) (v1_second_rests : FI) (v1_second_marks : FI) (v1_second_numbers : FJ) (x1 : Int32) (N : Nat) (out : Int32) (hf : f_Text_isKnown N x1 v0_itemKeys v0_items v1_flows v1_keys = some out) : CT l D k t yX6_isKnown cX6_isKnown 4 (some .boolean) rm_Text_isKnown [.ref (b0 o0), .int x1, .ref (b1 o1)] [W_Text k b0 o0 v0_codes v0_length v0_itemKeys v0_itemCounts v0_items v0_newFlows v0_at, W_State k b1 o1 v1_form_counters v1_form_bits v1_form_functions v1_form_countersAbove v1_form_functionsAbove v1_form_rounds v1_flows v1_keys v1_first_truths v1_first_rests v1_first_marks v1_first_numbers v1_second_truths v1_second_rests v1_second_marks v1_second_numbers].flatten (some (.int out)) [W_Text k b0 o0 v0_codes v0_length v0_itemKeys v0_itemCounts v0_items v0_newFlows v0_at, W_State k b1 o1 v1_form_counters v1_form_bits v1_form_functions v1_form_countersAbove v1_form_functionsAbove v1_form_rounds v1_flows v1_keys v1_first_truths v1_first_rests v1_first_marks v1_first_numbers v1_second_truths v1_second_rests v1_second_marks v1_second_numbers].flatten := by
  refine kofW (by decide) (Nat.le_of_ble_eq_true rfl) ?_
  intro p e s m below meth c A ls X hP hD hS hl
  have hx := X.1.1
  have hb := X.1.2.1
  have hml := X.1.2.2.1
  have hown := X.1.2.2.2.1
  have hts := X.1.2.2.2.2
  have hl : lv_has ls 4 [(0, .ref (b0 o0)), (1, .int x1), (2, .ref (b1 o1))] := hl
  rw [f_Text_isKnown] at hf
  refine lv_aload_n hx hb dX6_isKnown_0 rfl (lv_at hl 2 rfl) ?_
  refine lv_iload_n hx hb dX6_isKnown_1 rfl (lv_at hl 1 rfl) ?_
  obtain ⟨r1, hg_r1, hf⟩ := ofbind hf
  refine kcV (bs := [W_Text k b0 o0 v0_codes v0_length v0_itemKeys v0_itemCounts v0_items v0_newFlows v0_at, W_State k b1 o1 v1_form_counters v1_form_bits v1_form_functions v1_form_countersAbove v1_form_functionsAbove v1_form_rounds v1_flows v1_keys v1_first_truths v1_first_rests v1_first_marks v1_first_numbers v1_second_truths v1_second_rests v1_second_marks v1_second_numbers]) (br := [W_Text k b0 o0 v0_codes v0_length v0_itemKeys v0_itemCounts v0_items v0_newFlows v0_at]) (bc := [W_State k b1 o1 v1_form_counters v1_form_bits v1_form_functions v1_form_countersAbove v1_form_functionsAbove v1_form_rounds v1_flows v1_keys v1_first_truths v1_first_rests v1_first_marks v1_first_numbers v1_second_truths v1_second_rests v1_second_marks v1_second_numbers]) (bc' := [W_State k b1 o1 v1_form_counters v1_form_bits v1_form_functions v1_form_countersAbove v1_form_functionsAbove v1_form_rounds v1_flows v1_keys v1_first_truths v1_first_rests v1_first_marks v1_first_numbers v1_second_truths v1_second_rests v1_second_marks v1_second_numbers]) X hP hD hS (c_State_find l D k t b1 o1 v1_form_counters v1_form_bits v1_form_functions v1_form_countersAbove v1_form_functionsAbove v1_form_rounds v1_flows v1_keys v1_first_truths v1_first_rests v1_first_marks v1_first_numbers v1_second_truths v1_second_rests v1_second_marks v1_second_numbers x1 N r1 hg_r1) mv_X6_66 hl [0] [1] 5 ⟨rfl, rfl⟩ ⟨Nat.le_of_ble_eq_true rfl, Nat.le_of_ble_eq_true rfl⟩ rfl rfl rfl rfl rfl rfl rfl (Nat.le_of_ble_eq_true rfl) dX6_isKnown_2 (fun H locs hP hD hS => ?_)
  have hP : va_P D vwCl [W_Text k b0 o0 v0_codes v0_length v0_itemKeys v0_itemCounts v0_items v0_newFlows v0_at, W_State k b1 o1 v1_form_counters v1_form_bits v1_form_functions v1_form_countersAbove v1_form_functionsAbove v1_form_rounds v1_flows v1_keys v1_first_truths v1_first_rests v1_first_marks v1_first_numbers v1_second_truths v1_second_rests v1_second_marks v1_second_numbers].flatten _ := hP
  have hD : va_D A [W_Text k b0 o0 v0_codes v0_length v0_itemKeys v0_itemCounts v0_items v0_newFlows v0_at, W_State k b1 o1 v1_form_counters v1_form_bits v1_form_functions v1_form_countersAbove v1_form_functionsAbove v1_form_rounds v1_flows v1_keys v1_first_truths v1_first_rests v1_first_marks v1_first_numbers v1_second_truths v1_second_rests v1_second_marks v1_second_numbers].flatten := hD
  refine lv_iconst (v := (-1)) hx hb dX6_isKnown_5 (by decide) ?_
  refine lv_icmp_eq (tgt := 11) hx hb dX6_isKnown_6 (by decide) (fun hc => ?_) (fun hc => ?_)
  · have hf := ofpos hf hc
    refine lv_iconst (v := 0) hx hb dX6_isKnown_11 (by decide) ?_
    refine lv_istore_n (lv' := [(3, .int 0), (0, .ref (b0 o0)), (1, .int x1), (2, .ref (b1 o1))]) hx hb dX6_isKnown_12 rfl hl (by decide) rfl (fun ls hl => ?_)
    refine w_Text_isKnown_L13 X b0 o0 v0_codes v0_length v0_itemKeys v0_itemCounts v0_items v0_newFlows v0_at b1 o1 v1_form_counters v1_form_bits v1_form_functions v1_form_countersAbove v1_form_functionsAbove v1_form_rounds v1_flows v1_keys v1_first_truths v1_first_rests v1_first_marks v1_first_numbers v1_second_truths v1_second_rests v1_second_marks v1_second_numbers N x1 out _ ?_ N 0 _ _ _ hP hD hS (lv_sub hl [1, 2, 0] rfl) hf
    · intro i4 H locs ls hP hD hS hl hf
      refine lv_iconst (v := 0) hx hb dX6_isKnown_39 (by decide) ?_
      have hf := Option.some.inj hf
      subst hf
      exact kzret (v := 0) X hP hD hS rfl dX6_isKnown_40
  · have hf := ofneg hf hc
    refine lv_iconst (v := 1) hx hb dX6_isKnown_9 (by decide) ?_
    have hf := Option.some.inj hf
    subst hf
    exact kzret (v := 1) X hP hD hS rfl dX6_isKnown_10
/-! Text_skipSign: private boolean skipSign(char); -/
abbrev rm_Text_skipSign : Room := ({ frames := 0, cells := 0, slots := 0, locals := 0 } : Room)
def f_Text_skipSign (x1 : Int32) (v_codes : FI) (v_length : Int32) (v_at : Int32) : Option (Int32 × Int32) := if v_length ≤ v_at then some (0, v_at) else if ck v_at 100 = true then if (v_codes v_at.toNatClampNeg) = x1 then some (1, (v_at + 1)) else some (0, v_at) else none
abbrev Q_Text_skipSign (below : List Frame) (D : va_G) (k : Nat → ClassId) (A : Nat → Prop) (args : Array Value) (s : State) (b0 : Nat → Nat) (o0 : Nat) (v_codes : FI) (v_length : Int32) (v_itemKeys : FI) (v_itemCounts : FI) (v_items : Int32) (v_newFlows : Int32) (v_at : Int32) (out : Int32 × Int32) : State → Prop := MQ below (QW D k A (some (.int out.1)) [W_Text k b0 o0 v_codes v_length v_itemKeys v_itemCounts v_items v_newFlows out.2].flatten) args s 0 0 A
set_option maxRecDepth 100000 in
set_option maxHeartbeats 1000000 in
theorem c_Text_skipSign (l : Launch) (D : va_G) (k : Nat → ClassId) (t : Nat → Nat) (b0 : Nat → Nat) (o0 : Nat) (v_codes : FI) (v_length : Int32) (v_itemKeys : FI) (v_itemCounts : FI) (v_items : Int32) (v_newFlows : Int32) (v_at : Int32) (x1 : Int32) (out : Int32 × Int32) (hf : f_Text_skipSign x1 v_codes v_length v_at = some out) : CT l D k t yX6_skipSign cX6_skipSign 2 (some .boolean) rm_Text_skipSign [.ref (b0 o0), .int x1] [W_Text k b0 o0 v_codes v_length v_itemKeys v_itemCounts v_items v_newFlows v_at].flatten (some (.int out.1)) [W_Text k b0 o0 v_codes v_length v_itemKeys v_itemCounts v_items v_newFlows out.2].flatten := by
  refine kofW (by decide) (Nat.le_of_ble_eq_true rfl) ?_
  intro p e s m below meth c A ls X hP hD hS hl
  have N : Nat := 0
  have hx := X.1.1
  have hb := X.1.2.1
  have hml := X.1.2.2.1
  have hown := X.1.2.2.2.1
  have hts := X.1.2.2.2.2
  have hl : lv_has ls 2 [(0, .ref (b0 o0)), (1, .int x1)] := hl
  rw [f_Text_skipSign] at hf
  refine lv_aload_n hx hb dX6_skipSign_0 rfl (lv_at hl 0 rfl) ?_
  refine kget (v := .int v_at) X hP ff_X6_25 0 rfl rfl dX6_skipSign_1 ?_
  refine lv_aload_n hx hb dX6_skipSign_4 rfl (lv_at hl 0 rfl) ?_
  refine kget (v := .int v_length) X hP ff_X6_21 0 rfl rfl dX6_skipSign_5 ?_
  refine lv_icmp_ge (tgt := 36) hx hb dX6_skipSign_8 (by decide) (fun hc => ?_) (fun hc => ?_)
  · have hf := ofpos hf hc
    refine lv_iconst (v := 0) hx hb dX6_skipSign_36 (by decide) ?_
    have hf := Option.some.inj hf
    subst hf
    exact kzret (v := 0) X hP hD hS rfl dX6_skipSign_37
  · have hf := ofneg hf hc
    refine lv_aload_n hx hb dX6_skipSign_11 rfl (lv_at hl 0 rfl) ?_
    refine kget (v := .ref (b0 (o0+1))) X hP ff_X6_9 0 rfl rfl dX6_skipSign_12 ?_
    refine lv_aload_n hx hb dX6_skipSign_15 rfl (lv_at hl 0 rfl) ?_
    refine kget (v := .int v_at) X hP ff_X6_25 0 rfl rfl dX6_skipSign_16 ?_
    obtain ⟨hc, hf⟩ := ofck hf
    refine kiald (f := v_codes) (n := 100) X hP 1 rfl hc dX6_skipSign_19 ?_
    refine lv_iload_n hx hb dX6_skipSign_20 rfl (lv_at hl 1 rfl) ?_
    refine lv_icmp_ne (tgt := 36) hx hb dX6_skipSign_21 (by decide) (fun hc => ?_) (fun hc => ?_)
    · have hf := ofneg hf hc
      refine lv_iconst (v := 0) hx hb dX6_skipSign_36 (by decide) ?_
      have hf := Option.some.inj hf
      subst hf
      exact kzret (v := 0) X hP hD hS rfl dX6_skipSign_37
    · have hf := ofpos hf hc
      refine lv_aload_n hx hb dX6_skipSign_24 rfl (lv_at hl 0 rfl) ?_
      refine lv_dup hx hb dX6_skipSign_25 rfl ?_
      refine kget (v := .int v_at) X hP ff_X6_25 0 rfl rfl dX6_skipSign_26 ?_
      refine lv_iconst (v := 1) hx hb dX6_skipSign_29 (by decide) ?_
      refine lv_iadd hx hb dX6_skipSign_30 ?_
      generalize hy1 : v_at + 1 = y1 at hf ⊢
      refine kputi (v := y1) X hP hD hS fp_X6_25 0 rfl (Nat.le_of_ble_eq_true rfl) dX6_skipSign_31 (fun H locs hP hD hS => ?_)
      have hP : va_P D vwCl [W_Text k b0 o0 v_codes v_length v_itemKeys v_itemCounts v_items v_newFlows y1].flatten _ := hP
      have hD : va_D A [W_Text k b0 o0 v_codes v_length v_itemKeys v_itemCounts v_items v_newFlows y1].flatten := hD
      refine lv_iconst (v := 1) hx hb dX6_skipSign_34 (by decide) ?_
      have hf := Option.some.inj hf
      subst hf
      exact kzret (v := 1) X hP hD hS rfl dX6_skipSign_35
/-! Text_keep: private void keep(int, int); -/
abbrev rm_Text_keep : Room := ({ frames := 0, cells := 0, slots := 0, locals := 0 } : Room)
def f_Text_keep (x1 : Int32) (x2 : Int32) (v_itemKeys : FI) (v_itemCounts : FI) (v_items : Int32) : Option (FI × FI × Int32) := if 50 ≤ v_items then some (v_itemKeys, v_itemCounts, v_items) else if ck v_items 50 = true then if ck v_items 50 = true then some ((upd v_itemKeys v_items.toNatClampNeg x1), (upd v_itemCounts v_items.toNatClampNeg x2), (v_items + 1)) else none else none
abbrev Q_Text_keep (below : List Frame) (D : va_G) (k : Nat → ClassId) (A : Nat → Prop) (args : Array Value) (s : State) (b0 : Nat → Nat) (o0 : Nat) (v_codes : FI) (v_length : Int32) (v_itemKeys : FI) (v_itemCounts : FI) (v_items : Int32) (v_newFlows : Int32) (v_at : Int32) (out : FI × FI × Int32) : State → Prop := MQ below (QW D k A none [W_Text k b0 o0 v_codes v_length out.1 out.2.1 out.2.2 v_newFlows v_at].flatten) args s 0 0 A
set_option maxRecDepth 100000 in
set_option maxHeartbeats 1000000 in
theorem c_Text_keep (l : Launch) (D : va_G) (k : Nat → ClassId) (t : Nat → Nat) (b0 : Nat → Nat) (o0 : Nat) (v_codes : FI) (v_length : Int32) (v_itemKeys : FI) (v_itemCounts : FI) (v_items : Int32) (v_newFlows : Int32) (v_at : Int32) (x1 : Int32) (x2 : Int32) (out : FI × FI × Int32) (hf : f_Text_keep x1 x2 v_itemKeys v_itemCounts v_items = some out) : CT l D k t yX6_keep cX6_keep 3 none rm_Text_keep [.ref (b0 o0), .int x1, .int x2] [W_Text k b0 o0 v_codes v_length v_itemKeys v_itemCounts v_items v_newFlows v_at].flatten none [W_Text k b0 o0 v_codes v_length out.1 out.2.1 out.2.2 v_newFlows v_at].flatten := by
  refine kofW (by decide) (Nat.le_of_ble_eq_true rfl) ?_
  intro p e s m below meth c A ls X hP hD hS hl
  have N : Nat := 0
  have hx := X.1.1
  have hb := X.1.2.1
  have hml := X.1.2.2.1
  have hown := X.1.2.2.2.1
  have hts := X.1.2.2.2.2
  have hl : lv_has ls 3 [(0, .ref (b0 o0)), (1, .int x1), (2, .int x2)] := hl
  rw [f_Text_keep] at hf
  refine lv_aload_n hx hb dX6_keep_0 rfl (lv_at hl 0 rfl) ?_
  refine kget (v := .int v_items) X hP ff_X6_28 0 rfl rfl dX6_keep_1 ?_
  refine lv_bipush (v := 50) hx hb dX6_keep_4 (by decide) ?_
  refine lv_icmp_ge (tgt := 39) hx hb dX6_keep_6 (by decide) (fun hc => ?_) (fun hc => ?_)
  · have hf := ofpos hf hc
    have hf := Option.some.inj hf
    subst hf
    exact kvret X hP hD hS dX6_keep_39
  · have hf := ofneg hf hc
    refine lv_aload_n hx hb dX6_keep_9 rfl (lv_at hl 0 rfl) ?_
    refine kget (v := .ref (b0 (o0+2))) X hP ff_X6_15 0 rfl rfl dX6_keep_10 ?_
    refine lv_aload_n hx hb dX6_keep_13 rfl (lv_at hl 0 rfl) ?_
    refine kget (v := .int v_items) X hP ff_X6_28 0 rfl rfl dX6_keep_14 ?_
    refine lv_iload_n hx hb dX6_keep_17 rfl (lv_at hl 1 rfl) ?_
    obtain ⟨hc, hf⟩ := ofck hf
    generalize hc1 : upd v_itemKeys v_items.toNatClampNeg x1 = c1 at hf
    refine kiast2 (f := v_itemKeys) (n := 50) (g := c1) X hP hD hS 2 rfl hc hc1 dX6_keep_18 (fun H locs hP hD hS => ?_)
    have hP : va_P D vwCl [W_Text k b0 o0 v_codes v_length c1 v_itemCounts v_items v_newFlows v_at].flatten _ := hP
    have hD : va_D A [W_Text k b0 o0 v_codes v_length c1 v_itemCounts v_items v_newFlows v_at].flatten := hD
    refine lv_aload_n hx hb dX6_keep_19 rfl (lv_at hl 0 rfl) ?_
    refine kget (v := .ref (b0 (o0+3))) X hP ff_X6_18 0 rfl rfl dX6_keep_20 ?_
    refine lv_aload_n hx hb dX6_keep_23 rfl (lv_at hl 0 rfl) ?_
    refine kget (v := .int v_items) X hP ff_X6_28 0 rfl rfl dX6_keep_24 ?_
    refine lv_iload_n hx hb dX6_keep_27 rfl (lv_at hl 2 rfl) ?_
    obtain ⟨hc, hf⟩ := ofck hf
    generalize hc2 : upd v_itemCounts v_items.toNatClampNeg x2 = c2 at hf
    refine kiast2 (f := v_itemCounts) (n := 50) (g := c2) X hP hD hS 3 rfl hc hc2 dX6_keep_28 (fun H locs hP hD hS => ?_)
    have hP : va_P D vwCl [W_Text k b0 o0 v_codes v_length c1 c2 v_items v_newFlows v_at].flatten _ := hP
    have hD : va_D A [W_Text k b0 o0 v_codes v_length c1 c2 v_items v_newFlows v_at].flatten := hD
    refine lv_aload_n hx hb dX6_keep_29 rfl (lv_at hl 0 rfl) ?_
    refine lv_dup hx hb dX6_keep_30 rfl ?_
    refine kget (v := .int v_items) X hP ff_X6_28 0 rfl rfl dX6_keep_31 ?_
    refine lv_iconst (v := 1) hx hb dX6_keep_34 (by decide) ?_
    refine lv_iadd hx hb dX6_keep_35 ?_
    generalize hy3 : v_items + 1 = y3 at hf ⊢
    refine kputi (v := y3) X hP hD hS fp_X6_28 0 rfl (Nat.le_of_ble_eq_true rfl) dX6_keep_36 (fun H locs hP hD hS => ?_)
    have hP : va_P D vwCl [W_Text k b0 o0 v_codes v_length c1 c2 y3 v_newFlows v_at].flatten _ := hP
    have hD : va_D A [W_Text k b0 o0 v_codes v_length c1 c2 y3 v_newFlows v_at].flatten := hD
    have hf := Option.some.inj hf
    subst hf
    exact kvret X hP hD hS dX6_keep_39
/-! Text_readItem: private int readItem(CounterBraid$State); -/
abbrev rm_Text_readItem : Room := ({ frames := 2, cells := 0, slots := 0, locals := 45 } : Room)
def f_Text_readItem_J62 (N : Nat) (j5 : Int32) (c6 : FI) (c7 : FI) (c8 : Int32) (c9 : Int32) (c10 : Int32) (v0_codes : FI) (v0_length : Int32) : Option (Int32 × FI × FI × Int32 × Int32 × Int32) := (f_Text_skipBlanks N v0_codes v0_length c10).bind (fun r11 => (f_Text_skipSign 43 v0_codes v0_length r11).bind (fun r12 => if r12.1 = 0 then (f_Text_keep j5 1 c6 c7 c8).bind (fun r13 => some ((-1), r13.1, r13.2.1, r13.2.2, c9, r12.2)) else (f_Text_skipBlanks N v0_codes v0_length r12.2).bind (fun r14 => (f_Text_readNumber N v0_codes v0_length r14).bind (fun r15 => if 1 ≤ r15.1 then (f_Text_skipBlanks N v0_codes v0_length r15.2).bind (fun r16 => (f_Text_keep j5 r15.1 c6 c7 c8).bind (fun r17 => some ((-1), r17.1, r17.2.1, r17.2.2, c9, r16))) else some (r14, c6, c7, c8, c9, r15.2)))))
def f_Text_readItem (N : Nat) (v0_codes : FI) (v0_length : Int32) (v0_itemKeys : FI) (v0_itemCounts : FI) (v0_items : Int32) (v0_newFlows : Int32) (v0_at : Int32) (v1_flows : Int32) (v1_keys : FI) : Option (Int32 × FI × FI × Int32 × Int32 × Int32) := (f_Text_skipBlanks N v0_codes v0_length v0_at).bind (fun r1 => (f_Text_readNumber N v0_codes v0_length r1).bind (fun r2 => (f_CB_isFrom 0 r2.1 999).bind (fun r3 => if r3 = 0 then some (r1, v0_itemKeys, v0_itemCounts, v0_items, v0_newFlows, r2.2) else (f_Text_isKnown N r2.1 v0_itemKeys v0_items v1_flows v1_keys).bind (fun r4 => if r4 = 0 then if (v1_flows + v0_newFlows) < 16 then f_Text_readItem_J62 N r2.1 v0_itemKeys v0_itemCounts v0_items (v0_newFlows + 1) r2.2 v0_codes v0_length else some (r1, v0_itemKeys, v0_itemCounts, v0_items, v0_newFlows, r2.2) else f_Text_readItem_J62 N r2.1 v0_itemKeys v0_itemCounts v0_items v0_newFlows r2.2 v0_codes v0_length))))
abbrev Q_Text_readItem (below : List Frame) (D : va_G) (k : Nat → ClassId) (A : Nat → Prop) (args : Array Value) (s : State) (b0 : Nat → Nat) (o0 : Nat) (v0_codes : FI) (v0_length : Int32) (v0_itemKeys : FI) (v0_itemCounts : FI) (v0_items : Int32) (v0_newFlows : Int32) (v0_at : Int32) (b1 : Nat → Nat) (o1 : Nat) (v1_form_counters : Int32) (v1_form_bits : Int32) (v1_form_functions : Int32) (v1_form_countersAbove : Int32) (v1_form_functionsAbove : Int32) (v1_form_rounds : Int32) (v1_flows : Int32) (v1_keys : FI) (v1_first_truths : FJ) (v1_first_rests : FI) (v1_first_marks : FI) (v1_first_numbers : FJ) (v1_second_truths : FJ) (v1_second_rests : FI) (v1_second_marks : FI) (v1_second_numbers : FJ) (out : Int32 × FI × FI × Int32 × Int32 × Int32) : State → Prop := MQ below (QW D k A (some (.int out.1)) [W_Text k b0 o0 v0_codes v0_length out.2.1 out.2.2.1 out.2.2.2.1 out.2.2.2.2.1 out.2.2.2.2.2, W_State k b1 o1 v1_form_counters v1_form_bits v1_form_functions v1_form_countersAbove v1_form_functionsAbove v1_form_rounds v1_flows v1_keys v1_first_truths v1_first_rests v1_first_marks v1_first_numbers v1_second_truths v1_second_rests v1_second_marks v1_second_numbers].flatten) args s 0 0 A
set_option maxRecDepth 100000 in
set_option maxHeartbeats 1000000 in
theorem w_Text_readItem_J62 {p : Program} {l : Launch} {e : Env} {s : State} {m : MethodId} {below : List Frame} {meth : Method} {c : Code} {args : Array Value} {A : Nat → Prop} {D : va_G} {k : Nat → ClassId} {t : Nat → Nat} (X : BX l D k t p s m args meth c cX6_readItem 5 RX6 (some .int) A) (b0 : Nat → Nat) (o0 : Nat) (v0_codes : FI) (v0_length : Int32) (v0_itemKeys : FI) (v0_itemCounts : FI) (v0_items : Int32) (v0_newFlows : Int32) (v0_at : Int32) (b1 : Nat → Nat) (o1 : Nat) (v1_form_counters : Int32) (v1_form_bits : Int32) (v1_form_functions : Int32) (v1_form_countersAbove : Int32) (v1_form_functionsAbove : Int32) (v1_form_rounds : Int32) (v1_flows : Int32) (v1_keys : FI) (v1_first_truths : FJ) (v1_first_rests : FI) (v1_first_marks : FI) (v1_first_numbers : FJ) (v1_second_truths : FJ) (v1_second_rests : FI) (v1_second_marks : FI) (v1_second_numbers : FJ) (N : Nat) (j5 : Int32) (c6 : FI) (c7 : FI) (c8 : Int32) (c9 : Int32) (c10 : Int32) (out : Int32 × FI × FI × Int32 × Int32 × Int32) : ∀ (H : Heap) (locs : List Loc) (ls : Array Slot), va_P D vwCl [W_Text k b0 o0 v0_codes v0_length c6 c7 c8 c9 c10, W_State k b1 o1 v1_form_counters v1_form_bits v1_form_functions v1_form_countersAbove v1_form_functionsAbove v1_form_rounds v1_flows v1_keys v1_first_truths v1_first_rests v1_first_marks v1_first_numbers v1_second_truths v1_second_rests v1_second_marks v1_second_numbers].flatten H → va_D A [W_Text k b0 o0 v0_codes v0_length c6 c7 c8 c9 c10, W_State k b1 o1 v1_form_counters v1_form_bits v1_form_functions v1_form_countersAbove v1_form_functionsAbove v1_form_rounds v1_flows v1_keys v1_first_truths v1_first_rests v1_first_marks v1_first_numbers v1_second_truths v1_second_rests v1_second_marks v1_second_numbers].flatten → va_S A s.heap H locs → lv_has ls 5 [(0, .ref (b0 o0)), (3, .int j5)] → f_Text_readItem_J62 N j5 c6 c7 c8 c9 c10 v0_codes v0_length = some out → W p l e rm_Text_readItem s m args below meth c H locs 0 0 (Q_Text_readItem below D k A args s b0 o0 v0_codes v0_length v0_itemKeys v0_itemCounts v0_items v0_newFlows v0_at b1 o1 v1_form_counters v1_form_bits v1_form_functions v1_form_countersAbove v1_form_functionsAbove v1_form_rounds v1_flows v1_keys v1_first_truths v1_first_rests v1_first_marks v1_first_numbers v1_second_truths v1_second_rests v1_second_marks v1_second_numbers out) (F0 m 62 ls []) := by
  have hx := X.1.1
  have hb := X.1.2.1
  have hml := X.1.2.2.1
  have hown := X.1.2.2.2.1
  have hts := X.1.2.2.2.2
  intro H locs ls hP hD hS hl hf
  rw [f_Text_readItem_J62] at hf
  refine lv_iconst (v := 1) hx hb dX6_readItem_62 (by decide) ?_
  refine lv_istore (lv' := [(4, .int 1), (0, .ref (b0 o0)), (3, .int j5)]) hx hb dX6_readItem_63 hl (by decide) rfl (fun ls hl => ?_)
  refine lv_aload_n hx hb dX6_readItem_65 rfl (lv_at hl 1 rfl) ?_
  obtain ⟨r11, hg_r11, hf⟩ := ofbind hf
  refine kcV (bs := [W_Text k b0 o0 v0_codes v0_length c6 c7 c8 c9 c10, W_State k b1 o1 v1_form_counters v1_form_bits v1_form_functions v1_form_countersAbove v1_form_functionsAbove v1_form_rounds v1_flows v1_keys v1_first_truths v1_first_rests v1_first_marks v1_first_numbers v1_second_truths v1_second_rests v1_second_marks v1_second_numbers]) (br := [W_State k b1 o1 v1_form_counters v1_form_bits v1_form_functions v1_form_countersAbove v1_form_functionsAbove v1_form_rounds v1_flows v1_keys v1_first_truths v1_first_rests v1_first_marks v1_first_numbers v1_second_truths v1_second_rests v1_second_marks v1_second_numbers]) (bc := [W_Text k b0 o0 v0_codes v0_length c6 c7 c8 c9 c10]) (bc' := [W_Text k b0 o0 v0_codes v0_length c6 c7 c8 c9 r11]) X hP hD hS (c_Text_skipBlanks l D k t b0 o0 v0_codes v0_length c6 c7 c8 c9 c10 N r11 hg_r11) mv_X6_42 hl [1] [0] 6 ⟨rfl, rfl⟩ ⟨Nat.le_of_ble_eq_true rfl, Nat.le_of_ble_eq_true rfl⟩ rfl rfl rfl rfl rfl rfl rfl (Nat.le_of_ble_eq_true rfl) dX6_readItem_66 (fun H locs hP hD hS => ?_)
  have hP : va_P D vwCl [W_State k b1 o1 v1_form_counters v1_form_bits v1_form_functions v1_form_countersAbove v1_form_functionsAbove v1_form_rounds v1_flows v1_keys v1_first_truths v1_first_rests v1_first_marks v1_first_numbers v1_second_truths v1_second_rests v1_second_marks v1_second_numbers, W_Text k b0 o0 v0_codes v0_length c6 c7 c8 c9 r11].flatten _ := hP
  have hD : va_D A [W_State k b1 o1 v1_form_counters v1_form_bits v1_form_functions v1_form_countersAbove v1_form_functionsAbove v1_form_rounds v1_flows v1_keys v1_first_truths v1_first_rests v1_first_marks v1_first_numbers v1_second_truths v1_second_rests v1_second_marks v1_second_numbers, W_Text k b0 o0 v0_codes v0_length c6 c7 c8 c9 r11].flatten := hD
  refine lv_aload_n hx hb dX6_readItem_69 rfl (lv_at hl 1 rfl) ?_
  refine lv_bipush (v := 43) hx hb dX6_readItem_70 (by decide) ?_
  obtain ⟨r12, hg_r12, hf⟩ := ofbind hf
  refine kcV (bs := [W_State k b1 o1 v1_form_counters v1_form_bits v1_form_functions v1_form_countersAbove v1_form_functionsAbove v1_form_rounds v1_flows v1_keys v1_first_truths v1_first_rests v1_first_marks v1_first_numbers v1_second_truths v1_second_rests v1_second_marks v1_second_numbers, W_Text k b0 o0 v0_codes v0_length c6 c7 c8 c9 r11]) (br := [W_State k b1 o1 v1_form_counters v1_form_bits v1_form_functions v1_form_countersAbove v1_form_functionsAbove v1_form_rounds v1_flows v1_keys v1_first_truths v1_first_rests v1_first_marks v1_first_numbers v1_second_truths v1_second_rests v1_second_marks v1_second_numbers]) (bc := [W_Text k b0 o0 v0_codes v0_length c6 c7 c8 c9 r11]) (bc' := [W_Text k b0 o0 v0_codes v0_length c6 c7 c8 c9 r12.2]) X hP hD hS (c_Text_skipSign l D k t b0 o0 v0_codes v0_length c6 c7 c8 c9 r11 43 r12 hg_r12) mv_X6_38 hl [0] [1] 6 ⟨rfl, rfl⟩ ⟨Nat.le_of_ble_eq_true rfl, Nat.le_of_ble_eq_true rfl⟩ rfl rfl rfl rfl rfl rfl rfl (Nat.le_of_ble_eq_true rfl) dX6_readItem_72 (fun H locs hP hD hS => ?_)
  have hP : va_P D vwCl [W_State k b1 o1 v1_form_counters v1_form_bits v1_form_functions v1_form_countersAbove v1_form_functionsAbove v1_form_rounds v1_flows v1_keys v1_first_truths v1_first_rests v1_first_marks v1_first_numbers v1_second_truths v1_second_rests v1_second_marks v1_second_numbers, W_Text k b0 o0 v0_codes v0_length c6 c7 c8 c9 r12.2].flatten _ := hP
  have hD : va_D A [W_State k b1 o1 v1_form_counters v1_form_bits v1_form_functions v1_form_countersAbove v1_form_functionsAbove v1_form_rounds v1_flows v1_keys v1_first_truths v1_first_rests v1_first_marks v1_first_numbers v1_second_truths v1_second_rests v1_second_marks v1_second_numbers, W_Text k b0 o0 v0_codes v0_length c6 c7 c8 c9 r12.2].flatten := hD
  refine lv_if_eq (tgt := 105) hx hb dX6_readItem_75 (by decide) (fun hc => ?_) (fun hc => ?_)
  · have hf := ofpos hf hc
    refine lv_aload_n hx hb dX6_readItem_105 rfl (lv_at hl 1 rfl) ?_
    refine lv_iload_n hx hb dX6_readItem_106 rfl (lv_at hl 2 rfl) ?_
    refine lv_iload hx hb dX6_readItem_107 (lv_at hl 0 rfl) ?_
    obtain ⟨r13, hg_r13, hf⟩ := ofbind hf
    refine kcV (bs := [W_State k b1 o1 v1_form_counters v1_form_bits v1_form_functions v1_form_countersAbove v1_form_functionsAbove v1_form_rounds v1_flows v1_keys v1_first_truths v1_first_rests v1_first_marks v1_first_numbers v1_second_truths v1_second_rests v1_second_marks v1_second_numbers, W_Text k b0 o0 v0_codes v0_length c6 c7 c8 c9 r12.2]) (br := [W_State k b1 o1 v1_form_counters v1_form_bits v1_form_functions v1_form_countersAbove v1_form_functionsAbove v1_form_rounds v1_flows v1_keys v1_first_truths v1_first_rests v1_first_marks v1_first_numbers v1_second_truths v1_second_rests v1_second_marks v1_second_numbers]) (bc := [W_Text k b0 o0 v0_codes v0_length c6 c7 c8 c9 r12.2]) (bc' := [W_Text k b0 o0 v0_codes v0_length r13.1 r13.2.1 r13.2.2 c9 r12.2]) X hP hD hS (c_Text_keep l D k t b0 o0 v0_codes v0_length c6 c7 c8 c9 r12.2 j5 1 r13 hg_r13) mv_X6_62 hl [0] [1] 6 ⟨rfl, rfl⟩ ⟨Nat.le_of_ble_eq_true rfl, Nat.le_of_ble_eq_true rfl⟩ rfl rfl rfl rfl rfl rfl rfl (Nat.le_of_ble_eq_true rfl) dX6_readItem_109 (fun H locs hP hD hS => ?_)
    have hP : va_P D vwCl [W_State k b1 o1 v1_form_counters v1_form_bits v1_form_functions v1_form_countersAbove v1_form_functionsAbove v1_form_rounds v1_flows v1_keys v1_first_truths v1_first_rests v1_first_marks v1_first_numbers v1_second_truths v1_second_rests v1_second_marks v1_second_numbers, W_Text k b0 o0 v0_codes v0_length r13.1 r13.2.1 r13.2.2 c9 r12.2].flatten _ := hP
    have hD : va_D A [W_State k b1 o1 v1_form_counters v1_form_bits v1_form_functions v1_form_countersAbove v1_form_functionsAbove v1_form_rounds v1_flows v1_keys v1_first_truths v1_first_rests v1_first_marks v1_first_numbers v1_second_truths v1_second_rests v1_second_marks v1_second_numbers, W_Text k b0 o0 v0_codes v0_length r13.1 r13.2.1 r13.2.2 c9 r12.2].flatten := hD
    refine lv_iconst (v := (-1)) hx hb dX6_readItem_112 (by decide) ?_
    obtain ⟨hP, hD⟩ := B_perm (br := [W_Text k b0 o0 v0_codes v0_length r13.1 r13.2.1 r13.2.2 c9 r12.2, W_State k b1 o1 v1_form_counters v1_form_bits v1_form_functions v1_form_countersAbove v1_form_functionsAbove v1_form_rounds v1_flows v1_keys v1_first_truths v1_first_rests v1_first_marks v1_first_numbers v1_second_truths v1_second_rests v1_second_marks v1_second_numbers]) hP hD [1, 0] rfl rfl
    have hP : va_P D vwCl [W_Text k b0 o0 v0_codes v0_length r13.1 r13.2.1 r13.2.2 c9 r12.2, W_State k b1 o1 v1_form_counters v1_form_bits v1_form_functions v1_form_countersAbove v1_form_functionsAbove v1_form_rounds v1_flows v1_keys v1_first_truths v1_first_rests v1_first_marks v1_first_numbers v1_second_truths v1_second_rests v1_second_marks v1_second_numbers].flatten _ := hP
    have hD : va_D A [W_Text k b0 o0 v0_codes v0_length r13.1 r13.2.1 r13.2.2 c9 r12.2, W_State k b1 o1 v1_form_counters v1_form_bits v1_form_functions v1_form_countersAbove v1_form_functionsAbove v1_form_rounds v1_flows v1_keys v1_first_truths v1_first_rests v1_first_marks v1_first_numbers v1_second_truths v1_second_rests v1_second_marks v1_second_numbers].flatten := hD
    have hf := Option.some.inj hf
    subst hf
    exact kiret (v := (-1)) X hP hD hS dX6_readItem_113
  · have hf := ofneg hf hc
    refine lv_aload_n hx hb dX6_readItem_78 rfl (lv_at hl 1 rfl) ?_
    obtain ⟨r14, hg_r14, hf⟩ := ofbind hf
    refine kcV (bs := [W_State k b1 o1 v1_form_counters v1_form_bits v1_form_functions v1_form_countersAbove v1_form_functionsAbove v1_form_rounds v1_flows v1_keys v1_first_truths v1_first_rests v1_first_marks v1_first_numbers v1_second_truths v1_second_rests v1_second_marks v1_second_numbers, W_Text k b0 o0 v0_codes v0_length c6 c7 c8 c9 r12.2]) (br := [W_State k b1 o1 v1_form_counters v1_form_bits v1_form_functions v1_form_countersAbove v1_form_functionsAbove v1_form_rounds v1_flows v1_keys v1_first_truths v1_first_rests v1_first_marks v1_first_numbers v1_second_truths v1_second_rests v1_second_marks v1_second_numbers]) (bc := [W_Text k b0 o0 v0_codes v0_length c6 c7 c8 c9 r12.2]) (bc' := [W_Text k b0 o0 v0_codes v0_length c6 c7 c8 c9 r14]) X hP hD hS (c_Text_skipBlanks l D k t b0 o0 v0_codes v0_length c6 c7 c8 c9 r12.2 N r14 hg_r14) mv_X6_42 hl [0] [1] 6 ⟨rfl, rfl⟩ ⟨Nat.le_of_ble_eq_true rfl, Nat.le_of_ble_eq_true rfl⟩ rfl rfl rfl rfl rfl rfl rfl (Nat.le_of_ble_eq_true rfl) dX6_readItem_79 (fun H locs hP hD hS => ?_)
    have hP : va_P D vwCl [W_State k b1 o1 v1_form_counters v1_form_bits v1_form_functions v1_form_countersAbove v1_form_functionsAbove v1_form_rounds v1_flows v1_keys v1_first_truths v1_first_rests v1_first_marks v1_first_numbers v1_second_truths v1_second_rests v1_second_marks v1_second_numbers, W_Text k b0 o0 v0_codes v0_length c6 c7 c8 c9 r14].flatten _ := hP
    have hD : va_D A [W_State k b1 o1 v1_form_counters v1_form_bits v1_form_functions v1_form_countersAbove v1_form_functionsAbove v1_form_rounds v1_flows v1_keys v1_first_truths v1_first_rests v1_first_marks v1_first_numbers v1_second_truths v1_second_rests v1_second_marks v1_second_numbers, W_Text k b0 o0 v0_codes v0_length c6 c7 c8 c9 r14].flatten := hD
    refine lv_aload_n hx hb dX6_readItem_82 rfl (lv_at hl 1 rfl) ?_
    refine kget (v := .int r14) X hP ff_X6_25 13 rfl rfl dX6_readItem_83 ?_
    refine lv_istore_n (lv' := [(2, .int r14), (4, .int 1), (0, .ref (b0 o0)), (3, .int j5)]) hx hb dX6_readItem_86 rfl hl (by decide) rfl (fun ls hl => ?_)
    refine lv_aload_n hx hb dX6_readItem_87 rfl (lv_at hl 2 rfl) ?_
    obtain ⟨r15, hg_r15, hf⟩ := ofbind hf
    refine kcV (bs := [W_State k b1 o1 v1_form_counters v1_form_bits v1_form_functions v1_form_countersAbove v1_form_functionsAbove v1_form_rounds v1_flows v1_keys v1_first_truths v1_first_rests v1_first_marks v1_first_numbers v1_second_truths v1_second_rests v1_second_marks v1_second_numbers, W_Text k b0 o0 v0_codes v0_length c6 c7 c8 c9 r14]) (br := [W_State k b1 o1 v1_form_counters v1_form_bits v1_form_functions v1_form_countersAbove v1_form_functionsAbove v1_form_rounds v1_flows v1_keys v1_first_truths v1_first_rests v1_first_marks v1_first_numbers v1_second_truths v1_second_rests v1_second_marks v1_second_numbers]) (bc := [W_Text k b0 o0 v0_codes v0_length c6 c7 c8 c9 r14]) (bc' := [W_Text k b0 o0 v0_codes v0_length c6 c7 c8 c9 r15.2]) X hP hD hS (c_Text_readNumber l D k t b0 o0 v0_codes v0_length c6 c7 c8 c9 r14 N r15 hg_r15) mv_X6_45 hl [0] [1] 6 ⟨rfl, rfl⟩ ⟨Nat.le_of_ble_eq_true rfl, Nat.le_of_ble_eq_true rfl⟩ rfl rfl rfl rfl rfl rfl rfl (Nat.le_of_ble_eq_true rfl) dX6_readItem_88 (fun H locs hP hD hS => ?_)
    have hP : va_P D vwCl [W_State k b1 o1 v1_form_counters v1_form_bits v1_form_functions v1_form_countersAbove v1_form_functionsAbove v1_form_rounds v1_flows v1_keys v1_first_truths v1_first_rests v1_first_marks v1_first_numbers v1_second_truths v1_second_rests v1_second_marks v1_second_numbers, W_Text k b0 o0 v0_codes v0_length c6 c7 c8 c9 r15.2].flatten _ := hP
    have hD : va_D A [W_State k b1 o1 v1_form_counters v1_form_bits v1_form_functions v1_form_countersAbove v1_form_functionsAbove v1_form_rounds v1_flows v1_keys v1_first_truths v1_first_rests v1_first_marks v1_first_numbers v1_second_truths v1_second_rests v1_second_marks v1_second_numbers, W_Text k b0 o0 v0_codes v0_length c6 c7 c8 c9 r15.2].flatten := hD
    refine lv_istore (lv' := [(4, .int r15.1), (2, .int r14), (0, .ref (b0 o0)), (3, .int j5)]) hx hb dX6_readItem_91 hl (by decide) rfl (fun ls hl => ?_)
    refine lv_iload hx hb dX6_readItem_93 (lv_at hl 0 rfl) ?_
    refine lv_iconst (v := 1) hx hb dX6_readItem_95 (by decide) ?_
    refine lv_icmp_ge (tgt := 101) hx hb dX6_readItem_96 (by decide) (fun hc => ?_) (fun hc => ?_)
    · have hf := ofpos hf hc
      refine lv_aload_n hx hb dX6_readItem_101 rfl (lv_at hl 2 rfl) ?_
      obtain ⟨r16, hg_r16, hf⟩ := ofbind hf
      refine kcV (bs := [W_State k b1 o1 v1_form_counters v1_form_bits v1_form_functions v1_form_countersAbove v1_form_functionsAbove v1_form_rounds v1_flows v1_keys v1_first_truths v1_first_rests v1_first_marks v1_first_numbers v1_second_truths v1_second_rests v1_second_marks v1_second_numbers, W_Text k b0 o0 v0_codes v0_length c6 c7 c8 c9 r15.2]) (br := [W_State k b1 o1 v1_form_counters v1_form_bits v1_form_functions v1_form_countersAbove v1_form_functionsAbove v1_form_rounds v1_flows v1_keys v1_first_truths v1_first_rests v1_first_marks v1_first_numbers v1_second_truths v1_second_rests v1_second_marks v1_second_numbers]) (bc := [W_Text k b0 o0 v0_codes v0_length c6 c7 c8 c9 r15.2]) (bc' := [W_Text k b0 o0 v0_codes v0_length c6 c7 c8 c9 r16]) X hP hD hS (c_Text_skipBlanks l D k t b0 o0 v0_codes v0_length c6 c7 c8 c9 r15.2 N r16 hg_r16) mv_X6_42 hl [0] [1] 6 ⟨rfl, rfl⟩ ⟨Nat.le_of_ble_eq_true rfl, Nat.le_of_ble_eq_true rfl⟩ rfl rfl rfl rfl rfl rfl rfl (Nat.le_of_ble_eq_true rfl) dX6_readItem_102 (fun H locs hP hD hS => ?_)
      have hP : va_P D vwCl [W_State k b1 o1 v1_form_counters v1_form_bits v1_form_functions v1_form_countersAbove v1_form_functionsAbove v1_form_rounds v1_flows v1_keys v1_first_truths v1_first_rests v1_first_marks v1_first_numbers v1_second_truths v1_second_rests v1_second_marks v1_second_numbers, W_Text k b0 o0 v0_codes v0_length c6 c7 c8 c9 r16].flatten _ := hP
      have hD : va_D A [W_State k b1 o1 v1_form_counters v1_form_bits v1_form_functions v1_form_countersAbove v1_form_functionsAbove v1_form_rounds v1_flows v1_keys v1_first_truths v1_first_rests v1_first_marks v1_first_numbers v1_second_truths v1_second_rests v1_second_marks v1_second_numbers, W_Text k b0 o0 v0_codes v0_length c6 c7 c8 c9 r16].flatten := hD
      refine lv_aload_n hx hb dX6_readItem_105 rfl (lv_at hl 2 rfl) ?_
      refine lv_iload_n hx hb dX6_readItem_106 rfl (lv_at hl 3 rfl) ?_
      refine lv_iload hx hb dX6_readItem_107 (lv_at hl 0 rfl) ?_
      obtain ⟨r17, hg_r17, hf⟩ := ofbind hf
      refine kcV (bs := [W_State k b1 o1 v1_form_counters v1_form_bits v1_form_functions v1_form_countersAbove v1_form_functionsAbove v1_form_rounds v1_flows v1_keys v1_first_truths v1_first_rests v1_first_marks v1_first_numbers v1_second_truths v1_second_rests v1_second_marks v1_second_numbers, W_Text k b0 o0 v0_codes v0_length c6 c7 c8 c9 r16]) (br := [W_State k b1 o1 v1_form_counters v1_form_bits v1_form_functions v1_form_countersAbove v1_form_functionsAbove v1_form_rounds v1_flows v1_keys v1_first_truths v1_first_rests v1_first_marks v1_first_numbers v1_second_truths v1_second_rests v1_second_marks v1_second_numbers]) (bc := [W_Text k b0 o0 v0_codes v0_length c6 c7 c8 c9 r16]) (bc' := [W_Text k b0 o0 v0_codes v0_length r17.1 r17.2.1 r17.2.2 c9 r16]) X hP hD hS (c_Text_keep l D k t b0 o0 v0_codes v0_length c6 c7 c8 c9 r16 j5 r15.1 r17 hg_r17) mv_X6_62 hl [0] [1] 6 ⟨rfl, rfl⟩ ⟨Nat.le_of_ble_eq_true rfl, Nat.le_of_ble_eq_true rfl⟩ rfl rfl rfl rfl rfl rfl rfl (Nat.le_of_ble_eq_true rfl) dX6_readItem_109 (fun H locs hP hD hS => ?_)
      have hP : va_P D vwCl [W_State k b1 o1 v1_form_counters v1_form_bits v1_form_functions v1_form_countersAbove v1_form_functionsAbove v1_form_rounds v1_flows v1_keys v1_first_truths v1_first_rests v1_first_marks v1_first_numbers v1_second_truths v1_second_rests v1_second_marks v1_second_numbers, W_Text k b0 o0 v0_codes v0_length r17.1 r17.2.1 r17.2.2 c9 r16].flatten _ := hP
      have hD : va_D A [W_State k b1 o1 v1_form_counters v1_form_bits v1_form_functions v1_form_countersAbove v1_form_functionsAbove v1_form_rounds v1_flows v1_keys v1_first_truths v1_first_rests v1_first_marks v1_first_numbers v1_second_truths v1_second_rests v1_second_marks v1_second_numbers, W_Text k b0 o0 v0_codes v0_length r17.1 r17.2.1 r17.2.2 c9 r16].flatten := hD
      refine lv_iconst (v := (-1)) hx hb dX6_readItem_112 (by decide) ?_
      obtain ⟨hP, hD⟩ := B_perm (br := [W_Text k b0 o0 v0_codes v0_length r17.1 r17.2.1 r17.2.2 c9 r16, W_State k b1 o1 v1_form_counters v1_form_bits v1_form_functions v1_form_countersAbove v1_form_functionsAbove v1_form_rounds v1_flows v1_keys v1_first_truths v1_first_rests v1_first_marks v1_first_numbers v1_second_truths v1_second_rests v1_second_marks v1_second_numbers]) hP hD [1, 0] rfl rfl
      have hP : va_P D vwCl [W_Text k b0 o0 v0_codes v0_length r17.1 r17.2.1 r17.2.2 c9 r16, W_State k b1 o1 v1_form_counters v1_form_bits v1_form_functions v1_form_countersAbove v1_form_functionsAbove v1_form_rounds v1_flows v1_keys v1_first_truths v1_first_rests v1_first_marks v1_first_numbers v1_second_truths v1_second_rests v1_second_marks v1_second_numbers].flatten _ := hP
      have hD : va_D A [W_Text k b0 o0 v0_codes v0_length r17.1 r17.2.1 r17.2.2 c9 r16, W_State k b1 o1 v1_form_counters v1_form_bits v1_form_functions v1_form_countersAbove v1_form_functionsAbove v1_form_rounds v1_flows v1_keys v1_first_truths v1_first_rests v1_first_marks v1_first_numbers v1_second_truths v1_second_rests v1_second_marks v1_second_numbers].flatten := hD
      have hf := Option.some.inj hf
      subst hf
      exact kiret (v := (-1)) X hP hD hS dX6_readItem_113
    · have hf := ofneg hf hc
      refine lv_iload_n hx hb dX6_readItem_99 rfl (lv_at hl 1 rfl) ?_
      obtain ⟨hP, hD⟩ := B_perm (br := [W_Text k b0 o0 v0_codes v0_length c6 c7 c8 c9 r15.2, W_State k b1 o1 v1_form_counters v1_form_bits v1_form_functions v1_form_countersAbove v1_form_functionsAbove v1_form_rounds v1_flows v1_keys v1_first_truths v1_first_rests v1_first_marks v1_first_numbers v1_second_truths v1_second_rests v1_second_marks v1_second_numbers]) hP hD [1, 0] rfl rfl
      have hP : va_P D vwCl [W_Text k b0 o0 v0_codes v0_length c6 c7 c8 c9 r15.2, W_State k b1 o1 v1_form_counters v1_form_bits v1_form_functions v1_form_countersAbove v1_form_functionsAbove v1_form_rounds v1_flows v1_keys v1_first_truths v1_first_rests v1_first_marks v1_first_numbers v1_second_truths v1_second_rests v1_second_marks v1_second_numbers].flatten _ := hP
      have hD : va_D A [W_Text k b0 o0 v0_codes v0_length c6 c7 c8 c9 r15.2, W_State k b1 o1 v1_form_counters v1_form_bits v1_form_functions v1_form_countersAbove v1_form_functionsAbove v1_form_rounds v1_flows v1_keys v1_first_truths v1_first_rests v1_first_marks v1_first_numbers v1_second_truths v1_second_rests v1_second_marks v1_second_numbers].flatten := hD
      have hf := Option.some.inj hf
      subst hf
      exact kiret (v := r14) X hP hD hS dX6_readItem_100
set_option maxRecDepth 100000 in
set_option maxHeartbeats 1000000 in
theorem c_Text_readItem (l : Launch) (D : va_G) (k : Nat → ClassId) (t : Nat → Nat) (b0 : Nat → Nat) (o0 : Nat) (v0_codes : FI) (v0_length : Int32) (v0_itemKeys : FI) (v0_itemCounts : FI) (v0_items : Int32) (v0_newFlows : Int32) (v0_at : Int32) (b1 : Nat → Nat) (o1 : Nat) (v1_form_counters : Int32) (v1_form_bits : Int32) (v1_form_functions : Int32) (v1_form_countersAbove : Int32) (v1_form_functionsAbove : Int32) (v1_form_rounds : Int32) (v1_flows : Int32) (v1_keys : FI) (v1_first_truths : FJ) (v1_first_rests : FI) (v1_first_marks : FI) (v1_first_numbers : FJ) (v1_second_truths : FJ) (v1_second_rests : FI) (v1_second_marks : FI) (v1_second_numbers : FJ) (N : Nat) (out : Int32 × FI × FI × Int32 × Int32 × Int32) (hf : f_Text_readItem N v0_codes v0_length v0_itemKeys v0_itemCounts v0_items v0_newFlows v0_at v1_flows v1_keys = some out) : CT l D k t yX6_readItem cX6_readItem 5 (some .int) rm_Text_readItem [.ref (b0 o0), .ref (b1 o1)] [W_Text k b0 o0 v0_codes v0_length v0_itemKeys v0_itemCounts v0_items v0_newFlows v0_at, W_State k b1 o1 v1_form_counters v1_form_bits v1_form_functions v1_form_countersAbove v1_form_functionsAbove v1_form_rounds v1_flows v1_keys v1_first_truths v1_first_rests v1_first_marks v1_first_numbers v1_second_truths v1_second_rests v1_second_marks v1_second_numbers].flatten (some (.int out.1)) [W_Text k b0 o0 v0_codes v0_length out.2.1 out.2.2.1 out.2.2.2.1 out.2.2.2.2.1 out.2.2.2.2.2, W_State k b1 o1 v1_form_counters v1_form_bits v1_form_functions v1_form_countersAbove v1_form_functionsAbove v1_form_rounds v1_flows v1_keys v1_first_truths v1_first_rests v1_first_marks v1_first_numbers v1_second_truths v1_second_rests v1_second_marks v1_second_numbers].flatten := by
  refine kofW (by decide) (Nat.le_of_ble_eq_true rfl) ?_
  intro p e s m below meth c A ls X hP hD hS hl
  have hx := X.1.1
  have hb := X.1.2.1
  have hml := X.1.2.2.1
  have hown := X.1.2.2.2.1
  have hts := X.1.2.2.2.2
  have hl : lv_has ls 5 [(0, .ref (b0 o0)), (1, .ref (b1 o1))] := hl
  rw [f_Text_readItem] at hf
  refine lv_aload_n hx hb dX6_readItem_0 rfl (lv_at hl 0 rfl) ?_
  obtain ⟨r1, hg_r1, hf⟩ := ofbind hf
  refine kcV (bs := [W_Text k b0 o0 v0_codes v0_length v0_itemKeys v0_itemCounts v0_items v0_newFlows v0_at, W_State k b1 o1 v1_form_counters v1_form_bits v1_form_functions v1_form_countersAbove v1_form_functionsAbove v1_form_rounds v1_flows v1_keys v1_first_truths v1_first_rests v1_first_marks v1_first_numbers v1_second_truths v1_second_rests v1_second_marks v1_second_numbers]) (br := [W_State k b1 o1 v1_form_counters v1_form_bits v1_form_functions v1_form_countersAbove v1_form_functionsAbove v1_form_rounds v1_flows v1_keys v1_first_truths v1_first_rests v1_first_marks v1_first_numbers v1_second_truths v1_second_rests v1_second_marks v1_second_numbers]) (bc := [W_Text k b0 o0 v0_codes v0_length v0_itemKeys v0_itemCounts v0_items v0_newFlows v0_at]) (bc' := [W_Text k b0 o0 v0_codes v0_length v0_itemKeys v0_itemCounts v0_items v0_newFlows r1]) X hP hD hS (c_Text_skipBlanks l D k t b0 o0 v0_codes v0_length v0_itemKeys v0_itemCounts v0_items v0_newFlows v0_at N r1 hg_r1) mv_X6_42 hl [1] [0] 6 ⟨rfl, rfl⟩ ⟨Nat.le_of_ble_eq_true rfl, Nat.le_of_ble_eq_true rfl⟩ rfl rfl rfl rfl rfl rfl rfl (Nat.le_of_ble_eq_true rfl) dX6_readItem_1 (fun H locs hP hD hS => ?_)
  have hP : va_P D vwCl [W_State k b1 o1 v1_form_counters v1_form_bits v1_form_functions v1_form_countersAbove v1_form_functionsAbove v1_form_rounds v1_flows v1_keys v1_first_truths v1_first_rests v1_first_marks v1_first_numbers v1_second_truths v1_second_rests v1_second_marks v1_second_numbers, W_Text k b0 o0 v0_codes v0_length v0_itemKeys v0_itemCounts v0_items v0_newFlows r1].flatten _ := hP
  have hD : va_D A [W_State k b1 o1 v1_form_counters v1_form_bits v1_form_functions v1_form_countersAbove v1_form_functionsAbove v1_form_rounds v1_flows v1_keys v1_first_truths v1_first_rests v1_first_marks v1_first_numbers v1_second_truths v1_second_rests v1_second_marks v1_second_numbers, W_Text k b0 o0 v0_codes v0_length v0_itemKeys v0_itemCounts v0_items v0_newFlows r1].flatten := hD
  refine lv_aload_n hx hb dX6_readItem_4 rfl (lv_at hl 0 rfl) ?_
  refine kget (v := .int r1) X hP ff_X6_25 13 rfl rfl dX6_readItem_5 ?_
  refine lv_istore_n (lv' := [(2, .int r1), (0, .ref (b0 o0)), (1, .ref (b1 o1))]) hx hb dX6_readItem_8 rfl hl (by decide) rfl (fun ls hl => ?_)
  refine lv_aload_n hx hb dX6_readItem_9 rfl (lv_at hl 1 rfl) ?_
  obtain ⟨r2, hg_r2, hf⟩ := ofbind hf
  refine kcV (bs := [W_State k b1 o1 v1_form_counters v1_form_bits v1_form_functions v1_form_countersAbove v1_form_functionsAbove v1_form_rounds v1_flows v1_keys v1_first_truths v1_first_rests v1_first_marks v1_first_numbers v1_second_truths v1_second_rests v1_second_marks v1_second_numbers, W_Text k b0 o0 v0_codes v0_length v0_itemKeys v0_itemCounts v0_items v0_newFlows r1]) (br := [W_State k b1 o1 v1_form_counters v1_form_bits v1_form_functions v1_form_countersAbove v1_form_functionsAbove v1_form_rounds v1_flows v1_keys v1_first_truths v1_first_rests v1_first_marks v1_first_numbers v1_second_truths v1_second_rests v1_second_marks v1_second_numbers]) (bc := [W_Text k b0 o0 v0_codes v0_length v0_itemKeys v0_itemCounts v0_items v0_newFlows r1]) (bc' := [W_Text k b0 o0 v0_codes v0_length v0_itemKeys v0_itemCounts v0_items v0_newFlows r2.2]) X hP hD hS (c_Text_readNumber l D k t b0 o0 v0_codes v0_length v0_itemKeys v0_itemCounts v0_items v0_newFlows r1 N r2 hg_r2) mv_X6_45 hl [0] [1] 6 ⟨rfl, rfl⟩ ⟨Nat.le_of_ble_eq_true rfl, Nat.le_of_ble_eq_true rfl⟩ rfl rfl rfl rfl rfl rfl rfl (Nat.le_of_ble_eq_true rfl) dX6_readItem_10 (fun H locs hP hD hS => ?_)
  have hP : va_P D vwCl [W_State k b1 o1 v1_form_counters v1_form_bits v1_form_functions v1_form_countersAbove v1_form_functionsAbove v1_form_rounds v1_flows v1_keys v1_first_truths v1_first_rests v1_first_marks v1_first_numbers v1_second_truths v1_second_rests v1_second_marks v1_second_numbers, W_Text k b0 o0 v0_codes v0_length v0_itemKeys v0_itemCounts v0_items v0_newFlows r2.2].flatten _ := hP
  have hD : va_D A [W_State k b1 o1 v1_form_counters v1_form_bits v1_form_functions v1_form_countersAbove v1_form_functionsAbove v1_form_rounds v1_flows v1_keys v1_first_truths v1_first_rests v1_first_marks v1_first_numbers v1_second_truths v1_second_rests v1_second_marks v1_second_numbers, W_Text k b0 o0 v0_codes v0_length v0_itemKeys v0_itemCounts v0_items v0_newFlows r2.2].flatten := hD
  refine lv_istore_n (lv' := [(3, .int r2.1), (2, .int r1), (0, .ref (b0 o0)), (1, .ref (b1 o1))]) hx hb dX6_readItem_13 rfl hl (by decide) rfl (fun ls hl => ?_)
  refine lv_iconst (v := 0) hx hb dX6_readItem_14 (by decide) ?_
  refine lv_iload_n hx hb dX6_readItem_15 rfl (lv_at hl 0 rfl) ?_
  refine lv_sipush (v := 999) hx hb dX6_readItem_16 (by decide) ?_
  obtain ⟨r3, hg_r3, hf⟩ := ofbind hf
  refine kcN (bs := [W_State k b1 o1 v1_form_counters v1_form_bits v1_form_functions v1_form_countersAbove v1_form_functionsAbove v1_form_rounds v1_flows v1_keys v1_first_truths v1_first_rests v1_first_marks v1_first_numbers v1_second_truths v1_second_rests v1_second_marks v1_second_numbers, W_Text k b0 o0 v0_codes v0_length v0_itemKeys v0_itemCounts v0_items v0_newFlows r2.2]) (br := [W_State k b1 o1 v1_form_counters v1_form_bits v1_form_functions v1_form_countersAbove v1_form_functionsAbove v1_form_rounds v1_flows v1_keys v1_first_truths v1_first_rests v1_first_marks v1_first_numbers v1_second_truths v1_second_rests v1_second_marks v1_second_numbers, W_Text k b0 o0 v0_codes v0_length v0_itemKeys v0_itemCounts v0_items v0_newFlows r2.2]) (bc := []) (bc' := []) X hP hD hS (c_CB_isFrom l D k t 0 r2.1 999 r3 hg_r3) mn_X6_49 hl [0, 1] [] ⟨rfl, rfl⟩ ⟨Nat.le_of_ble_eq_true rfl, Nat.le_of_ble_eq_true rfl⟩ rfl rfl rfl rfl (Nat.le_of_ble_eq_true rfl) dX6_readItem_19 (fun H locs hP hD hS => ?_)
  have hP : va_P D vwCl [W_State k b1 o1 v1_form_counters v1_form_bits v1_form_functions v1_form_countersAbove v1_form_functionsAbove v1_form_rounds v1_flows v1_keys v1_first_truths v1_first_rests v1_first_marks v1_first_numbers v1_second_truths v1_second_rests v1_second_marks v1_second_numbers, W_Text k b0 o0 v0_codes v0_length v0_itemKeys v0_itemCounts v0_items v0_newFlows r2.2].flatten _ := hP
  have hD : va_D A [W_State k b1 o1 v1_form_counters v1_form_bits v1_form_functions v1_form_countersAbove v1_form_functionsAbove v1_form_rounds v1_flows v1_keys v1_first_truths v1_first_rests v1_first_marks v1_first_numbers v1_second_truths v1_second_rests v1_second_marks v1_second_numbers, W_Text k b0 o0 v0_codes v0_length v0_itemKeys v0_itemCounts v0_items v0_newFlows r2.2].flatten := hD
  refine lv_if_ne (tgt := 27) hx hb dX6_readItem_22 (by decide) (fun hc => ?_) (fun hc => ?_)
  · have hf := ofneg hf hc
    refine lv_aload_n hx hb dX6_readItem_27 rfl (lv_at hl 2 rfl) ?_
    refine lv_iload_n hx hb dX6_readItem_28 rfl (lv_at hl 0 rfl) ?_
    refine lv_aload_n hx hb dX6_readItem_29 rfl (lv_at hl 3 rfl) ?_
    obtain ⟨r4, hg_r4, hf⟩ := ofbind hf
    refine kcV (bs := [W_State k b1 o1 v1_form_counters v1_form_bits v1_form_functions v1_form_countersAbove v1_form_functionsAbove v1_form_rounds v1_flows v1_keys v1_first_truths v1_first_rests v1_first_marks v1_first_numbers v1_second_truths v1_second_rests v1_second_marks v1_second_numbers, W_Text k b0 o0 v0_codes v0_length v0_itemKeys v0_itemCounts v0_items v0_newFlows r2.2]) (br := []) (bc := [W_Text k b0 o0 v0_codes v0_length v0_itemKeys v0_itemCounts v0_items v0_newFlows r2.2, W_State k b1 o1 v1_form_counters v1_form_bits v1_form_functions v1_form_countersAbove v1_form_functionsAbove v1_form_rounds v1_flows v1_keys v1_first_truths v1_first_rests v1_first_marks v1_first_numbers v1_second_truths v1_second_rests v1_second_marks v1_second_numbers]) (bc' := [W_Text k b0 o0 v0_codes v0_length v0_itemKeys v0_itemCounts v0_items v0_newFlows r2.2, W_State k b1 o1 v1_form_counters v1_form_bits v1_form_functions v1_form_countersAbove v1_form_functionsAbove v1_form_rounds v1_flows v1_keys v1_first_truths v1_first_rests v1_first_marks v1_first_numbers v1_second_truths v1_second_rests v1_second_marks v1_second_numbers]) X hP hD hS (c_Text_isKnown l D k t b0 o0 v0_codes v0_length v0_itemKeys v0_itemCounts v0_items v0_newFlows r2.2 b1 o1 v1_form_counters v1_form_bits v1_form_functions v1_form_countersAbove v1_form_functionsAbove v1_form_rounds v1_flows v1_keys v1_first_truths v1_first_rests v1_first_marks v1_first_numbers v1_second_truths v1_second_rests v1_second_marks v1_second_numbers r2.1 N r4 hg_r4) mv_X6_53 hl [] [1, 0] 6 ⟨rfl, rfl⟩ ⟨Nat.le_of_ble_eq_true rfl, Nat.le_of_ble_eq_true rfl⟩ rfl rfl rfl rfl rfl rfl rfl (Nat.le_of_ble_eq_true rfl) dX6_readItem_30 (fun H locs hP hD hS => ?_)
    have hP : va_P D vwCl [W_Text k b0 o0 v0_codes v0_length v0_itemKeys v0_itemCounts v0_items v0_newFlows r2.2, W_State k b1 o1 v1_form_counters v1_form_bits v1_form_functions v1_form_countersAbove v1_form_functionsAbove v1_form_rounds v1_flows v1_keys v1_first_truths v1_first_rests v1_first_marks v1_first_numbers v1_second_truths v1_second_rests v1_second_marks v1_second_numbers].flatten _ := hP
    have hD : va_D A [W_Text k b0 o0 v0_codes v0_length v0_itemKeys v0_itemCounts v0_items v0_newFlows r2.2, W_State k b1 o1 v1_form_counters v1_form_bits v1_form_functions v1_form_countersAbove v1_form_functionsAbove v1_form_rounds v1_flows v1_keys v1_first_truths v1_first_rests v1_first_marks v1_first_numbers v1_second_truths v1_second_rests v1_second_marks v1_second_numbers].flatten := hD
    refine lv_if_ne (tgt := 62) hx hb dX6_readItem_33 (by decide) (fun hc => ?_) (fun hc => ?_)
    · have hf := ofneg hf hc
      exact w_Text_readItem_J62 X b0 o0 v0_codes v0_length v0_itemKeys v0_itemCounts v0_items v0_newFlows v0_at b1 o1 v1_form_counters v1_form_bits v1_form_functions v1_form_countersAbove v1_form_functionsAbove v1_form_rounds v1_flows v1_keys v1_first_truths v1_first_rests v1_first_marks v1_first_numbers v1_second_truths v1_second_rests v1_second_marks v1_second_numbers N r2.1 v0_itemKeys v0_itemCounts v0_items v0_newFlows r2.2 out _ _ _ hP hD hS (lv_sub hl [2, 0] rfl) hf
    · have hf := ofpos hf hc
      refine lv_aload_n hx hb dX6_readItem_36 rfl (lv_at hl 3 rfl) ?_
      refine kget (v := .int v1_flows) X hP ff_X6_57 4 rfl rfl dX6_readItem_37 ?_
      refine lv_aload_n hx hb dX6_readItem_40 rfl (lv_at hl 2 rfl) ?_
      refine kget (v := .int v0_newFlows) X hP ff_X6_31 0 rfl rfl dX6_readItem_41 ?_
      refine lv_iadd hx hb dX6_readItem_44 ?_
      refine lv_bipush (v := 16) hx hb dX6_readItem_45 (by decide) ?_
      refine lv_icmp_lt (tgt := 52) hx hb dX6_readItem_47 (by decide) (fun hc => ?_) (fun hc => ?_)
      · have hf := ofpos hf hc
        refine lv_aload_n hx hb dX6_readItem_52 rfl (lv_at hl 2 rfl) ?_
        refine lv_dup hx hb dX6_readItem_53 rfl ?_
        refine kget (v := .int v0_newFlows) X hP ff_X6_31 0 rfl rfl dX6_readItem_54 ?_
        refine lv_iconst (v := 1) hx hb dX6_readItem_57 (by decide) ?_
        refine lv_iadd hx hb dX6_readItem_58 ?_
        generalize hy18 : v0_newFlows + 1 = y18 at hf ⊢
        refine kputi (v := y18) X hP hD hS fp_X6_31 0 rfl (Nat.le_of_ble_eq_true rfl) dX6_readItem_59 (fun H locs hP hD hS => ?_)
        have hP : va_P D vwCl [W_Text k b0 o0 v0_codes v0_length v0_itemKeys v0_itemCounts v0_items y18 r2.2, W_State k b1 o1 v1_form_counters v1_form_bits v1_form_functions v1_form_countersAbove v1_form_functionsAbove v1_form_rounds v1_flows v1_keys v1_first_truths v1_first_rests v1_first_marks v1_first_numbers v1_second_truths v1_second_rests v1_second_marks v1_second_numbers].flatten _ := hP
        have hD : va_D A [W_Text k b0 o0 v0_codes v0_length v0_itemKeys v0_itemCounts v0_items y18 r2.2, W_State k b1 o1 v1_form_counters v1_form_bits v1_form_functions v1_form_countersAbove v1_form_functionsAbove v1_form_rounds v1_flows v1_keys v1_first_truths v1_first_rests v1_first_marks v1_first_numbers v1_second_truths v1_second_rests v1_second_marks v1_second_numbers].flatten := hD
        exact w_Text_readItem_J62 X b0 o0 v0_codes v0_length v0_itemKeys v0_itemCounts v0_items v0_newFlows v0_at b1 o1 v1_form_counters v1_form_bits v1_form_functions v1_form_countersAbove v1_form_functionsAbove v1_form_rounds v1_flows v1_keys v1_first_truths v1_first_rests v1_first_marks v1_first_numbers v1_second_truths v1_second_rests v1_second_marks v1_second_numbers N r2.1 v0_itemKeys v0_itemCounts v0_items y18 r2.2 out _ _ _ hP hD hS (lv_sub hl [2, 0] rfl) hf
      · have hf := ofneg hf hc
        refine lv_iload_n hx hb dX6_readItem_50 rfl (lv_at hl 1 rfl) ?_
        have hf := Option.some.inj hf
        subst hf
        exact kiret (v := r1) X hP hD hS dX6_readItem_51
  · have hf := ofpos hf hc
    refine lv_iload_n hx hb dX6_readItem_25 rfl (lv_at hl 1 rfl) ?_
    obtain ⟨hP, hD⟩ := B_perm (br := [W_Text k b0 o0 v0_codes v0_length v0_itemKeys v0_itemCounts v0_items v0_newFlows r2.2, W_State k b1 o1 v1_form_counters v1_form_bits v1_form_functions v1_form_countersAbove v1_form_functionsAbove v1_form_rounds v1_flows v1_keys v1_first_truths v1_first_rests v1_first_marks v1_first_numbers v1_second_truths v1_second_rests v1_second_marks v1_second_numbers]) hP hD [1, 0] rfl rfl
    have hP : va_P D vwCl [W_Text k b0 o0 v0_codes v0_length v0_itemKeys v0_itemCounts v0_items v0_newFlows r2.2, W_State k b1 o1 v1_form_counters v1_form_bits v1_form_functions v1_form_countersAbove v1_form_functionsAbove v1_form_rounds v1_flows v1_keys v1_first_truths v1_first_rests v1_first_marks v1_first_numbers v1_second_truths v1_second_rests v1_second_marks v1_second_numbers].flatten _ := hP
    have hD : va_D A [W_Text k b0 o0 v0_codes v0_length v0_itemKeys v0_itemCounts v0_items v0_newFlows r2.2, W_State k b1 o1 v1_form_counters v1_form_bits v1_form_functions v1_form_countersAbove v1_form_functionsAbove v1_form_rounds v1_flows v1_keys v1_first_truths v1_first_rests v1_first_marks v1_first_numbers v1_second_truths v1_second_rests v1_second_marks v1_second_numbers].flatten := hD
    have hf := Option.some.inj hf
    subst hf
    exact kiret (v := r1) X hP hD hS dX6_readItem_26
/-! Text_read: int read(CounterBraid$State); -/
abbrev rm_Text_read : Room := ({ frames := 3, cells := 0, slots := 0, locals := 69 } : Room)
def f_Text_read_L23 (N : Nat) (v0_codes : FI) (v0_length : Int32) (v1_flows : Int32) (v1_keys : FI) (K73 : Int32 → Int32 → FI → FI → Int32 → Int32 → Int32 → Option (Int32 × FI × FI × Int32 × Int32 × Int32)) : Nat → Int32 → Int32 → FI → FI → Int32 → Int32 → Int32 → Option (Int32 × FI × FI × Int32 × Int32 × Int32)
  | 0, _, _, _, _, _, _, _ => none
  | n + 1, i4, i5, c6, c7, c8, c9, c10 => if 100 ≤ i5 then K73 i4 i5 c6 c7 c8 c9 c10 else if i4 = (-1) then if v0_length ≤ c10 then K73 i4 i5 c6 c7 c8 c9 c10 else (f_Text_skipSign 59 v0_codes v0_length c10).bind (fun r11 => if r11.1 = 0 then f_Text_read_L23 N v0_codes v0_length v1_flows v1_keys K73 n r11.2 (i5 + 1) c6 c7 c8 c9 r11.2 else (f_Text_readItem N v0_codes v0_length c6 c7 c8 c9 r11.2 v1_flows v1_keys).bind (fun r12 => f_Text_read_L23 N v0_codes v0_length v1_flows v1_keys K73 n r12.1 (i5 + 1) r12.2.1 r12.2.2.1 r12.2.2.2.1 r12.2.2.2.2.1 r12.2.2.2.2.2)) else K73 i4 i5 c6 c7 c8 c9 c10
def f_Text_read (N : Nat) (v0_codes : FI) (v0_length : Int32) (v0_itemKeys : FI) (v0_itemCounts : FI) (v0_items : Int32) (v0_newFlows : Int32) (v0_at : Int32) (v1_flows : Int32) (v1_keys : FI) : Option (Int32 × FI × FI × Int32 × Int32 × Int32) := (f_Text_readItem N v0_codes v0_length v0_itemKeys v0_itemCounts 0 0 0 v1_flows v1_keys).bind (fun r1 => f_Text_read_L23 N v0_codes v0_length v1_flows v1_keys (fun i13 i14 c15 c16 c17 c18 c19 => some (i13, c15, c16, c17, c18, c19)) N r1.1 0 r1.2.1 r1.2.2.1 r1.2.2.2.1 r1.2.2.2.2.1 r1.2.2.2.2.2)
abbrev Q_Text_read (below : List Frame) (D : va_G) (k : Nat → ClassId) (A : Nat → Prop) (args : Array Value) (s : State) (b0 : Nat → Nat) (o0 : Nat) (v0_codes : FI) (v0_length : Int32) (v0_itemKeys : FI) (v0_itemCounts : FI) (v0_items : Int32) (v0_newFlows : Int32) (v0_at : Int32) (b1 : Nat → Nat) (o1 : Nat) (v1_form_counters : Int32) (v1_form_bits : Int32) (v1_form_functions : Int32) (v1_form_countersAbove : Int32) (v1_form_functionsAbove : Int32) (v1_form_rounds : Int32) (v1_flows : Int32) (v1_keys : FI) (v1_first_truths : FJ) (v1_first_rests : FI) (v1_first_marks : FI) (v1_first_numbers : FJ) (v1_second_truths : FJ) (v1_second_rests : FI) (v1_second_marks : FI) (v1_second_numbers : FJ) (out : Int32 × FI × FI × Int32 × Int32 × Int32) : State → Prop := MQ below (QW D k A (some (.int out.1)) [W_Text k b0 o0 v0_codes v0_length out.2.1 out.2.2.1 out.2.2.2.1 out.2.2.2.2.1 out.2.2.2.2.2, W_State k b1 o1 v1_form_counters v1_form_bits v1_form_functions v1_form_countersAbove v1_form_functionsAbove v1_form_rounds v1_flows v1_keys v1_first_truths v1_first_rests v1_first_marks v1_first_numbers v1_second_truths v1_second_rests v1_second_marks v1_second_numbers].flatten) args s 0 0 A
set_option maxRecDepth 100000 in
set_option maxHeartbeats 1000000 in
theorem w_Text_read_L23 {p : Program} {l : Launch} {e : Env} {s : State} {m : MethodId} {below : List Frame} {meth : Method} {c : Code} {args : Array Value} {A : Nat → Prop} {D : va_G} {k : Nat → ClassId} {t : Nat → Nat} (X : BX l D k t p s m args meth c cX6_read 4 RX6 (some .int) A) (b0 : Nat → Nat) (o0 : Nat) (v0_codes : FI) (v0_length : Int32) (v0_itemKeys : FI) (v0_itemCounts : FI) (v0_items : Int32) (v0_newFlows : Int32) (v0_at : Int32) (b1 : Nat → Nat) (o1 : Nat) (v1_form_counters : Int32) (v1_form_bits : Int32) (v1_form_functions : Int32) (v1_form_countersAbove : Int32) (v1_form_functionsAbove : Int32) (v1_form_rounds : Int32) (v1_flows : Int32) (v1_keys : FI) (v1_first_truths : FJ) (v1_first_rests : FI) (v1_first_marks : FI) (v1_first_numbers : FJ) (v1_second_truths : FJ) (v1_second_rests : FI) (v1_second_marks : FI) (v1_second_numbers : FJ) (N : Nat) (out : Int32 × FI × FI × Int32 × Int32 × Int32) (K73 : Int32 → Int32 → FI → FI → Int32 → Int32 → Int32 → Option (Int32 × FI × FI × Int32 × Int32 × Int32)) (hK73 : ∀ (i4' : Int32) (i5' : Int32) (c6' : FI) (c7' : FI) (c8' : Int32) (c9' : Int32) (c10' : Int32) (H : Heap) (locs : List Loc) (ls : Array Slot), va_P D vwCl [W_Text k b0 o0 v0_codes v0_length c6' c7' c8' c9' c10', W_State k b1 o1 v1_form_counters v1_form_bits v1_form_functions v1_form_countersAbove v1_form_functionsAbove v1_form_rounds v1_flows v1_keys v1_first_truths v1_first_rests v1_first_marks v1_first_numbers v1_second_truths v1_second_rests v1_second_marks v1_second_numbers].flatten H → va_D A [W_Text k b0 o0 v0_codes v0_length c6' c7' c8' c9' c10', W_State k b1 o1 v1_form_counters v1_form_bits v1_form_functions v1_form_countersAbove v1_form_functionsAbove v1_form_rounds v1_flows v1_keys v1_first_truths v1_first_rests v1_first_marks v1_first_numbers v1_second_truths v1_second_rests v1_second_marks v1_second_numbers].flatten → va_S A s.heap H locs → lv_has ls 4 [(2, .int i4')] → K73 i4' i5' c6' c7' c8' c9' c10' = some out → W p l e rm_Text_read s m args below meth c H locs 0 0 (Q_Text_read below D k A args s b0 o0 v0_codes v0_length v0_itemKeys v0_itemCounts v0_items v0_newFlows v0_at b1 o1 v1_form_counters v1_form_bits v1_form_functions v1_form_countersAbove v1_form_functionsAbove v1_form_rounds v1_flows v1_keys v1_first_truths v1_first_rests v1_first_marks v1_first_numbers v1_second_truths v1_second_rests v1_second_marks v1_second_numbers out) (F0 m 73 ls [])) : ∀ (n : Nat) (i4 : Int32) (i5 : Int32) (c6 : FI) (c7 : FI) (c8 : Int32) (c9 : Int32) (c10 : Int32) (H : Heap) (locs : List Loc) (ls : Array Slot), va_P D vwCl [W_Text k b0 o0 v0_codes v0_length c6 c7 c8 c9 c10, W_State k b1 o1 v1_form_counters v1_form_bits v1_form_functions v1_form_countersAbove v1_form_functionsAbove v1_form_rounds v1_flows v1_keys v1_first_truths v1_first_rests v1_first_marks v1_first_numbers v1_second_truths v1_second_rests v1_second_marks v1_second_numbers].flatten H → va_D A [W_Text k b0 o0 v0_codes v0_length c6 c7 c8 c9 c10, W_State k b1 o1 v1_form_counters v1_form_bits v1_form_functions v1_form_countersAbove v1_form_functionsAbove v1_form_rounds v1_flows v1_keys v1_first_truths v1_first_rests v1_first_marks v1_first_numbers v1_second_truths v1_second_rests v1_second_marks v1_second_numbers].flatten → va_S A s.heap H locs → lv_has ls 4 [(0, .ref (b0 o0)), (1, .ref (b1 o1)), (2, .int i4), (3, .int i5)] → f_Text_read_L23 N v0_codes v0_length v1_flows v1_keys K73 n i4 i5 c6 c7 c8 c9 c10 = some out → W p l e rm_Text_read s m args below meth c H locs 0 0 (Q_Text_read below D k A args s b0 o0 v0_codes v0_length v0_itemKeys v0_itemCounts v0_items v0_newFlows v0_at b1 o1 v1_form_counters v1_form_bits v1_form_functions v1_form_countersAbove v1_form_functionsAbove v1_form_rounds v1_flows v1_keys v1_first_truths v1_first_rests v1_first_marks v1_first_numbers v1_second_truths v1_second_rests v1_second_marks v1_second_numbers out) (F0 m 23 ls []) := by
  have hx := X.1.1
  have hb := X.1.2.1
  have hml := X.1.2.2.1
  have hown := X.1.2.2.2.1
  have hts := X.1.2.2.2.2
  intro n
  induction n with
  | zero =>
    intro i4 i5 c6 c7 c8 c9 c10 H locs ls hP hD hS hl hf
    rw [f_Text_read_L23] at hf
    cases hf
  | succ n ih =>
    intro i4 i5 c6 c7 c8 c9 c10 H locs ls hP hD hS hl hf
    rw [f_Text_read_L23] at hf
    refine lv_iload_n hx hb dX6_read_23 rfl (lv_at hl 3 rfl) ?_
    refine lv_bipush (v := 100) hx hb dX6_read_24 (by decide) ?_
    refine lv_icmp_ge (tgt := 73) hx hb dX6_read_26 (by decide) (fun hc => ?_) (fun hc => ?_)
    · have hf := ofpos hf hc
      exact hK73 i4 i5 c6 c7 c8 c9 c10 _ _ _ hP hD hS (lv_sub hl [2] rfl) hf
    · have hf := ofneg hf hc
      refine lv_iload_n hx hb dX6_read_29 rfl (lv_at hl 2 rfl) ?_
      refine lv_iconst (v := (-1)) hx hb dX6_read_30 (by decide) ?_
      refine lv_icmp_ne (tgt := 73) hx hb dX6_read_31 (by decide) (fun hc => ?_) (fun hc => ?_)
      · have hf := ofneg hf hc
        exact hK73 i4 i5 c6 c7 c8 c9 c10 _ _ _ hP hD hS (lv_sub hl [2] rfl) hf
      · have hf := ofpos hf hc
        refine lv_aload_n hx hb dX6_read_34 rfl (lv_at hl 0 rfl) ?_
        refine kget (v := .int c10) X hP ff_X6_25 0 rfl rfl dX6_read_35 ?_
        refine lv_aload_n hx hb dX6_read_38 rfl (lv_at hl 0 rfl) ?_
        refine kget (v := .int v0_length) X hP ff_X6_21 0 rfl rfl dX6_read_39 ?_
        refine lv_icmp_ge (tgt := 73) hx hb dX6_read_42 (by decide) (fun hc => ?_) (fun hc => ?_)
        · have hf := ofpos hf hc
          exact hK73 i4 i5 c6 c7 c8 c9 c10 _ _ _ hP hD hS (lv_sub hl [2] rfl) hf
        · have hf := ofneg hf hc
          refine lv_aload_n hx hb dX6_read_45 rfl (lv_at hl 0 rfl) ?_
          refine lv_bipush (v := 59) hx hb dX6_read_46 (by decide) ?_
          obtain ⟨r11, hg_r11, hf⟩ := ofbind hf
          refine kcV (bs := [W_Text k b0 o0 v0_codes v0_length c6 c7 c8 c9 c10, W_State k b1 o1 v1_form_counters v1_form_bits v1_form_functions v1_form_countersAbove v1_form_functionsAbove v1_form_rounds v1_flows v1_keys v1_first_truths v1_first_rests v1_first_marks v1_first_numbers v1_second_truths v1_second_rests v1_second_marks v1_second_numbers]) (br := [W_State k b1 o1 v1_form_counters v1_form_bits v1_form_functions v1_form_countersAbove v1_form_functionsAbove v1_form_rounds v1_flows v1_keys v1_first_truths v1_first_rests v1_first_marks v1_first_numbers v1_second_truths v1_second_rests v1_second_marks v1_second_numbers]) (bc := [W_Text k b0 o0 v0_codes v0_length c6 c7 c8 c9 c10]) (bc' := [W_Text k b0 o0 v0_codes v0_length c6 c7 c8 c9 r11.2]) X hP hD hS (c_Text_skipSign l D k t b0 o0 v0_codes v0_length c6 c7 c8 c9 c10 59 r11 hg_r11) mv_X6_38 hl [1] [0] 6 ⟨rfl, rfl⟩ ⟨Nat.le_of_ble_eq_true rfl, Nat.le_of_ble_eq_true rfl⟩ rfl rfl rfl rfl rfl rfl rfl (Nat.le_of_ble_eq_true rfl) dX6_read_48 (fun H locs hP hD hS => ?_)
          have hP : va_P D vwCl [W_State k b1 o1 v1_form_counters v1_form_bits v1_form_functions v1_form_countersAbove v1_form_functionsAbove v1_form_rounds v1_flows v1_keys v1_first_truths v1_first_rests v1_first_marks v1_first_numbers v1_second_truths v1_second_rests v1_second_marks v1_second_numbers, W_Text k b0 o0 v0_codes v0_length c6 c7 c8 c9 r11.2].flatten _ := hP
          have hD : va_D A [W_State k b1 o1 v1_form_counters v1_form_bits v1_form_functions v1_form_countersAbove v1_form_functionsAbove v1_form_rounds v1_flows v1_keys v1_first_truths v1_first_rests v1_first_marks v1_first_numbers v1_second_truths v1_second_rests v1_second_marks v1_second_numbers, W_Text k b0 o0 v0_codes v0_length c6 c7 c8 c9 r11.2].flatten := hD
          refine lv_if_eq (tgt := 62) hx hb dX6_read_51 (by decide) (fun hc => ?_) (fun hc => ?_)
          · have hf := ofpos hf hc
            refine lv_aload_n hx hb dX6_read_62 rfl (lv_at hl 0 rfl) ?_
            refine kget (v := .int r11.2) X hP ff_X6_25 13 rfl rfl dX6_read_63 ?_
            refine lv_istore_n (lv' := [(2, .int r11.2), (0, .ref (b0 o0)), (1, .ref (b1 o1)), (3, .int i5)]) hx hb dX6_read_66 rfl hl (by decide) rfl (fun ls hl => ?_)
            refine lv_iinc (v := i5 + 1) (lv' := [(3, .int (i5 + 1)), (2, .int r11.2), (0, .ref (b0 o0)), (1, .ref (b1 o1))]) hx hb dX6_read_67 hl (k := 3) rfl rfl (by decide) rfl (fun ls hl => ?_)
            refine lv_goto (tgt := 23) hx hb dX6_read_70 (by decide) ?_
            obtain ⟨hP, hD⟩ := B_perm (br := [W_Text k b0 o0 v0_codes v0_length c6 c7 c8 c9 r11.2, W_State k b1 o1 v1_form_counters v1_form_bits v1_form_functions v1_form_countersAbove v1_form_functionsAbove v1_form_rounds v1_flows v1_keys v1_first_truths v1_first_rests v1_first_marks v1_first_numbers v1_second_truths v1_second_rests v1_second_marks v1_second_numbers]) hP hD [1, 0] rfl rfl
            have hP : va_P D vwCl [W_Text k b0 o0 v0_codes v0_length c6 c7 c8 c9 r11.2, W_State k b1 o1 v1_form_counters v1_form_bits v1_form_functions v1_form_countersAbove v1_form_functionsAbove v1_form_rounds v1_flows v1_keys v1_first_truths v1_first_rests v1_first_marks v1_first_numbers v1_second_truths v1_second_rests v1_second_marks v1_second_numbers].flatten _ := hP
            have hD : va_D A [W_Text k b0 o0 v0_codes v0_length c6 c7 c8 c9 r11.2, W_State k b1 o1 v1_form_counters v1_form_bits v1_form_functions v1_form_countersAbove v1_form_functionsAbove v1_form_rounds v1_flows v1_keys v1_first_truths v1_first_rests v1_first_marks v1_first_numbers v1_second_truths v1_second_rests v1_second_marks v1_second_numbers].flatten := hD
            exact ih r11.2 (i5 + 1) c6 c7 c8 c9 r11.2 _ _ _ hP hD hS (lv_sub hl [2, 3, 1, 0] rfl) hf
          · have hf := ofneg hf hc
            refine lv_aload_n hx hb dX6_read_54 rfl (lv_at hl 0 rfl) ?_
            refine lv_aload_n hx hb dX6_read_55 rfl (lv_at hl 1 rfl) ?_
            obtain ⟨r12, hg_r12, hf⟩ := ofbind hf
            refine kcV (bs := [W_State k b1 o1 v1_form_counters v1_form_bits v1_form_functions v1_form_countersAbove v1_form_functionsAbove v1_form_rounds v1_flows v1_keys v1_first_truths v1_first_rests v1_first_marks v1_first_numbers v1_second_truths v1_second_rests v1_second_marks v1_second_numbers, W_Text k b0 o0 v0_codes v0_length c6 c7 c8 c9 r11.2]) (br := []) (bc := [W_Text k b0 o0 v0_codes v0_length c6 c7 c8 c9 r11.2, W_State k b1 o1 v1_form_counters v1_form_bits v1_form_functions v1_form_countersAbove v1_form_functionsAbove v1_form_rounds v1_flows v1_keys v1_first_truths v1_first_rests v1_first_marks v1_first_numbers v1_second_truths v1_second_rests v1_second_marks v1_second_numbers]) (bc' := [W_Text k b0 o0 v0_codes v0_length r12.2.1 r12.2.2.1 r12.2.2.2.1 r12.2.2.2.2.1 r12.2.2.2.2.2, W_State k b1 o1 v1_form_counters v1_form_bits v1_form_functions v1_form_countersAbove v1_form_functionsAbove v1_form_rounds v1_flows v1_keys v1_first_truths v1_first_rests v1_first_marks v1_first_numbers v1_second_truths v1_second_rests v1_second_marks v1_second_numbers]) X hP hD hS (c_Text_readItem l D k t b0 o0 v0_codes v0_length c6 c7 c8 c9 r11.2 b1 o1 v1_form_counters v1_form_bits v1_form_functions v1_form_countersAbove v1_form_functionsAbove v1_form_rounds v1_flows v1_keys v1_first_truths v1_first_rests v1_first_marks v1_first_numbers v1_second_truths v1_second_rests v1_second_marks v1_second_numbers N r12 hg_r12) mv_X6_34 hl [] [1, 0] 6 ⟨rfl, rfl⟩ ⟨Nat.le_of_ble_eq_true rfl, Nat.le_of_ble_eq_true rfl⟩ rfl rfl rfl rfl rfl rfl rfl (Nat.le_of_ble_eq_true rfl) dX6_read_56 (fun H locs hP hD hS => ?_)
            have hP : va_P D vwCl [W_Text k b0 o0 v0_codes v0_length r12.2.1 r12.2.2.1 r12.2.2.2.1 r12.2.2.2.2.1 r12.2.2.2.2.2, W_State k b1 o1 v1_form_counters v1_form_bits v1_form_functions v1_form_countersAbove v1_form_functionsAbove v1_form_rounds v1_flows v1_keys v1_first_truths v1_first_rests v1_first_marks v1_first_numbers v1_second_truths v1_second_rests v1_second_marks v1_second_numbers].flatten _ := hP
            have hD : va_D A [W_Text k b0 o0 v0_codes v0_length r12.2.1 r12.2.2.1 r12.2.2.2.1 r12.2.2.2.2.1 r12.2.2.2.2.2, W_State k b1 o1 v1_form_counters v1_form_bits v1_form_functions v1_form_countersAbove v1_form_functionsAbove v1_form_rounds v1_flows v1_keys v1_first_truths v1_first_rests v1_first_marks v1_first_numbers v1_second_truths v1_second_rests v1_second_marks v1_second_numbers].flatten := hD
            refine lv_goto (tgt := 66) hx hb dX6_read_59 (by decide) ?_
            refine lv_istore_n (lv' := [(2, .int r12.1), (0, .ref (b0 o0)), (1, .ref (b1 o1)), (3, .int i5)]) hx hb dX6_read_66 rfl hl (by decide) rfl (fun ls hl => ?_)
            refine lv_iinc (v := i5 + 1) (lv' := [(3, .int (i5 + 1)), (2, .int r12.1), (0, .ref (b0 o0)), (1, .ref (b1 o1))]) hx hb dX6_read_67 hl (k := 3) rfl rfl (by decide) rfl (fun ls hl => ?_)
            refine lv_goto (tgt := 23) hx hb dX6_read_70 (by decide) ?_
            exact ih r12.1 (i5 + 1) r12.2.1 r12.2.2.1 r12.2.2.2.1 r12.2.2.2.2.1 r12.2.2.2.2.2 _ _ _ hP hD hS (lv_sub hl [2, 3, 1, 0] rfl) hf
set_option maxRecDepth 100000 in
set_option maxHeartbeats 1000000 in
theorem c_Text_read (l : Launch) (D : va_G) (k : Nat → ClassId) (t : Nat → Nat) (b0 : Nat → Nat) (o0 : Nat) (v0_codes : FI) (v0_length : Int32) (v0_itemKeys : FI) (v0_itemCounts : FI) (v0_items : Int32) (v0_newFlows : Int32) (v0_at : Int32) (b1 : Nat → Nat) (o1 : Nat) (v1_form_counters : Int32) (v1_form_bits : Int32) (v1_form_functions : Int32) (v1_form_countersAbove : Int32) (v1_form_functionsAbove : Int32) (v1_form_rounds : Int32) (v1_flows : Int32) (v1_keys : FI) (v1_first_truths : FJ) (v1_first_rests : FI) (v1_first_marks : FI) (v1_first_numbers : FJ) (v1_second_truths : FJ) (v1_second_rests : FI) (v1_second_marks : FI) (v1_second_numbers : FJ) (N : Nat) (out : Int32 × FI × FI × Int32 × Int32 × Int32) (hf : f_Text_read N v0_codes v0_length v0_itemKeys v0_itemCounts v0_items v0_newFlows v0_at v1_flows v1_keys = some out) : CT l D k t yX6_read cX6_read 4 (some .int) rm_Text_read [.ref (b0 o0), .ref (b1 o1)] [W_Text k b0 o0 v0_codes v0_length v0_itemKeys v0_itemCounts v0_items v0_newFlows v0_at, W_State k b1 o1 v1_form_counters v1_form_bits v1_form_functions v1_form_countersAbove v1_form_functionsAbove v1_form_rounds v1_flows v1_keys v1_first_truths v1_first_rests v1_first_marks v1_first_numbers v1_second_truths v1_second_rests v1_second_marks v1_second_numbers].flatten (some (.int out.1)) [W_Text k b0 o0 v0_codes v0_length out.2.1 out.2.2.1 out.2.2.2.1 out.2.2.2.2.1 out.2.2.2.2.2, W_State k b1 o1 v1_form_counters v1_form_bits v1_form_functions v1_form_countersAbove v1_form_functionsAbove v1_form_rounds v1_flows v1_keys v1_first_truths v1_first_rests v1_first_marks v1_first_numbers v1_second_truths v1_second_rests v1_second_marks v1_second_numbers].flatten := by
  refine kofW (by decide) (Nat.le_of_ble_eq_true rfl) ?_
  intro p e s m below meth c A ls X hP hD hS hl
  have hx := X.1.1
  have hb := X.1.2.1
  have hml := X.1.2.2.1
  have hown := X.1.2.2.2.1
  have hts := X.1.2.2.2.2
  have hl : lv_has ls 4 [(0, .ref (b0 o0)), (1, .ref (b1 o1))] := hl
  rw [f_Text_read] at hf
  refine lv_aload_n hx hb dX6_read_0 rfl (lv_at hl 0 rfl) ?_
  refine lv_iconst (v := 0) hx hb dX6_read_1 (by decide) ?_
  refine kputi (v := 0) X hP hD hS fp_X6_25 0 rfl (Nat.le_of_ble_eq_true rfl) dX6_read_2 (fun H locs hP hD hS => ?_)
  have hP : va_P D vwCl [W_Text k b0 o0 v0_codes v0_length v0_itemKeys v0_itemCounts v0_items v0_newFlows 0, W_State k b1 o1 v1_form_counters v1_form_bits v1_form_functions v1_form_countersAbove v1_form_functionsAbove v1_form_rounds v1_flows v1_keys v1_first_truths v1_first_rests v1_first_marks v1_first_numbers v1_second_truths v1_second_rests v1_second_marks v1_second_numbers].flatten _ := hP
  have hD : va_D A [W_Text k b0 o0 v0_codes v0_length v0_itemKeys v0_itemCounts v0_items v0_newFlows 0, W_State k b1 o1 v1_form_counters v1_form_bits v1_form_functions v1_form_countersAbove v1_form_functionsAbove v1_form_rounds v1_flows v1_keys v1_first_truths v1_first_rests v1_first_marks v1_first_numbers v1_second_truths v1_second_rests v1_second_marks v1_second_numbers].flatten := hD
  refine lv_aload_n hx hb dX6_read_5 rfl (lv_at hl 0 rfl) ?_
  refine lv_iconst (v := 0) hx hb dX6_read_6 (by decide) ?_
  refine kputi (v := 0) X hP hD hS fp_X6_28 0 rfl (Nat.le_of_ble_eq_true rfl) dX6_read_7 (fun H locs hP hD hS => ?_)
  have hP : va_P D vwCl [W_Text k b0 o0 v0_codes v0_length v0_itemKeys v0_itemCounts 0 v0_newFlows 0, W_State k b1 o1 v1_form_counters v1_form_bits v1_form_functions v1_form_countersAbove v1_form_functionsAbove v1_form_rounds v1_flows v1_keys v1_first_truths v1_first_rests v1_first_marks v1_first_numbers v1_second_truths v1_second_rests v1_second_marks v1_second_numbers].flatten _ := hP
  have hD : va_D A [W_Text k b0 o0 v0_codes v0_length v0_itemKeys v0_itemCounts 0 v0_newFlows 0, W_State k b1 o1 v1_form_counters v1_form_bits v1_form_functions v1_form_countersAbove v1_form_functionsAbove v1_form_rounds v1_flows v1_keys v1_first_truths v1_first_rests v1_first_marks v1_first_numbers v1_second_truths v1_second_rests v1_second_marks v1_second_numbers].flatten := hD
  refine lv_aload_n hx hb dX6_read_10 rfl (lv_at hl 0 rfl) ?_
  refine lv_iconst (v := 0) hx hb dX6_read_11 (by decide) ?_
  refine kputi (v := 0) X hP hD hS fp_X6_31 0 rfl (Nat.le_of_ble_eq_true rfl) dX6_read_12 (fun H locs hP hD hS => ?_)
  have hP : va_P D vwCl [W_Text k b0 o0 v0_codes v0_length v0_itemKeys v0_itemCounts 0 0 0, W_State k b1 o1 v1_form_counters v1_form_bits v1_form_functions v1_form_countersAbove v1_form_functionsAbove v1_form_rounds v1_flows v1_keys v1_first_truths v1_first_rests v1_first_marks v1_first_numbers v1_second_truths v1_second_rests v1_second_marks v1_second_numbers].flatten _ := hP
  have hD : va_D A [W_Text k b0 o0 v0_codes v0_length v0_itemKeys v0_itemCounts 0 0 0, W_State k b1 o1 v1_form_counters v1_form_bits v1_form_functions v1_form_countersAbove v1_form_functionsAbove v1_form_rounds v1_flows v1_keys v1_first_truths v1_first_rests v1_first_marks v1_first_numbers v1_second_truths v1_second_rests v1_second_marks v1_second_numbers].flatten := hD
  refine lv_aload_n hx hb dX6_read_15 rfl (lv_at hl 0 rfl) ?_
  refine lv_aload_n hx hb dX6_read_16 rfl (lv_at hl 1 rfl) ?_
  obtain ⟨r1, hg_r1, hf⟩ := ofbind hf
  refine kcV (bs := [W_Text k b0 o0 v0_codes v0_length v0_itemKeys v0_itemCounts 0 0 0, W_State k b1 o1 v1_form_counters v1_form_bits v1_form_functions v1_form_countersAbove v1_form_functionsAbove v1_form_rounds v1_flows v1_keys v1_first_truths v1_first_rests v1_first_marks v1_first_numbers v1_second_truths v1_second_rests v1_second_marks v1_second_numbers]) (br := []) (bc := [W_Text k b0 o0 v0_codes v0_length v0_itemKeys v0_itemCounts 0 0 0, W_State k b1 o1 v1_form_counters v1_form_bits v1_form_functions v1_form_countersAbove v1_form_functionsAbove v1_form_rounds v1_flows v1_keys v1_first_truths v1_first_rests v1_first_marks v1_first_numbers v1_second_truths v1_second_rests v1_second_marks v1_second_numbers]) (bc' := [W_Text k b0 o0 v0_codes v0_length r1.2.1 r1.2.2.1 r1.2.2.2.1 r1.2.2.2.2.1 r1.2.2.2.2.2, W_State k b1 o1 v1_form_counters v1_form_bits v1_form_functions v1_form_countersAbove v1_form_functionsAbove v1_form_rounds v1_flows v1_keys v1_first_truths v1_first_rests v1_first_marks v1_first_numbers v1_second_truths v1_second_rests v1_second_marks v1_second_numbers]) X hP hD hS (c_Text_readItem l D k t b0 o0 v0_codes v0_length v0_itemKeys v0_itemCounts 0 0 0 b1 o1 v1_form_counters v1_form_bits v1_form_functions v1_form_countersAbove v1_form_functionsAbove v1_form_rounds v1_flows v1_keys v1_first_truths v1_first_rests v1_first_marks v1_first_numbers v1_second_truths v1_second_rests v1_second_marks v1_second_numbers N r1 hg_r1) mv_X6_34 hl [] [0, 1] 6 ⟨rfl, rfl⟩ ⟨Nat.le_of_ble_eq_true rfl, Nat.le_of_ble_eq_true rfl⟩ rfl rfl rfl rfl rfl rfl rfl (Nat.le_of_ble_eq_true rfl) dX6_read_17 (fun H locs hP hD hS => ?_)
  have hP : va_P D vwCl [W_Text k b0 o0 v0_codes v0_length r1.2.1 r1.2.2.1 r1.2.2.2.1 r1.2.2.2.2.1 r1.2.2.2.2.2, W_State k b1 o1 v1_form_counters v1_form_bits v1_form_functions v1_form_countersAbove v1_form_functionsAbove v1_form_rounds v1_flows v1_keys v1_first_truths v1_first_rests v1_first_marks v1_first_numbers v1_second_truths v1_second_rests v1_second_marks v1_second_numbers].flatten _ := hP
  have hD : va_D A [W_Text k b0 o0 v0_codes v0_length r1.2.1 r1.2.2.1 r1.2.2.2.1 r1.2.2.2.2.1 r1.2.2.2.2.2, W_State k b1 o1 v1_form_counters v1_form_bits v1_form_functions v1_form_countersAbove v1_form_functionsAbove v1_form_rounds v1_flows v1_keys v1_first_truths v1_first_rests v1_first_marks v1_first_numbers v1_second_truths v1_second_rests v1_second_marks v1_second_numbers].flatten := hD
  refine lv_istore_n (lv' := [(2, .int r1.1), (0, .ref (b0 o0)), (1, .ref (b1 o1))]) hx hb dX6_read_20 rfl hl (by decide) rfl (fun ls hl => ?_)
  refine lv_iconst (v := 0) hx hb dX6_read_21 (by decide) ?_
  refine lv_istore_n (lv' := [(3, .int 0), (2, .int r1.1), (0, .ref (b0 o0)), (1, .ref (b1 o1))]) hx hb dX6_read_22 rfl hl (by decide) rfl (fun ls hl => ?_)
  refine w_Text_read_L23 X b0 o0 v0_codes v0_length v0_itemKeys v0_itemCounts v0_items v0_newFlows v0_at b1 o1 v1_form_counters v1_form_bits v1_form_functions v1_form_countersAbove v1_form_functionsAbove v1_form_rounds v1_flows v1_keys v1_first_truths v1_first_rests v1_first_marks v1_first_numbers v1_second_truths v1_second_rests v1_second_marks v1_second_numbers N out _ ?_ N r1.1 0 r1.2.1 r1.2.2.1 r1.2.2.2.1 r1.2.2.2.2.1 r1.2.2.2.2.2 _ _ _ hP hD hS (lv_sub hl [2, 3, 1, 0] rfl) hf
  · intro i13 i14 c15 c16 c17 c18 c19 H locs ls hP hD hS hl hf
    refine lv_iload_n hx hb dX6_read_73 rfl (lv_at hl 0 rfl) ?_
    have hf := Option.some.inj hf
    subst hf
    exact kiret (v := i13) X hP hD hS dX6_read_74
/-! Text_sumFor: private long sumFor(int); -/
abbrev rm_Text_sumFor : Room := ({ frames := 0, cells := 0, slots := 0, locals := 0 } : Room)
def f_Text_sumFor_L5 (i1 : Int32) (v_itemKeys : FI) (v_itemCounts : FI) (v_items : Int32) (K46 : Int64 → Int32 → Option (Int64)) : Nat → Int64 → Int32 → Option (Int64)
  | 0, _, _ => none
  | n + 1, i2, i3 => if v_items ≤ i3 then K46 i2 i3 else if ck i3 50 = true then if (v_itemKeys i3.toNatClampNeg) = i1 then if ck i3 50 = true then f_Text_sumFor_L5 i1 v_itemKeys v_itemCounts v_items K46 n (i2 + ((v_itemCounts i3.toNatClampNeg).toInt64)) (i3 + 1) else none else f_Text_sumFor_L5 i1 v_itemKeys v_itemCounts v_items K46 n (i2 + 0) (i3 + 1) else none
def f_Text_sumFor (N : Nat) (x1 : Int32) (v_itemKeys : FI) (v_itemCounts : FI) (v_items : Int32) : Option (Int64) := f_Text_sumFor_L5 x1 v_itemKeys v_itemCounts v_items (fun i4 i5 => some i4) N 0 0
abbrev Q_Text_sumFor (below : List Frame) (D : va_G) (k : Nat → ClassId) (A : Nat → Prop) (args : Array Value) (s : State) (b0 : Nat → Nat) (o0 : Nat) (v_codes : FI) (v_length : Int32) (v_itemKeys : FI) (v_itemCounts : FI) (v_items : Int32) (v_newFlows : Int32) (v_at : Int32) (out : Int64) : State → Prop := MQ below (QW D k A (some (.long out)) [W_Text k b0 o0 v_codes v_length v_itemKeys v_itemCounts v_items v_newFlows v_at].flatten) args s 0 0 A
set_option maxRecDepth 100000 in
set_option maxHeartbeats 1000000 in
theorem w_Text_sumFor_L5 {p : Program} {l : Launch} {e : Env} {s : State} {m : MethodId} {below : List Frame} {meth : Method} {c : Code} {args : Array Value} {A : Nat → Prop} {D : va_G} {k : Nat → ClassId} {t : Nat → Nat} (X : BX l D k t p s m args meth c cX6_sumFor 5 RX6 (some .long) A) (b0 : Nat → Nat) (o0 : Nat) (v_codes : FI) (v_length : Int32) (v_itemKeys : FI) (v_itemCounts : FI) (v_items : Int32) (v_newFlows : Int32) (v_at : Int32) (N : Nat) (i1 : Int32) (out : Int64) (K46 : Int64 → Int32 → Option (Int64)) (hK46 : ∀ (i2' : Int64) (i3' : Int32) (H : Heap) (locs : List Loc) (ls : Array Slot), va_P D vwCl [W_Text k b0 o0 v_codes v_length v_itemKeys v_itemCounts v_items v_newFlows v_at].flatten H → va_D A [W_Text k b0 o0 v_codes v_length v_itemKeys v_itemCounts v_items v_newFlows v_at].flatten → va_S A s.heap H locs → lv_has ls 5 [(2, .long i2')] → K46 i2' i3' = some out → W p l e rm_Text_sumFor s m args below meth c H locs 0 0 (Q_Text_sumFor below D k A args s b0 o0 v_codes v_length v_itemKeys v_itemCounts v_items v_newFlows v_at out) (F0 m 46 ls [])) : ∀ (n : Nat) (i2 : Int64) (i3 : Int32) (H : Heap) (locs : List Loc) (ls : Array Slot), va_P D vwCl [W_Text k b0 o0 v_codes v_length v_itemKeys v_itemCounts v_items v_newFlows v_at].flatten H → va_D A [W_Text k b0 o0 v_codes v_length v_itemKeys v_itemCounts v_items v_newFlows v_at].flatten → va_S A s.heap H locs → lv_has ls 5 [(0, .ref (b0 o0)), (1, .int i1), (2, .long i2), (4, .int i3)] → f_Text_sumFor_L5 i1 v_itemKeys v_itemCounts v_items K46 n i2 i3 = some out → W p l e rm_Text_sumFor s m args below meth c H locs 0 0 (Q_Text_sumFor below D k A args s b0 o0 v_codes v_length v_itemKeys v_itemCounts v_items v_newFlows v_at out) (F0 m 5 ls []) := by
  have hx := X.1.1
  have hb := X.1.2.1
  have hml := X.1.2.2.1
  have hown := X.1.2.2.2.1
  have hts := X.1.2.2.2.2
  intro n
  induction n with
  | zero =>
    intro i2 i3 H locs ls hP hD hS hl hf
    rw [f_Text_sumFor_L5] at hf
    cases hf
  | succ n ih =>
    intro i2 i3 H locs ls hP hD hS hl hf
    rw [f_Text_sumFor_L5] at hf
    refine lv_iload hx hb dX6_sumFor_5 (lv_at hl 3 rfl) ?_
    refine lv_aload_n hx hb dX6_sumFor_7 rfl (lv_at hl 0 rfl) ?_
    refine kget (v := .int v_items) X hP ff_X6_28 0 rfl rfl dX6_sumFor_8 ?_
    refine lv_icmp_ge (tgt := 46) hx hb dX6_sumFor_11 (by decide) (fun hc => ?_) (fun hc => ?_)
    · have hf := ofpos hf hc
      exact hK46 i2 i3 _ _ _ hP hD hS (lv_sub hl [2] rfl) hf
    · have hf := ofneg hf hc
      refine lv_lload_n hx hb dX6_sumFor_14 rfl (lv_at hl 2 rfl) ?_
      refine lv_aload_n hx hb dX6_sumFor_15 rfl (lv_at hl 0 rfl) ?_
      refine kget (v := .ref (b0 (o0+2))) X hP ff_X6_15 0 rfl rfl dX6_sumFor_16 ?_
      refine lv_iload hx hb dX6_sumFor_19 (lv_at hl 3 rfl) ?_
      obtain ⟨hc, hf⟩ := ofck hf
      refine kiald (f := v_itemKeys) (n := 50) X hP 2 rfl hc dX6_sumFor_21 ?_
      refine lv_iload_n hx hb dX6_sumFor_22 rfl (lv_at hl 1 rfl) ?_
      refine lv_icmp_ne (tgt := 37) hx hb dX6_sumFor_23 (by decide) (fun hc => ?_) (fun hc => ?_)
      · have hf := ofneg hf hc
        refine lv_lconst (v := 0) hx hb dX6_sumFor_37 (by decide) ?_
        refine lv_ladd hx hb dX6_sumFor_38 ?_
        refine lv_lstore_n (lv' := [(2, .long (i2 + 0)), (0, .ref (b0 o0)), (1, .int i1), (4, .int i3)]) hx hb dX6_sumFor_39 rfl hl (by decide) rfl (fun ls hl => ?_)
        refine lv_iinc (v := i3 + 1) (lv' := [(4, .int (i3 + 1)), (2, .long (i2 + 0)), (0, .ref (b0 o0)), (1, .int i1)]) hx hb dX6_sumFor_40 hl (k := 3) rfl rfl (by decide) rfl (fun ls hl => ?_)
        refine lv_goto (tgt := 5) hx hb dX6_sumFor_43 (by decide) ?_
        exact ih (i2 + 0) (i3 + 1) _ _ _ hP hD hS (lv_sub hl [2, 3, 1, 0] rfl) hf
      · have hf := ofpos hf hc
        refine lv_aload_n hx hb dX6_sumFor_26 rfl (lv_at hl 0 rfl) ?_
        refine kget (v := .ref (b0 (o0+3))) X hP ff_X6_18 0 rfl rfl dX6_sumFor_27 ?_
        refine lv_iload hx hb dX6_sumFor_30 (lv_at hl 3 rfl) ?_
        obtain ⟨hc, hf⟩ := ofck hf
        refine kiald (f := v_itemCounts) (n := 50) X hP 3 rfl hc dX6_sumFor_32 ?_
        refine lv_i2l (v := (v_itemCounts i3.toNatClampNeg).toInt64) hx hb dX6_sumFor_33 rfl ?_
        refine lv_goto (tgt := 38) hx hb dX6_sumFor_34 (by decide) ?_
        refine lv_ladd hx hb dX6_sumFor_38 ?_
        refine lv_lstore_n (lv' := [(2, .long (i2 + ((v_itemCounts i3.toNatClampNeg).toInt64))), (0, .ref (b0 o0)), (1, .int i1), (4, .int i3)]) hx hb dX6_sumFor_39 rfl hl (by decide) rfl (fun ls hl => ?_)
        refine lv_iinc (v := i3 + 1) (lv' := [(4, .int (i3 + 1)), (2, .long (i2 + ((v_itemCounts i3.toNatClampNeg).toInt64))), (0, .ref (b0 o0)), (1, .int i1)]) hx hb dX6_sumFor_40 hl (k := 3) rfl rfl (by decide) rfl (fun ls hl => ?_)
        refine lv_goto (tgt := 5) hx hb dX6_sumFor_43 (by decide) ?_
        exact ih (i2 + ((v_itemCounts i3.toNatClampNeg).toInt64)) (i3 + 1) _ _ _ hP hD hS (lv_sub hl [2, 3, 1, 0] rfl) hf
set_option maxRecDepth 100000 in
set_option maxHeartbeats 1000000 in
theorem c_Text_sumFor (l : Launch) (D : va_G) (k : Nat → ClassId) (t : Nat → Nat) (b0 : Nat → Nat) (o0 : Nat) (v_codes : FI) (v_length : Int32) (v_itemKeys : FI) (v_itemCounts : FI) (v_items : Int32) (v_newFlows : Int32) (v_at : Int32) (x1 : Int32) (N : Nat) (out : Int64) (hf : f_Text_sumFor N x1 v_itemKeys v_itemCounts v_items = some out) : CT l D k t yX6_sumFor cX6_sumFor 5 (some .long) rm_Text_sumFor [.ref (b0 o0), .int x1] [W_Text k b0 o0 v_codes v_length v_itemKeys v_itemCounts v_items v_newFlows v_at].flatten (some (.long out)) [W_Text k b0 o0 v_codes v_length v_itemKeys v_itemCounts v_items v_newFlows v_at].flatten := by
  refine kofW (by decide) (Nat.le_of_ble_eq_true rfl) ?_
  intro p e s m below meth c A ls X hP hD hS hl
  have hx := X.1.1
  have hb := X.1.2.1
  have hml := X.1.2.2.1
  have hown := X.1.2.2.2.1
  have hts := X.1.2.2.2.2
  have hl : lv_has ls 5 [(0, .ref (b0 o0)), (1, .int x1)] := hl
  rw [f_Text_sumFor] at hf
  refine lv_lconst (v := 0) hx hb dX6_sumFor_0 (by decide) ?_
  refine lv_lstore_n (lv' := [(2, .long 0), (0, .ref (b0 o0)), (1, .int x1)]) hx hb dX6_sumFor_1 rfl hl (by decide) rfl (fun ls hl => ?_)
  refine lv_iconst (v := 0) hx hb dX6_sumFor_2 (by decide) ?_
  refine lv_istore (lv' := [(4, .int 0), (2, .long 0), (0, .ref (b0 o0)), (1, .int x1)]) hx hb dX6_sumFor_3 hl (by decide) rfl (fun ls hl => ?_)
  refine w_Text_sumFor_L5 X b0 o0 v_codes v_length v_itemKeys v_itemCounts v_items v_newFlows v_at N x1 out _ ?_ N 0 0 _ _ _ hP hD hS (lv_sub hl [2, 3, 1, 0] rfl) hf
  · intro i4 i5 H locs ls hP hD hS hl hf
    refine lv_lload_n hx hb dX6_sumFor_46 rfl (lv_at hl 0 rfl) ?_
    have hf := Option.some.inj hf
    subst hf
    exact klret (v := i4) X hP hD hS dX6_sumFor_47
