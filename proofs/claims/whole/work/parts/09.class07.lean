/-! Text_sumFor: private long sumFor(int); -/
abbrev rm_Text_sumFor : Room := ({ frames := 0, cells := 0, slots := 0, locals := 0 } : Room)
def f_Text_sumFor_L5 (i1 : Int32) (v_itemKeys : FI) (v_itemCounts : FI) (v_items : Int32) (K46 : Int64 → Int32 → Option (Int64)) : Nat → Int64 → Int32 → Option (Int64)
  | 0, _, _ => none
  | n + 1, i2, i3 => if v_items ≤ i3 then K46 i2 i3 else if ck i3 50 = true then if (v_itemKeys i3.toNatClampNeg) = i1 then if ck i3 50 = true then f_Text_sumFor_L5 i1 v_itemKeys v_itemCounts v_items K46 n (i2 + ((v_itemCounts i3.toNatClampNeg).toInt64)) (i3 + 1) else none else f_Text_sumFor_L5 i1 v_itemKeys v_itemCounts v_items K46 n (i2 + 0) (i3 + 1) else none
def f_Text_sumFor (N : Nat) (x1 : Int32) (v_itemKeys : FI) (v_itemCounts : FI) (v_items : Int32) : Option (Int64) := f_Text_sumFor_L5 x1 v_itemKeys v_itemCounts v_items (fun i4 i5 => some i4) N 0 0
abbrev Q_Text_sumFor (below : List Frame) (D : va_G) (k : Nat → ClassId) (A : Nat → Prop) (args : Array Value) (s : State) (b0 : Nat → Nat) (o0 : Nat) (v_codes : FI) (v_length : Int32) (v_itemKeys : FI) (v_itemCounts : FI) (v_items : Int32) (v_newFlows : Int32) (v_at : Int32) (out : Int64) : State → Prop := MQ below (QW D k A (some (.long out)) [W_Text k b0 o0 v_codes v_length v_itemKeys v_itemCounts v_items v_newFlows v_at].flatten) args s 0 0 A
set_option maxRecDepth 100000 in
set_option maxHeartbeats 1000000 in
theorem w_Text_sumFor_L5 {p : Program} {l : Launch} {e : Env} {s : State} {m : MethodId} {below : List Frame} {meth : Method} {c : Code} {args : Array Value} {A : Nat → Prop} {D : va_G} {k : Nat → ClassId} {t : Nat → Nat} (X : BX l D k t p s m args meth c cX6_sumFor 5 RX6 (some .long) A) (b0 : Nat → Nat) (o0 : Nat) (v_codes : FI) (v_length : Int32) (v_itemKeys : FI) (v_itemCounts : FI) (v_items : Int32) (v_newFlows : Int32) (v_at : Int32) (N : Nat) (i1 : Int32) (out : Int64) (K46 : Int64 → Int32 → Option (Int64)) (hK46 : ∀ (i2' : Int64) (i3' : Int32) (H : Heap) (locs : List Loc) (ls : Array Slot), va_P D vwCl [W_Text k b0 o0 v_codes v_length v_itemKeys v_itemCounts v_items v_newFlows v_at].flatten H → va_D A [W_Text k b0 o0 v_codes v_length v_itemKeys v_itemCounts v_items v_newFlows v_at].flatten → va_S A s.heap H locs → lv_has ls 5 [(2, .long i2')] → K46 i2' i3' = some out → W p l e rm_Text_sumFor s m args below meth c H locs 0 0 (Q_Text_sumFor below D k A args s b0 o0 v_codes v_length v_itemKeys v_itemCounts v_items v_newFlows v_at out) (F0 m 46 ls [])) : ∀ (n : Nat) (i2 : Int64) (i3 : Int32) (H : Heap) (locs : List Loc) (ls : Array Slot), va_P D vwCl [W_Text k b0 o0 v_codes v_length v_itemKeys v_itemCounts v_items v_newFlows v_at].flatten H → va_D A [W_Text k b0 o0 v_codes v_length v_itemKeys v_itemCounts v_items v_newFlows v_at].flatten → va_S A s.heap H locs → lv_has ls 5 [(0, .ref (b0 o0)), (1, .int i1), (2, .long i2), (4, .int i3)] → f_Text_sumFor_L5 i1 v_itemKeys v_itemCounts v_items K46 n i2 i3 = some out → W p l e rm_Text_sumFor s m args below meth c H locs 0 0 (Q_Text_sumFor below D k A args s b0 o0 v_codes v_length v_itemKeys v_itemCounts v_items v_newFlows v_at out) (F0 m 5 ls []) := by
  have hx := X.1.1
  have hb := X.1.2.1
  have hml := X.1.2.2.1
  have hown := X.1.2.2.2.1
  have hts := X.1.2.2.2.2
  intro n
  induction n with
  | zero =>
    intro i2 i3 H locs ls hP hD hS hl hf
    rw [f_Text_sumFor_L5] at hf
    cases hf
  | succ n ih =>
    intro i2 i3 H locs ls hP hD hS hl hf
    rw [f_Text_sumFor_L5] at hf
    refine lv_iload hx hb dX6_sumFor_5 (lv_at hl 3 rfl) ?_
    refine lv_aload_n hx hb dX6_sumFor_7 rfl (lv_at hl 0 rfl) ?_
    refine kget (v := .int v_items) X hP ff_X6_28 0 rfl rfl dX6_sumFor_8 ?_
    refine lv_icmp_ge (tgt := 46) hx hb dX6_sumFor_11 (by decide) (fun hc => ?_) (fun hc => ?_)
    · have hf := ofpos hf hc
      exact hK46 i2 i3 _ _ _ hP hD hS (lv_sub hl [2] rfl) hf
    · have hf := ofneg hf hc
      refine lv_lload_n hx hb dX6_sumFor_14 rfl (lv_at hl 2 rfl) ?_
      refine lv_aload_n hx hb dX6_sumFor_15 rfl (lv_at hl 0 rfl) ?_
      refine kget (v := .ref (b0 (o0+2))) X hP ff_X6_15 0 rfl rfl dX6_sumFor_16 ?_
      refine lv_iload hx hb dX6_sumFor_19 (lv_at hl 3 rfl) ?_
      obtain ⟨hc, hf⟩ := ofck hf
      refine kiald (f := v_itemKeys) (n := 50) X hP 2 rfl hc dX6_sumFor_21 ?_
      refine lv_iload_n hx hb dX6_sumFor_22 rfl (lv_at hl 1 rfl) ?_
      refine lv_icmp_ne (tgt := 37) hx hb dX6_sumFor_23 (by decide) (fun hc => ?_) (fun hc => ?_)
      · have hf := ofneg hf hc
        refine lv_lconst (v := 0) hx hb dX6_sumFor_37 (by decide) ?_
        refine lv_ladd hx hb dX6_sumFor_38 ?_
        refine lv_lstore_n (lv' := [(2, .long (i2 + 0)), (0, .ref (b0 o0)), (1, .int i1), (4, .int i3)]) hx hb dX6_sumFor_39 rfl hl (by decide) rfl (fun ls hl => ?_)
        refine lv_iinc (v := i3 + 1) (lv' := [(4, .int (i3 + 1)), (2, .long (i2 + 0)), (0, .ref (b0 o0)), (1, .int i1)]) hx hb dX6_sumFor_40 hl (k := 3) rfl rfl (by decide) rfl (fun ls hl => ?_)
        refine lv_goto (tgt := 5) hx hb dX6_sumFor_43 (by decide) ?_
        exact ih (i2 + 0) (i3 + 1) _ _ _ hP hD hS (lv_sub hl [2, 3, 1, 0] rfl) hf
      · have hf := ofpos hf hc
        refine lv_aload_n hx hb dX6_sumFor_26 rfl (lv_at hl 0 rfl) ?_
        refine kget (v := .ref (b0 (o0+3))) X hP ff_X6_18 0 rfl rfl dX6_sumFor_27 ?_
        refine lv_iload hx hb dX6_sumFor_30 (lv_at hl 3 rfl) ?_
        obtain ⟨hc, hf⟩ := ofck hf
        refine kiald (f := v_itemCounts) (n := 50) X hP 3 rfl hc dX6_sumFor_32 ?_
        refine lv_i2l (v := (v_itemCounts i3.toNatClampNeg).toInt64) hx hb dX6_sumFor_33 rfl ?_
        refine lv_goto (tgt := 38) hx hb dX6_sumFor_34 (by decide) ?_
        refine lv_ladd hx hb dX6_sumFor_38 ?_
        refine lv_lstore_n (lv' := [(2, .long (i2 + ((v_itemCounts i3.toNatClampNeg).toInt64))), (0, .ref (b0 o0)), (1, .int i1), (4, .int i3)]) hx hb dX6_sumFor_39 rfl hl (by decide) rfl (fun ls hl => ?_)
        refine lv_iinc (v := i3 + 1) (lv' := [(4, .int (i3 + 1)), (2, .long (i2 + ((v_itemCounts i3.toNatClampNeg).toInt64))), (0, .ref (b0 o0)), (1, .int i1)]) hx hb dX6_sumFor_40 hl (k := 3) rfl rfl (by decide) rfl (fun ls hl => ?_)
        refine lv_goto (tgt := 5) hx hb dX6_sumFor_43 (by decide) ?_
        exact ih (i2 + ((v_itemCounts i3.toNatClampNeg).toInt64)) (i3 + 1) _ _ _ hP hD hS (lv_sub hl [2, 3, 1, 0] rfl) hf
set_option maxRecDepth 100000 in
set_option maxHeartbeats 1000000 in
theorem c_Text_sumFor (l : Launch) (D : va_G) (k : Nat → ClassId) (t : Nat → Nat) (b0 : Nat → Nat) (o0 : Nat) (v_codes : FI) (v_length : Int32) (v_itemKeys : FI) (v_itemCounts : FI) (v_items : Int32) (v_newFlows : Int32) (v_at : Int32) (x1 : Int32) (N : Nat) (out : Int64) (hf : f_Text_sumFor N x1 v_itemKeys v_itemCounts v_items = some out) : CT l D k t yX6_sumFor cX6_sumFor 5 (some .long) rm_Text_sumFor [.ref (b0 o0), .int x1] [W_Text k b0 o0 v_codes v_length v_itemKeys v_itemCounts v_items v_newFlows v_at].flatten (some (.long out)) [W_Text k b0 o0 v_codes v_length v_itemKeys v_itemCounts v_items v_newFlows v_at].flatten := by
  refine kofW (by decide) (Nat.le_of_ble_eq_true rfl) ?_
  intro p e s m below meth c A ls X hP hD hS hl
  have hx := X.1.1
  have hb := X.1.2.1
  have hml := X.1.2.2.1
  have hown := X.1.2.2.2.1
  have hts := X.1.2.2.2.2
  have hl : lv_has ls 5 [(0, .ref (b0 o0)), (1, .int x1)] := hl
  rw [f_Text_sumFor] at hf
  refine lv_lconst (v := 0) hx hb dX6_sumFor_0 (by decide) ?_
  refine lv_lstore_n (lv' := [(2, .long 0), (0, .ref (b0 o0)), (1, .int x1)]) hx hb dX6_sumFor_1 rfl hl (by decide) rfl (fun ls hl => ?_)
  refine lv_iconst (v := 0) hx hb dX6_sumFor_2 (by decide) ?_
  refine lv_istore (lv' := [(4, .int 0), (2, .long 0), (0, .ref (b0 o0)), (1, .int x1)]) hx hb dX6_sumFor_3 hl (by decide) rfl (fun ls hl => ?_)
  refine w_Text_sumFor_L5 X b0 o0 v_codes v_length v_itemKeys v_itemCounts v_items v_newFlows v_at N x1 out _ ?_ N 0 0 _ _ _ hP hD hS (lv_sub hl [2, 3, 1, 0] rfl) hf
  · intro i4 i5 H locs ls hP hD hS hl hf
    refine lv_lload_n hx hb dX6_sumFor_46 rfl (lv_at hl 0 rfl) ?_
    have hf := Option.some.inj hf
    subst hf
    exact klret (v := i4) X hP hD hS dX6_sumFor_47
/-! Text_fits: boolean fits(CounterBraid$State); -/
abbrev rm_Text_fits : Room := ({ frames := 1, cells := 0, slots := 0, locals := 24 } : Room)
def f_Text_fits_L2 (N : Nat) (v0_itemKeys : FI) (v0_itemCounts : FI) (v0_items : Int32) (v1_flows : Int32) (v1_keys : FI) (v1_first_truths : FJ) (v1_second_truths : FJ) (K62 : Int32 → Option (Int32)) : Nat → Int32 → Option (Int32)
  | 0, _ => none
  | n + 1, i4 => if v0_items ≤ i4 then K62 i4 else if ck i4 50 = true then (f_State_find N (v0_itemKeys i4.toNatClampNeg) v1_flows v1_keys).bind (fun r5 => if r5 = (-1) then f_Text_fits_L2 N v0_itemKeys v0_itemCounts v0_items v1_flows v1_keys v1_first_truths v1_second_truths K62 n (i4 + 1) else if (0 : Int32) = 0 then if ck r5 16 = true then if ck i4 50 = true then (f_Text_sumFor N (v0_itemKeys i4.toNatClampNeg) v0_itemKeys v0_itemCounts v0_items).bind (fun r6 => if ((v1_first_truths r5.toNatClampNeg) + r6) ≤ 1000000000 then f_Text_fits_L2 N v0_itemKeys v0_itemCounts v0_items v1_flows v1_keys v1_first_truths v1_second_truths K62 n (i4 + 1) else some 0) else none else none else if ck r5 16 = true then if ck i4 50 = true then (f_Text_sumFor N (v0_itemKeys i4.toNatClampNeg) v0_itemKeys v0_itemCounts v0_items).bind (fun r7 => if ((v1_second_truths r5.toNatClampNeg) + r7) ≤ 1000000000 then f_Text_fits_L2 N v0_itemKeys v0_itemCounts v0_items v1_flows v1_keys v1_first_truths v1_second_truths K62 n (i4 + 1) else some 0) else none else none) else none
def f_Text_fits (N : Nat) (v0_itemKeys : FI) (v0_itemCounts : FI) (v0_items : Int32) (v1_flows : Int32) (v1_keys : FI) (v1_first_truths : FJ) (v1_second_truths : FJ) : Option (Int32) := f_Text_fits_L2 N v0_itemKeys v0_itemCounts v0_items v1_flows v1_keys v1_first_truths v1_second_truths (fun i8 => some 1) N 0
abbrev Q_Text_fits (below : List Frame) (D : va_G) (k : Nat → ClassId) (A : Nat → Prop) (args : Array Value) (s : State) (b0 : Nat → Nat) (o0 : Nat) (v0_codes : FI) (v0_length : Int32) (v0_itemKeys : FI) (v0_itemCounts : FI) (v0_items : Int32) (v0_newFlows : Int32) (v0_at : Int32) (b1 : Nat → Nat) (o1 : Nat) (v1_form_counters : Int32) (v1_form_bits : Int32) (v1_form_functions : Int32) (v1_form_countersAbove : Int32) (v1_form_functionsAbove : Int32) (v1_form_rounds : Int32) (v1_flows : Int32) (v1_keys : FI) (v1_first_truths : FJ) (v1_first_rests : FI) (v1_first_marks : FI) (v1_first_numbers : FJ) (v1_second_truths : FJ) (v1_second_rests : FI) (v1_second_marks : FI) (v1_second_numbers : FJ) (out : Int32) : State → Prop := MQ below (QW D k A (some (.int out)) [W_Text k b0 o0 v0_codes v0_length v0_itemKeys v0_itemCounts v0_items v0_newFlows v0_at, W_State k b1 o1 v1_form_counters v1_form_bits v1_form_functions v1_form_countersAbove v1_form_functionsAbove v1_form_rounds v1_flows v1_keys v1_first_truths v1_first_rests v1_first_marks v1_first_numbers v1_second_truths v1_second_rests v1_second_marks v1_second_numbers].flatten) args s 0 0 A
set_option maxRecDepth 100000 in
set_option maxHeartbeats 1000000 in
theorem w_Text_fits_L2 {p : Program} {l : Launch} {e : Env} {s : State} {m : MethodId} {below : List Frame} {meth : Method} {c : Code} {args : Array Value} {A : Nat → Prop} {D : va_G} {k : Nat → ClassId} {t : Nat → Nat} (X : BX l D k t p s m args meth c cX6_fits 4 RX6 (some .boolean) A) (b0 : Nat → Nat) (o0 : Nat) (v0_codes : FI) (v0_length : Int32) (v0_itemKeys : FI) (v0_itemCounts : FI) (v0_items : Int32) (v0_newFlows : Int32) (v0_at : Int32) (b1 : Nat → Nat) (o1 : Nat) (v1_form_counters : Int32) (v1_form_bits : Int32) (v1_form_functions : Int32) (v1_form_countersAbove : Int32) (v1_form_functionsAbove : Int32) (v1_form_rounds : Int32) (v1_flows : Int32) (v1_keys : FI) (v1_first_truths : FJ) (v1_first_rests : FI) (v1_first_marks : FI) (v1_first_numbers : FJ) (v1_second_truths : FJ) (v1_second_rests : FI) (v1_second_marks : FI) (v1_second_numbers : FJ) (N : Nat) (out : Int32) (K62 : Int32 → Option (Int32)) (hK62 : ∀ (i4' : Int32) (H : Heap) (locs : List Loc) (ls : Array Slot), va_P D vwCl [W_Text k b0 o0 v0_codes v0_length v0_itemKeys v0_itemCounts v0_items v0_newFlows v0_at, W_State k b1 o1 v1_form_counters v1_form_bits v1_form_functions v1_form_countersAbove v1_form_functionsAbove v1_form_rounds v1_flows v1_keys v1_first_truths v1_first_rests v1_first_marks v1_first_numbers v1_second_truths v1_second_rests v1_second_marks v1_second_numbers].flatten H → va_D A [W_Text k b0 o0 v0_codes v0_length v0_itemKeys v0_itemCounts v0_items v0_newFlows v0_at, W_State k b1 o1 v1_form_counters v1_form_bits v1_form_functions v1_form_countersAbove v1_form_functionsAbove v1_form_rounds v1_flows v1_keys v1_first_truths v1_first_rests v1_first_marks v1_first_numbers v1_second_truths v1_second_rests v1_second_marks v1_second_numbers].flatten → va_S A s.heap H locs → lv_has ls 4 [] → K62 i4' = some out → W p l e rm_Text_fits s m args below meth c H locs 0 0 (Q_Text_fits below D k A args s b0 o0 v0_codes v0_length v0_itemKeys v0_itemCounts v0_items v0_newFlows v0_at b1 o1 v1_form_counters v1_form_bits v1_form_functions v1_form_countersAbove v1_form_functionsAbove v1_form_rounds v1_flows v1_keys v1_first_truths v1_first_rests v1_first_marks v1_first_numbers v1_second_truths v1_second_rests v1_second_marks v1_second_numbers out) (F0 m 62 ls [])) : ∀ (n : Nat) (i4 : Int32) (H : Heap) (locs : List Loc) (ls : Array Slot), va_P D vwCl [W_Text k b0 o0 v0_codes v0_length v0_itemKeys v0_itemCounts v0_items v0_newFlows v0_at, W_State k b1 o1 v1_form_counters v1_form_bits v1_form_functions v1_form_countersAbove v1_form_functionsAbove v1_form_rounds v1_flows v1_keys v1_first_truths v1_first_rests v1_first_marks v1_first_numbers v1_second_truths v1_second_rests v1_second_marks v1_second_numbers].flatten H → va_D A [W_Text k b0 o0 v0_codes v0_length v0_itemKeys v0_itemCounts v0_items v0_newFlows v0_at, W_State k b1 o1 v1_form_counters v1_form_bits v1_form_functions v1_form_countersAbove v1_form_functionsAbove v1_form_rounds v1_flows v1_keys v1_first_truths v1_first_rests v1_first_marks v1_first_numbers v1_second_truths v1_second_rests v1_second_marks v1_second_numbers].flatten → va_S A s.heap H locs → lv_has ls 4 [(0, .ref (b0 o0)), (1, .ref (b1 o1)), (2, .int i4)] → f_Text_fits_L2 N v0_itemKeys v0_itemCounts v0_items v1_flows v1_keys v1_first_truths v1_second_truths K62 n i4 = some out → W p l e rm_Text_fits s m args below meth c H locs 0 0 (Q_Text_fits below D k A args s b0 o0 v0_codes v0_length v0_itemKeys v0_itemCounts v0_items v0_newFlows v0_at b1 o1 v1_form_counters v1_form_bits v1_form_functions v1_form_countersAbove v1_form_functionsAbove v1_form_rounds v1_flows v1_keys v1_first_truths v1_first_rests v1_first_marks v1_first_numbers v1_second_truths v1_second_rests v1_second_marks v1_second_numbers out) (F0 m 2 ls []) := by
  have hx := X.1.1
  have hb := X.1.2.1
  have hml := X.1.2.2.1
  have hown := X.1.2.2.2.1
  have hts := X.1.2.2.2.2
  intro n
  induction n with
  | zero =>
    intro i4 H locs ls hP hD hS hl hf
    rw [f_Text_fits_L2] at hf
    cases hf
  | succ n ih =>
    intro i4 H locs ls hP hD hS hl hf
    rw [f_Text_fits_L2] at hf
    refine lv_iload_n hx hb dX6_fits_2 rfl (lv_at hl 2 rfl) ?_
    refine lv_aload_n hx hb dX6_fits_3 rfl (lv_at hl 0 rfl) ?_
    refine kget (v := .int v0_items) X hP ff_X6_28 0 rfl rfl dX6_fits_4 ?_
    refine lv_icmp_ge (tgt := 62) hx hb dX6_fits_7 (by decide) (fun hc => ?_) (fun hc => ?_)
    · have hf := ofpos hf hc
      exact hK62 i4 _ _ _ hP hD hS (lv_sub hl [] rfl) hf
    · have hf := ofneg hf hc
      refine lv_aload_n hx hb dX6_fits_10 rfl (lv_at hl 1 rfl) ?_
      refine lv_aload_n hx hb dX6_fits_11 rfl (lv_at hl 0 rfl) ?_
      refine kget (v := .ref (b0 (o0+2))) X hP ff_X6_15 0 rfl rfl dX6_fits_12 ?_
      refine lv_iload_n hx hb dX6_fits_15 rfl (lv_at hl 2 rfl) ?_
      obtain ⟨hc, hf⟩ := ofck hf
      refine kiald (f := v0_itemKeys) (n := 50) X hP 2 rfl hc dX6_fits_16 ?_
      obtain ⟨r5, hg_r5, hf⟩ := ofbind hf
      refine kcV (bs := [W_Text k b0 o0 v0_codes v0_length v0_itemKeys v0_itemCounts v0_items v0_newFlows v0_at, W_State k b1 o1 v1_form_counters v1_form_bits v1_form_functions v1_form_countersAbove v1_form_functionsAbove v1_form_rounds v1_flows v1_keys v1_first_truths v1_first_rests v1_first_marks v1_first_numbers v1_second_truths v1_second_rests v1_second_marks v1_second_numbers]) (br := [W_Text k b0 o0 v0_codes v0_length v0_itemKeys v0_itemCounts v0_items v0_newFlows v0_at]) (bc := [W_State k b1 o1 v1_form_counters v1_form_bits v1_form_functions v1_form_countersAbove v1_form_functionsAbove v1_form_rounds v1_flows v1_keys v1_first_truths v1_first_rests v1_first_marks v1_first_numbers v1_second_truths v1_second_rests v1_second_marks v1_second_numbers]) (bc' := [W_State k b1 o1 v1_form_counters v1_form_bits v1_form_functions v1_form_countersAbove v1_form_functionsAbove v1_form_rounds v1_flows v1_keys v1_first_truths v1_first_rests v1_first_marks v1_first_numbers v1_second_truths v1_second_rests v1_second_marks v1_second_numbers]) X hP hD hS (c_State_find l D k t b1 o1 v1_form_counters v1_form_bits v1_form_functions v1_form_countersAbove v1_form_functionsAbove v1_form_rounds v1_flows v1_keys v1_first_truths v1_first_rests v1_first_marks v1_first_numbers v1_second_truths v1_second_rests v1_second_marks v1_second_numbers (v0_itemKeys i4.toNatClampNeg) N r5 hg_r5) mv_X6_66 hl [0] [1] 5 ⟨rfl, rfl⟩ ⟨Nat.le_of_ble_eq_true rfl, Nat.le_of_ble_eq_true rfl⟩ rfl rfl rfl rfl rfl rfl rfl (Nat.le_of_ble_eq_true rfl) dX6_fits_17 (fun H locs hP hD hS => ?_)
      have hP : va_P D vwCl [W_Text k b0 o0 v0_codes v0_length v0_itemKeys v0_itemCounts v0_items v0_newFlows v0_at, W_State k b1 o1 v1_form_counters v1_form_bits v1_form_functions v1_form_countersAbove v1_form_functionsAbove v1_form_rounds v1_flows v1_keys v1_first_truths v1_first_rests v1_first_marks v1_first_numbers v1_second_truths v1_second_rests v1_second_marks v1_second_numbers].flatten _ := hP
      have hD : va_D A [W_Text k b0 o0 v0_codes v0_length v0_itemKeys v0_itemCounts v0_items v0_newFlows v0_at, W_State k b1 o1 v1_form_counters v1_form_bits v1_form_functions v1_form_countersAbove v1_form_functionsAbove v1_form_rounds v1_flows v1_keys v1_first_truths v1_first_rests v1_first_marks v1_first_numbers v1_second_truths v1_second_rests v1_second_marks v1_second_numbers].flatten := hD
      refine lv_istore_n (lv' := [(3, .int r5), (0, .ref (b0 o0)), (1, .ref (b1 o1)), (2, .int i4)]) hx hb dX6_fits_20 rfl hl (by decide) rfl (fun ls hl => ?_)
      refine lv_iload_n hx hb dX6_fits_21 rfl (lv_at hl 0 rfl) ?_
      refine lv_iconst (v := (-1)) hx hb dX6_fits_22 (by decide) ?_
      refine lv_icmp_eq (tgt := 56) hx hb dX6_fits_23 (by decide) (fun hc => ?_) (fun hc => ?_)
      · have hf := ofpos hf hc
        refine lv_iinc (v := i4 + 1) (lv' := [(2, .int (i4 + 1)), (3, .int r5), (0, .ref (b0 o0)), (1, .ref (b1 o1))]) hx hb dX6_fits_56 hl (k := 3) rfl rfl (by decide) rfl (fun ls hl => ?_)
        refine lv_goto (tgt := 2) hx hb dX6_fits_59 (by decide) ?_
        exact ih (i4 + 1) _ _ _ hP hD hS (lv_sub hl [2, 3, 0] rfl) hf
      · have hf := ofneg hf hc
        refine lv_aload_n hx hb dX6_fits_26 rfl (lv_at hl 2 rfl) ?_
        refine lv_iconst (v := 0) hx hb dX6_fits_27 (by decide) ?_
        by_cases hc : (0 : Int32) = 0
        · have hf := ofpos hf hc
          refine kcV (bs := [W_Text k b0 o0 v0_codes v0_length v0_itemKeys v0_itemCounts v0_items v0_newFlows v0_at, W_State k b1 o1 v1_form_counters v1_form_bits v1_form_functions v1_form_countersAbove v1_form_functionsAbove v1_form_rounds v1_flows v1_keys v1_first_truths v1_first_rests v1_first_marks v1_first_numbers v1_second_truths v1_second_rests v1_second_marks v1_second_numbers]) (br := [W_Text k b0 o0 v0_codes v0_length v0_itemKeys v0_itemCounts v0_items v0_newFlows v0_at]) (bc := [W_State k b1 o1 v1_form_counters v1_form_bits v1_form_functions v1_form_countersAbove v1_form_functionsAbove v1_form_rounds v1_flows v1_keys v1_first_truths v1_first_rests v1_first_marks v1_first_numbers v1_second_truths v1_second_rests v1_second_marks v1_second_numbers]) (bc' := [W_State k b1 o1 v1_form_counters v1_form_bits v1_form_functions v1_form_countersAbove v1_form_functionsAbove v1_form_rounds v1_flows v1_keys v1_first_truths v1_first_rests v1_first_marks v1_first_numbers v1_second_truths v1_second_rests v1_second_marks v1_second_numbers]) X hP hD hS (c_State_braid_t l D k t b1 o1 v1_form_counters v1_form_bits v1_form_functions v1_form_countersAbove v1_form_functionsAbove v1_form_rounds v1_flows v1_keys v1_first_truths v1_first_rests v1_first_marks v1_first_numbers v1_second_truths v1_second_rests v1_second_marks v1_second_numbers (0 : Int32) hc) mv_X6_70 hl [0] [1] 5 ⟨rfl, rfl⟩ ⟨Nat.le_of_ble_eq_true rfl, Nat.le_of_ble_eq_true rfl⟩ rfl rfl rfl rfl rfl rfl rfl (Nat.le_of_ble_eq_true rfl) dX6_fits_28 (fun H locs hP hD hS => ?_)
          have hP : va_P D vwCl [W_Text k b0 o0 v0_codes v0_length v0_itemKeys v0_itemCounts v0_items v0_newFlows v0_at, W_State k b1 o1 v1_form_counters v1_form_bits v1_form_functions v1_form_countersAbove v1_form_functionsAbove v1_form_rounds v1_flows v1_keys v1_first_truths v1_first_rests v1_first_marks v1_first_numbers v1_second_truths v1_second_rests v1_second_marks v1_second_numbers].flatten _ := hP
          have hD : va_D A [W_Text k b0 o0 v0_codes v0_length v0_itemKeys v0_itemCounts v0_items v0_newFlows v0_at, W_State k b1 o1 v1_form_counters v1_form_bits v1_form_functions v1_form_countersAbove v1_form_functionsAbove v1_form_rounds v1_flows v1_keys v1_first_truths v1_first_rests v1_first_marks v1_first_numbers v1_second_truths v1_second_rests v1_second_marks v1_second_numbers].flatten := hD
          refine kget (v := .ref (b1 (o1+4))) X hP ff_X6_74 7 rfl rfl dX6_fits_31 ?_
          refine lv_iload_n hx hb dX6_fits_34 rfl (lv_at hl 0 rfl) ?_
          obtain ⟨hc, hf⟩ := ofck hf
          refine klald (f := v1_first_truths) (n := 16) X hP 8 rfl hc dX6_fits_35 ?_
          refine lv_aload_n hx hb dX6_fits_36 rfl (lv_at hl 1 rfl) ?_
          refine lv_aload_n hx hb dX6_fits_37 rfl (lv_at hl 1 rfl) ?_
          refine kget (v := .ref (b0 (o0+2))) X hP ff_X6_15 0 rfl rfl dX6_fits_38 ?_
          refine lv_iload_n hx hb dX6_fits_41 rfl (lv_at hl 3 rfl) ?_
          obtain ⟨hc, hf⟩ := ofck hf
          refine kiald (f := v0_itemKeys) (n := 50) X hP 2 rfl hc dX6_fits_42 ?_
          obtain ⟨r6, hg_r6, hf⟩ := ofbind hf
          refine kcV (bs := [W_Text k b0 o0 v0_codes v0_length v0_itemKeys v0_itemCounts v0_items v0_newFlows v0_at, W_State k b1 o1 v1_form_counters v1_form_bits v1_form_functions v1_form_countersAbove v1_form_functionsAbove v1_form_rounds v1_flows v1_keys v1_first_truths v1_first_rests v1_first_marks v1_first_numbers v1_second_truths v1_second_rests v1_second_marks v1_second_numbers]) (br := [W_State k b1 o1 v1_form_counters v1_form_bits v1_form_functions v1_form_countersAbove v1_form_functionsAbove v1_form_rounds v1_flows v1_keys v1_first_truths v1_first_rests v1_first_marks v1_first_numbers v1_second_truths v1_second_rests v1_second_marks v1_second_numbers]) (bc := [W_Text k b0 o0 v0_codes v0_length v0_itemKeys v0_itemCounts v0_items v0_newFlows v0_at]) (bc' := [W_Text k b0 o0 v0_codes v0_length v0_itemKeys v0_itemCounts v0_items v0_newFlows v0_at]) X hP hD hS (c_Text_sumFor l D k t b0 o0 v0_codes v0_length v0_itemKeys v0_itemCounts v0_items v0_newFlows v0_at (v0_itemKeys i4.toNatClampNeg) N r6 hg_r6) mv_X6_80 hl [1] [0] 6 ⟨rfl, rfl⟩ ⟨Nat.le_of_ble_eq_true rfl, Nat.le_of_ble_eq_true rfl⟩ rfl rfl rfl rfl rfl rfl rfl (Nat.le_of_ble_eq_true rfl) dX6_fits_43 (fun H locs hP hD hS => ?_)
          have hP : va_P D vwCl [W_State k b1 o1 v1_form_counters v1_form_bits v1_form_functions v1_form_countersAbove v1_form_functionsAbove v1_form_rounds v1_flows v1_keys v1_first_truths v1_first_rests v1_first_marks v1_first_numbers v1_second_truths v1_second_rests v1_second_marks v1_second_numbers, W_Text k b0 o0 v0_codes v0_length v0_itemKeys v0_itemCounts v0_items v0_newFlows v0_at].flatten _ := hP
          have hD : va_D A [W_State k b1 o1 v1_form_counters v1_form_bits v1_form_functions v1_form_countersAbove v1_form_functionsAbove v1_form_rounds v1_flows v1_keys v1_first_truths v1_first_rests v1_first_marks v1_first_numbers v1_second_truths v1_second_rests v1_second_marks v1_second_numbers, W_Text k b0 o0 v0_codes v0_length v0_itemKeys v0_itemCounts v0_items v0_newFlows v0_at].flatten := hD
          refine lv_ladd hx hb dX6_fits_46 ?_
          refine lv_ldc2 (v := 1000000000) hx hb hown (hts _ kc_X6_84) dX6_fits_47 ?_
          refine W.lcmp hx hb dX6_fits_50 ?_
          refine lv_if_le (tgt := 56) hx hb dX6_fits_51 (by decide) (fun hc => ?_) (fun hc => ?_)
          · have hc := lgm.mp hc
            have hf := ofpos hf hc
            refine lv_iinc (v := i4 + 1) (lv' := [(2, .int (i4 + 1)), (3, .int r5), (0, .ref (b0 o0)), (1, .ref (b1 o1))]) hx hb dX6_fits_56 hl (k := 3) rfl rfl (by decide) rfl (fun ls hl => ?_)
            refine lv_goto (tgt := 2) hx hb dX6_fits_59 (by decide) ?_
            obtain ⟨hP, hD⟩ := B_perm (br := [W_Text k b0 o0 v0_codes v0_length v0_itemKeys v0_itemCounts v0_items v0_newFlows v0_at, W_State k b1 o1 v1_form_counters v1_form_bits v1_form_functions v1_form_countersAbove v1_form_functionsAbove v1_form_rounds v1_flows v1_keys v1_first_truths v1_first_rests v1_first_marks v1_first_numbers v1_second_truths v1_second_rests v1_second_marks v1_second_numbers]) hP hD [1, 0] rfl rfl
            have hP : va_P D vwCl [W_Text k b0 o0 v0_codes v0_length v0_itemKeys v0_itemCounts v0_items v0_newFlows v0_at, W_State k b1 o1 v1_form_counters v1_form_bits v1_form_functions v1_form_countersAbove v1_form_functionsAbove v1_form_rounds v1_flows v1_keys v1_first_truths v1_first_rests v1_first_marks v1_first_numbers v1_second_truths v1_second_rests v1_second_marks v1_second_numbers].flatten _ := hP
            have hD : va_D A [W_Text k b0 o0 v0_codes v0_length v0_itemKeys v0_itemCounts v0_items v0_newFlows v0_at, W_State k b1 o1 v1_form_counters v1_form_bits v1_form_functions v1_form_countersAbove v1_form_functionsAbove v1_form_rounds v1_flows v1_keys v1_first_truths v1_first_rests v1_first_marks v1_first_numbers v1_second_truths v1_second_rests v1_second_marks v1_second_numbers].flatten := hD
            exact ih (i4 + 1) _ _ _ hP hD hS (lv_sub hl [2, 3, 0] rfl) hf
          · have hc := fun z => hc (lgm.mpr z)
            have hf := ofneg hf hc
            refine lv_iconst (v := 0) hx hb dX6_fits_54 (by decide) ?_
            obtain ⟨hP, hD⟩ := B_perm (br := [W_Text k b0 o0 v0_codes v0_length v0_itemKeys v0_itemCounts v0_items v0_newFlows v0_at, W_State k b1 o1 v1_form_counters v1_form_bits v1_form_functions v1_form_countersAbove v1_form_functionsAbove v1_form_rounds v1_flows v1_keys v1_first_truths v1_first_rests v1_first_marks v1_first_numbers v1_second_truths v1_second_rests v1_second_marks v1_second_numbers]) hP hD [1, 0] rfl rfl
            have hP : va_P D vwCl [W_Text k b0 o0 v0_codes v0_length v0_itemKeys v0_itemCounts v0_items v0_newFlows v0_at, W_State k b1 o1 v1_form_counters v1_form_bits v1_form_functions v1_form_countersAbove v1_form_functionsAbove v1_form_rounds v1_flows v1_keys v1_first_truths v1_first_rests v1_first_marks v1_first_numbers v1_second_truths v1_second_rests v1_second_marks v1_second_numbers].flatten _ := hP
            have hD : va_D A [W_Text k b0 o0 v0_codes v0_length v0_itemKeys v0_itemCounts v0_items v0_newFlows v0_at, W_State k b1 o1 v1_form_counters v1_form_bits v1_form_functions v1_form_countersAbove v1_form_functionsAbove v1_form_rounds v1_flows v1_keys v1_first_truths v1_first_rests v1_first_marks v1_first_numbers v1_second_truths v1_second_rests v1_second_marks v1_second_numbers].flatten := hD
            have hf := Option.some.inj hf
            subst hf
            exact kzret (v := 0) X hP hD hS rfl dX6_fits_55
        · have hf := ofneg hf hc
          refine kcV (bs := [W_Text k b0 o0 v0_codes v0_length v0_itemKeys v0_itemCounts v0_items v0_newFlows v0_at, W_State k b1 o1 v1_form_counters v1_form_bits v1_form_functions v1_form_countersAbove v1_form_functionsAbove v1_form_rounds v1_flows v1_keys v1_first_truths v1_first_rests v1_first_marks v1_first_numbers v1_second_truths v1_second_rests v1_second_marks v1_second_numbers]) (br := [W_Text k b0 o0 v0_codes v0_length v0_itemKeys v0_itemCounts v0_items v0_newFlows v0_at]) (bc := [W_State k b1 o1 v1_form_counters v1_form_bits v1_form_functions v1_form_countersAbove v1_form_functionsAbove v1_form_rounds v1_flows v1_keys v1_first_truths v1_first_rests v1_first_marks v1_first_numbers v1_second_truths v1_second_rests v1_second_marks v1_second_numbers]) (bc' := [W_State k b1 o1 v1_form_counters v1_form_bits v1_form_functions v1_form_countersAbove v1_form_functionsAbove v1_form_rounds v1_flows v1_keys v1_first_truths v1_first_rests v1_first_marks v1_first_numbers v1_second_truths v1_second_rests v1_second_marks v1_second_numbers]) X hP hD hS (c_State_braid_e l D k t b1 o1 v1_form_counters v1_form_bits v1_form_functions v1_form_countersAbove v1_form_functionsAbove v1_form_rounds v1_flows v1_keys v1_first_truths v1_first_rests v1_first_marks v1_first_numbers v1_second_truths v1_second_rests v1_second_marks v1_second_numbers (0 : Int32) hc) mv_X6_70 hl [0] [1] 5 ⟨rfl, rfl⟩ ⟨Nat.le_of_ble_eq_true rfl, Nat.le_of_ble_eq_true rfl⟩ rfl rfl rfl rfl rfl rfl rfl (Nat.le_of_ble_eq_true rfl) dX6_fits_28 (fun H locs hP hD hS => ?_)
          have hP : va_P D vwCl [W_Text k b0 o0 v0_codes v0_length v0_itemKeys v0_itemCounts v0_items v0_newFlows v0_at, W_State k b1 o1 v1_form_counters v1_form_bits v1_form_functions v1_form_countersAbove v1_form_functionsAbove v1_form_rounds v1_flows v1_keys v1_first_truths v1_first_rests v1_first_marks v1_first_numbers v1_second_truths v1_second_rests v1_second_marks v1_second_numbers].flatten _ := hP
          have hD : va_D A [W_Text k b0 o0 v0_codes v0_length v0_itemKeys v0_itemCounts v0_items v0_newFlows v0_at, W_State k b1 o1 v1_form_counters v1_form_bits v1_form_functions v1_form_countersAbove v1_form_functionsAbove v1_form_rounds v1_flows v1_keys v1_first_truths v1_first_rests v1_first_marks v1_first_numbers v1_second_truths v1_second_rests v1_second_marks v1_second_numbers].flatten := hD
          refine kget (v := .ref (b1 (o1+9))) X hP ff_X6_74 12 rfl rfl dX6_fits_31 ?_
          refine lv_iload_n hx hb dX6_fits_34 rfl (lv_at hl 0 rfl) ?_
          obtain ⟨hc, hf⟩ := ofck hf
          refine klald (f := v1_second_truths) (n := 16) X hP 13 rfl hc dX6_fits_35 ?_
          refine lv_aload_n hx hb dX6_fits_36 rfl (lv_at hl 1 rfl) ?_
          refine lv_aload_n hx hb dX6_fits_37 rfl (lv_at hl 1 rfl) ?_
          refine kget (v := .ref (b0 (o0+2))) X hP ff_X6_15 0 rfl rfl dX6_fits_38 ?_
          refine lv_iload_n hx hb dX6_fits_41 rfl (lv_at hl 3 rfl) ?_
          obtain ⟨hc, hf⟩ := ofck hf
          refine kiald (f := v0_itemKeys) (n := 50) X hP 2 rfl hc dX6_fits_42 ?_
          obtain ⟨r7, hg_r7, hf⟩ := ofbind hf
          refine kcV (bs := [W_Text k b0 o0 v0_codes v0_length v0_itemKeys v0_itemCounts v0_items v0_newFlows v0_at, W_State k b1 o1 v1_form_counters v1_form_bits v1_form_functions v1_form_countersAbove v1_form_functionsAbove v1_form_rounds v1_flows v1_keys v1_first_truths v1_first_rests v1_first_marks v1_first_numbers v1_second_truths v1_second_rests v1_second_marks v1_second_numbers]) (br := [W_State k b1 o1 v1_form_counters v1_form_bits v1_form_functions v1_form_countersAbove v1_form_functionsAbove v1_form_rounds v1_flows v1_keys v1_first_truths v1_first_rests v1_first_marks v1_first_numbers v1_second_truths v1_second_rests v1_second_marks v1_second_numbers]) (bc := [W_Text k b0 o0 v0_codes v0_length v0_itemKeys v0_itemCounts v0_items v0_newFlows v0_at]) (bc' := [W_Text k b0 o0 v0_codes v0_length v0_itemKeys v0_itemCounts v0_items v0_newFlows v0_at]) X hP hD hS (c_Text_sumFor l D k t b0 o0 v0_codes v0_length v0_itemKeys v0_itemCounts v0_items v0_newFlows v0_at (v0_itemKeys i4.toNatClampNeg) N r7 hg_r7) mv_X6_80 hl [1] [0] 6 ⟨rfl, rfl⟩ ⟨Nat.le_of_ble_eq_true rfl, Nat.le_of_ble_eq_true rfl⟩ rfl rfl rfl rfl rfl rfl rfl (Nat.le_of_ble_eq_true rfl) dX6_fits_43 (fun H locs hP hD hS => ?_)
          have hP : va_P D vwCl [W_State k b1 o1 v1_form_counters v1_form_bits v1_form_functions v1_form_countersAbove v1_form_functionsAbove v1_form_rounds v1_flows v1_keys v1_first_truths v1_first_rests v1_first_marks v1_first_numbers v1_second_truths v1_second_rests v1_second_marks v1_second_numbers, W_Text k b0 o0 v0_codes v0_length v0_itemKeys v0_itemCounts v0_items v0_newFlows v0_at].flatten _ := hP
          have hD : va_D A [W_State k b1 o1 v1_form_counters v1_form_bits v1_form_functions v1_form_countersAbove v1_form_functionsAbove v1_form_rounds v1_flows v1_keys v1_first_truths v1_first_rests v1_first_marks v1_first_numbers v1_second_truths v1_second_rests v1_second_marks v1_second_numbers, W_Text k b0 o0 v0_codes v0_length v0_itemKeys v0_itemCounts v0_items v0_newFlows v0_at].flatten := hD
          refine lv_ladd hx hb dX6_fits_46 ?_
          refine lv_ldc2 (v := 1000000000) hx hb hown (hts _ kc_X6_84) dX6_fits_47 ?_
          refine W.lcmp hx hb dX6_fits_50 ?_
          refine lv_if_le (tgt := 56) hx hb dX6_fits_51 (by decide) (fun hc => ?_) (fun hc => ?_)
          · have hc := lgm.mp hc
            have hf := ofpos hf hc
            refine lv_iinc (v := i4 + 1) (lv' := [(2, .int (i4 + 1)), (3, .int r5), (0, .ref (b0 o0)), (1, .ref (b1 o1))]) hx hb dX6_fits_56 hl (k := 3) rfl rfl (by decide) rfl (fun ls hl => ?_)
            refine lv_goto (tgt := 2) hx hb dX6_fits_59 (by decide) ?_
            obtain ⟨hP, hD⟩ := B_perm (br := [W_Text k b0 o0 v0_codes v0_length v0_itemKeys v0_itemCounts v0_items v0_newFlows v0_at, W_State k b1 o1 v1_form_counters v1_form_bits v1_form_functions v1_form_countersAbove v1_form_functionsAbove v1_form_rounds v1_flows v1_keys v1_first_truths v1_first_rests v1_first_marks v1_first_numbers v1_second_truths v1_second_rests v1_second_marks v1_second_numbers]) hP hD [1, 0] rfl rfl
            have hP : va_P D vwCl [W_Text k b0 o0 v0_codes v0_length v0_itemKeys v0_itemCounts v0_items v0_newFlows v0_at, W_State k b1 o1 v1_form_counters v1_form_bits v1_form_functions v1_form_countersAbove v1_form_functionsAbove v1_form_rounds v1_flows v1_keys v1_first_truths v1_first_rests v1_first_marks v1_first_numbers v1_second_truths v1_second_rests v1_second_marks v1_second_numbers].flatten _ := hP
            have hD : va_D A [W_Text k b0 o0 v0_codes v0_length v0_itemKeys v0_itemCounts v0_items v0_newFlows v0_at, W_State k b1 o1 v1_form_counters v1_form_bits v1_form_functions v1_form_countersAbove v1_form_functionsAbove v1_form_rounds v1_flows v1_keys v1_first_truths v1_first_rests v1_first_marks v1_first_numbers v1_second_truths v1_second_rests v1_second_marks v1_second_numbers].flatten := hD
            exact ih (i4 + 1) _ _ _ hP hD hS (lv_sub hl [2, 3, 0] rfl) hf
          · have hc := fun z => hc (lgm.mpr z)
            have hf := ofneg hf hc
            refine lv_iconst (v := 0) hx hb dX6_fits_54 (by decide) ?_
            obtain ⟨hP, hD⟩ := B_perm (br := [W_Text k b0 o0 v0_codes v0_length v0_itemKeys v0_itemCounts v0_items v0_newFlows v0_at, W_State k b1 o1 v1_form_counters v1_form_bits v1_form_functions v1_form_countersAbove v1_form_functionsAbove v1_form_rounds v1_flows v1_keys v1_first_truths v1_first_rests v1_first_marks v1_first_numbers v1_second_truths v1_second_rests v1_second_marks v1_second_numbers]) hP hD [1, 0] rfl rfl
            have hP : va_P D vwCl [W_Text k b0 o0 v0_codes v0_length v0_itemKeys v0_itemCounts v0_items v0_newFlows v0_at, W_State k b1 o1 v1_form_counters v1_form_bits v1_form_functions v1_form_countersAbove v1_form_functionsAbove v1_form_rounds v1_flows v1_keys v1_first_truths v1_first_rests v1_first_marks v1_first_numbers v1_second_truths v1_second_rests v1_second_marks v1_second_numbers].flatten _ := hP
            have hD : va_D A [W_Text k b0 o0 v0_codes v0_length v0_itemKeys v0_itemCounts v0_items v0_newFlows v0_at, W_State k b1 o1 v1_form_counters v1_form_bits v1_form_functions v1_form_countersAbove v1_form_functionsAbove v1_form_rounds v1_flows v1_keys v1_first_truths v1_first_rests v1_first_marks v1_first_numbers v1_second_truths v1_second_rests v1_second_marks v1_second_numbers].flatten := hD
            have hf := Option.some.inj hf
            subst hf
            exact kzret (v := 0) X hP hD hS rfl dX6_fits_55
set_option maxRecDepth 100000 in
set_option maxHeartbeats 1000000 in
theorem c_Text_fits (l : Launch) (D : va_G) (k : Nat → ClassId) (t : Nat → Nat) (b0 : Nat → Nat) (o0 : Nat) (v0_codes : FI) (v0_length : Int32) (v0_itemKeys : FI) (v0_itemCounts : FI) (v0_items : Int32) (v0_newFlows : Int32) (v0_at : Int32) (b1 : Nat → Nat) (o1 : Nat) (v1_form_counters : Int32) (v1_form_bits : Int32) (v1_form_functions : Int32) (v1_form_countersAbove : Int32) (v1_form_functionsAbove : Int32) (v1_form_rounds : Int32) (v1_flows : Int32) (v1_keys : FI) (v1_first_truths : FJ) (v1_first_rests : FI) (v1_first_marks : FI) (v1_first_numbers : FJ) (v1_second_truths : FJ) (v1_second_rests : FI) (v1_second_marks : FI) (v1_second_numbers : FJ) (N : Nat) (out : Int32) (hf : f_Text_fits N v0_itemKeys v0_itemCounts v0_items v1_flows v1_keys v1_first_truths v1_second_truths = some out) : CT l D k t yX6_fits cX6_fits 4 (some .boolean) rm_Text_fits [.ref (b0 o0), .ref (b1 o1)] [W_Text k b0 o0 v0_codes v0_length v0_itemKeys v0_itemCounts v0_items v0_newFlows v0_at, W_State k b1 o1 v1_form_counters v1_form_bits v1_form_functions v1_form_countersAbove v1_form_functionsAbove v1_form_rounds v1_flows v1_keys v1_first_truths v1_first_rests v1_first_marks v1_first_numbers v1_second_truths v1_second_rests v1_second_marks v1_second_numbers].flatten (some (.int out)) [W_Text k b0 o0 v0_codes v0_length v0_itemKeys v0_itemCounts v0_items v0_newFlows v0_at, W_State k b1 o1 v1_form_counters v1_form_bits v1_form_functions v1_form_countersAbove v1_form_functionsAbove v1_form_rounds v1_flows v1_keys v1_first_truths v1_first_rests v1_first_marks v1_first_numbers v1_second_truths v1_second_rests v1_second_marks v1_second_numbers].flatten := by
  refine kofW (by decide) (Nat.le_of_ble_eq_true rfl) ?_
  intro p e s m below meth c A ls X hP hD hS hl
  have hx := X.1.1
  have hb := X.1.2.1
  have hml := X.1.2.2.1
  have hown := X.1.2.2.2.1
  have hts := X.1.2.2.2.2
  have hl : lv_has ls 4 [(0, .ref (b0 o0)), (1, .ref (b1 o1))] := hl
  rw [f_Text_fits] at hf
  refine lv_iconst (v := 0) hx hb dX6_fits_0 (by decide) ?_
  refine lv_istore_n (lv' := [(2, .int 0), (0, .ref (b0 o0)), (1, .ref (b1 o1))]) hx hb dX6_fits_1 rfl hl (by decide) rfl (fun ls hl => ?_)
  refine w_Text_fits_L2 X b0 o0 v0_codes v0_length v0_itemKeys v0_itemCounts v0_items v0_newFlows v0_at b1 o1 v1_form_counters v1_form_bits v1_form_functions v1_form_countersAbove v1_form_functionsAbove v1_form_rounds v1_flows v1_keys v1_first_truths v1_first_rests v1_first_marks v1_first_numbers v1_second_truths v1_second_rests v1_second_marks v1_second_numbers N out _ ?_ N 0 _ _ _ hP hD hS (lv_sub hl [1, 2, 0] rfl) hf
  · intro i8 H locs ls hP hD hS hl hf
    refine lv_iconst (v := 1) hx hb dX6_fits_62 (by decide) ?_
    have hf := Option.some.inj hf
    subst hf
    exact kzret (v := 1) X hP hD hS rfl dX6_fits_63
