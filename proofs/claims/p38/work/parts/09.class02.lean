/-! Braid_empty: void empty(); -/
abbrev rm_Braid_empty : Room := ({ frames := 1, cells := 0, slots := 0, locals := 24 } : Room)
set_option maxRecDepth 100000 in
set_option maxHeartbeats 1000000 in
theorem c_Braid_empty (l : Launch) (D : va_G) (k : Nat → ClassId) (t : Nat → Nat) (b0 : Nat → Nat) (o0 : Nat) (v_truths : FJ) (v_rests : FI) (v_marks : FI) (v_numbers : FJ) : CT l D k t yX1_empty cX1_empty 1 none rm_Braid_empty [.ref (b0 o0)] [W_Braid k b0 o0 v_truths v_rests v_marks v_numbers].flatten none [W_Braid k b0 o0 (fun _ => 0) (fun _ => 0) (fun _ => 0) (fun _ => 0)].flatten := by
  refine kofW (by decide) (Nat.le_of_ble_eq_true rfl) ?_
  intro p e s m below meth c A ls X hP hD hS hl
  have hx := X.1.1
  have hb := X.1.2.1
  have hml := X.1.2.2.1
  have hown := X.1.2.2.2.1
  have hts := X.1.2.2.2.2
  have hl : lv_has ls 1 [(0, .ref (b0 o0))] := hl
  refine lv_aload_n hx hb dX1_empty_0 rfl (lv_at hl 0 rfl) ?_
  refine kget (v := .ref (b0 (o0+1))) X hP ff_X1_9 0 rfl rfl dX1_empty_1 ?_
  refine lv_lconst (v := 0) hx hb dX1_empty_4 (by decide) ?_
  have hP : va_P D vwCl [[((b0 o0), .inr (1, [.ref (b0 (o0+1)), .ref (b0 (o0+2)), .ref (b0 (o0+3)), .ref (b0 (o0+4))]))], [((b0 (o0+1)), .inl (k 1, 16, .inr (.inl v_truths)))], [((b0 (o0+2)), .inl (k 0, 24, .inl v_rests))], [((b0 (o0+3)), .inl (k 0, 24, .inl v_marks))], [((b0 (o0+4)), .inl (k 1, 16, .inr (.inl v_numbers)))]].flatten _ := hP
  have hD : va_D A [[((b0 o0), .inr (1, [.ref (b0 (o0+1)), .ref (b0 (o0+2)), .ref (b0 (o0+3)), .ref (b0 (o0+4))]))], [((b0 (o0+1)), .inl (k 1, 16, .inr (.inl v_truths)))], [((b0 (o0+2)), .inl (k 0, 24, .inl v_rests))], [((b0 (o0+3)), .inl (k 0, 24, .inl v_marks))], [((b0 (o0+4)), .inl (k 1, 16, .inr (.inl v_numbers)))]].flatten := hD
  refine kcS (bs := [[((b0 o0), .inr (1, [.ref (b0 (o0+1)), .ref (b0 (o0+2)), .ref (b0 (o0+3)), .ref (b0 (o0+4))]))], [((b0 (o0+1)), .inl (k 1, 16, .inr (.inl v_truths)))], [((b0 (o0+2)), .inl (k 0, 24, .inl v_rests))], [((b0 (o0+3)), .inl (k 0, 24, .inl v_marks))], [((b0 (o0+4)), .inl (k 1, 16, .inr (.inl v_numbers)))]]) (br := [[((b0 o0), .inr (1, [.ref (b0 (o0+1)), .ref (b0 (o0+2)), .ref (b0 (o0+3)), .ref (b0 (o0+4))]))], [((b0 (o0+2)), .inl (k 0, 24, .inl v_rests))], [((b0 (o0+3)), .inl (k 0, 24, .inl v_marks))], [((b0 (o0+4)), .inl (k 1, 16, .inr (.inl v_numbers)))]]) (bc := [[((b0 (o0+1)), .inl (k 1, 16, .inr (.inl v_truths)))]]) (bc' := [[((b0 (o0+1)), .inl (k 1, 16, .inr (.inl (fun _ => 0))))]]) X hP hD hS (c_fillJ l D k t (b0 (o0+1)) 16 v_truths 0) ms_X1_31 hl [0, 2, 3, 4] [1] ⟨rfl, rfl⟩ ⟨Nat.le_of_ble_eq_true rfl, Nat.le_of_ble_eq_true rfl⟩ rfl rfl rfl rfl (Nat.le_of_ble_eq_true rfl) dX1_empty_5 (fun H locs hP hD hS => ?_)
  have hP : va_P D vwCl [[((b0 o0), .inr (1, [.ref (b0 (o0+1)), .ref (b0 (o0+2)), .ref (b0 (o0+3)), .ref (b0 (o0+4))]))], [((b0 (o0+2)), .inl (k 0, 24, .inl v_rests))], [((b0 (o0+3)), .inl (k 0, 24, .inl v_marks))], [((b0 (o0+4)), .inl (k 1, 16, .inr (.inl v_numbers)))], [((b0 (o0+1)), .inl (k 1, 16, .inr (.inl (fun _ => 0))))]].flatten _ := hP
  have hD : va_D A [[((b0 o0), .inr (1, [.ref (b0 (o0+1)), .ref (b0 (o0+2)), .ref (b0 (o0+3)), .ref (b0 (o0+4))]))], [((b0 (o0+2)), .inl (k 0, 24, .inl v_rests))], [((b0 (o0+3)), .inl (k 0, 24, .inl v_marks))], [((b0 (o0+4)), .inl (k 1, 16, .inr (.inl v_numbers)))], [((b0 (o0+1)), .inl (k 1, 16, .inr (.inl (fun _ => 0))))]].flatten := hD
  refine lv_aload_n hx hb dX1_empty_8 rfl (lv_at hl 0 rfl) ?_
  refine kget (v := .ref (b0 (o0+2))) X hP ff_X1_15 0 rfl rfl dX1_empty_9 ?_
  refine lv_iconst (v := 0) hx hb dX1_empty_12 (by decide) ?_
  refine kcS (bs := [[((b0 o0), .inr (1, [.ref (b0 (o0+1)), .ref (b0 (o0+2)), .ref (b0 (o0+3)), .ref (b0 (o0+4))]))], [((b0 (o0+2)), .inl (k 0, 24, .inl v_rests))], [((b0 (o0+3)), .inl (k 0, 24, .inl v_marks))], [((b0 (o0+4)), .inl (k 1, 16, .inr (.inl v_numbers)))], [((b0 (o0+1)), .inl (k 1, 16, .inr (.inl (fun _ => 0))))]]) (br := [[((b0 o0), .inr (1, [.ref (b0 (o0+1)), .ref (b0 (o0+2)), .ref (b0 (o0+3)), .ref (b0 (o0+4))]))], [((b0 (o0+3)), .inl (k 0, 24, .inl v_marks))], [((b0 (o0+4)), .inl (k 1, 16, .inr (.inl v_numbers)))], [((b0 (o0+1)), .inl (k 1, 16, .inr (.inl (fun _ => 0))))]]) (bc := [[((b0 (o0+2)), .inl (k 0, 24, .inl v_rests))]]) (bc' := [[((b0 (o0+2)), .inl (k 0, 24, .inl (fun _ => 0)))]]) X hP hD hS (c_fillI l D k t (b0 (o0+2)) 24 v_rests 0) ms_X1_37 hl [0, 2, 3, 4] [1] ⟨rfl, rfl⟩ ⟨Nat.le_of_ble_eq_true rfl, Nat.le_of_ble_eq_true rfl⟩ rfl rfl rfl rfl (Nat.le_of_ble_eq_true rfl) dX1_empty_13 (fun H locs hP hD hS => ?_)
  have hP : va_P D vwCl [[((b0 o0), .inr (1, [.ref (b0 (o0+1)), .ref (b0 (o0+2)), .ref (b0 (o0+3)), .ref (b0 (o0+4))]))], [((b0 (o0+3)), .inl (k 0, 24, .inl v_marks))], [((b0 (o0+4)), .inl (k 1, 16, .inr (.inl v_numbers)))], [((b0 (o0+1)), .inl (k 1, 16, .inr (.inl (fun _ => 0))))], [((b0 (o0+2)), .inl (k 0, 24, .inl (fun _ => 0)))]].flatten _ := hP
  have hD : va_D A [[((b0 o0), .inr (1, [.ref (b0 (o0+1)), .ref (b0 (o0+2)), .ref (b0 (o0+3)), .ref (b0 (o0+4))]))], [((b0 (o0+3)), .inl (k 0, 24, .inl v_marks))], [((b0 (o0+4)), .inl (k 1, 16, .inr (.inl v_numbers)))], [((b0 (o0+1)), .inl (k 1, 16, .inr (.inl (fun _ => 0))))], [((b0 (o0+2)), .inl (k 0, 24, .inl (fun _ => 0)))]].flatten := hD
  refine lv_aload_n hx hb dX1_empty_16 rfl (lv_at hl 0 rfl) ?_
  refine kget (v := .ref (b0 (o0+3))) X hP ff_X1_19 0 rfl rfl dX1_empty_17 ?_
  refine lv_iconst (v := 0) hx hb dX1_empty_20 (by decide) ?_
  refine kcS (bs := [[((b0 o0), .inr (1, [.ref (b0 (o0+1)), .ref (b0 (o0+2)), .ref (b0 (o0+3)), .ref (b0 (o0+4))]))], [((b0 (o0+3)), .inl (k 0, 24, .inl v_marks))], [((b0 (o0+4)), .inl (k 1, 16, .inr (.inl v_numbers)))], [((b0 (o0+1)), .inl (k 1, 16, .inr (.inl (fun _ => 0))))], [((b0 (o0+2)), .inl (k 0, 24, .inl (fun _ => 0)))]]) (br := [[((b0 o0), .inr (1, [.ref (b0 (o0+1)), .ref (b0 (o0+2)), .ref (b0 (o0+3)), .ref (b0 (o0+4))]))], [((b0 (o0+4)), .inl (k 1, 16, .inr (.inl v_numbers)))], [((b0 (o0+1)), .inl (k 1, 16, .inr (.inl (fun _ => 0))))], [((b0 (o0+2)), .inl (k 0, 24, .inl (fun _ => 0)))]]) (bc := [[((b0 (o0+3)), .inl (k 0, 24, .inl v_marks))]]) (bc' := [[((b0 (o0+3)), .inl (k 0, 24, .inl (fun _ => 0)))]]) X hP hD hS (c_fillI l D k t (b0 (o0+3)) 24 v_marks 0) ms_X1_37 hl [0, 2, 3, 4] [1] ⟨rfl, rfl⟩ ⟨Nat.le_of_ble_eq_true rfl, Nat.le_of_ble_eq_true rfl⟩ rfl rfl rfl rfl (Nat.le_of_ble_eq_true rfl) dX1_empty_21 (fun H locs hP hD hS => ?_)
  have hP : va_P D vwCl [[((b0 o0), .inr (1, [.ref (b0 (o0+1)), .ref (b0 (o0+2)), .ref (b0 (o0+3)), .ref (b0 (o0+4))]))], [((b0 (o0+4)), .inl (k 1, 16, .inr (.inl v_numbers)))], [((b0 (o0+1)), .inl (k 1, 16, .inr (.inl (fun _ => 0))))], [((b0 (o0+2)), .inl (k 0, 24, .inl (fun _ => 0)))], [((b0 (o0+3)), .inl (k 0, 24, .inl (fun _ => 0)))]].flatten _ := hP
  have hD : va_D A [[((b0 o0), .inr (1, [.ref (b0 (o0+1)), .ref (b0 (o0+2)), .ref (b0 (o0+3)), .ref (b0 (o0+4))]))], [((b0 (o0+4)), .inl (k 1, 16, .inr (.inl v_numbers)))], [((b0 (o0+1)), .inl (k 1, 16, .inr (.inl (fun _ => 0))))], [((b0 (o0+2)), .inl (k 0, 24, .inl (fun _ => 0)))], [((b0 (o0+3)), .inl (k 0, 24, .inl (fun _ => 0)))]].flatten := hD
  refine lv_aload_n hx hb dX1_empty_24 rfl (lv_at hl 0 rfl) ?_
  refine kget (v := .ref (b0 (o0+4))) X hP ff_X1_22 0 rfl rfl dX1_empty_25 ?_
  refine lv_lconst (v := 0) hx hb dX1_empty_28 (by decide) ?_
  refine kcS (bs := [[((b0 o0), .inr (1, [.ref (b0 (o0+1)), .ref (b0 (o0+2)), .ref (b0 (o0+3)), .ref (b0 (o0+4))]))], [((b0 (o0+4)), .inl (k 1, 16, .inr (.inl v_numbers)))], [((b0 (o0+1)), .inl (k 1, 16, .inr (.inl (fun _ => 0))))], [((b0 (o0+2)), .inl (k 0, 24, .inl (fun _ => 0)))], [((b0 (o0+3)), .inl (k 0, 24, .inl (fun _ => 0)))]]) (br := [[((b0 o0), .inr (1, [.ref (b0 (o0+1)), .ref (b0 (o0+2)), .ref (b0 (o0+3)), .ref (b0 (o0+4))]))], [((b0 (o0+1)), .inl (k 1, 16, .inr (.inl (fun _ => 0))))], [((b0 (o0+2)), .inl (k 0, 24, .inl (fun _ => 0)))], [((b0 (o0+3)), .inl (k 0, 24, .inl (fun _ => 0)))]]) (bc := [[((b0 (o0+4)), .inl (k 1, 16, .inr (.inl v_numbers)))]]) (bc' := [[((b0 (o0+4)), .inl (k 1, 16, .inr (.inl (fun _ => 0))))]]) X hP hD hS (c_fillJ l D k t (b0 (o0+4)) 16 v_numbers 0) ms_X1_31 hl [0, 2, 3, 4] [1] ⟨rfl, rfl⟩ ⟨Nat.le_of_ble_eq_true rfl, Nat.le_of_ble_eq_true rfl⟩ rfl rfl rfl rfl (Nat.le_of_ble_eq_true rfl) dX1_empty_29 (fun H locs hP hD hS => ?_)
  have hP : va_P D vwCl [[((b0 o0), .inr (1, [.ref (b0 (o0+1)), .ref (b0 (o0+2)), .ref (b0 (o0+3)), .ref (b0 (o0+4))]))], [((b0 (o0+1)), .inl (k 1, 16, .inr (.inl (fun _ => 0))))], [((b0 (o0+2)), .inl (k 0, 24, .inl (fun _ => 0)))], [((b0 (o0+3)), .inl (k 0, 24, .inl (fun _ => 0)))], [((b0 (o0+4)), .inl (k 1, 16, .inr (.inl (fun _ => 0))))]].flatten _ := hP
  have hD : va_D A [[((b0 o0), .inr (1, [.ref (b0 (o0+1)), .ref (b0 (o0+2)), .ref (b0 (o0+3)), .ref (b0 (o0+4))]))], [((b0 (o0+1)), .inl (k 1, 16, .inr (.inl (fun _ => 0))))], [((b0 (o0+2)), .inl (k 0, 24, .inl (fun _ => 0)))], [((b0 (o0+3)), .inl (k 0, 24, .inl (fun _ => 0)))], [((b0 (o0+4)), .inl (k 1, 16, .inr (.inl (fun _ => 0))))]].flatten := hD
  have hP : va_P D vwCl [W_Braid k b0 o0 (fun _ => 0) (fun _ => 0) (fun _ => 0) (fun _ => 0)].flatten _ := hP
  have hD : va_D A [W_Braid k b0 o0 (fun _ => 0) (fun _ => 0) (fun _ => 0) (fun _ => 0)].flatten := hD
  exact kvret X hP hD hS dX1_empty_32
/-! Form_remainder: private static int remainder(int, int); -/
abbrev rm_Form_remainder : Room := ({ frames := 0, cells := 0, slots := 0, locals := 0 } : Room)
def f_Form_remainder (x0 : Int32) (x1 : Int32) : Option (Int32) := if x1 ≤ 0 then some 0 else if x1 = 0 then none else some (x0 - x0 / x1 * x1)
abbrev Q_Form_remainder (below : List Frame) (D : va_G) (k : Nat → ClassId) (A : Nat → Prop) (args : Array Value) (s : State) (out : Int32) : State → Prop := MQ below (QW D k A (some (.int out)) [].flatten) args s 0 0 A
set_option maxRecDepth 100000 in
set_option maxHeartbeats 1000000 in
theorem c_Form_remainder (l : Launch) (D : va_G) (k : Nat → ClassId) (t : Nat → Nat) (x0 : Int32) (x1 : Int32) (out : Int32) (hf : f_Form_remainder x0 x1 = some out) : CT l D k t yX3_remainder cX3_remainder 2 (some .int) rm_Form_remainder [.int x0, .int x1] [].flatten (some (.int out)) [].flatten := by
  refine kofW (by decide) (Nat.le_of_ble_eq_true rfl) ?_
  intro p e s m below meth c A ls X hP hD hS hl
  have N : Nat := 0
  have hx := X.1.1
  have hb := X.1.2.1
  have hml := X.1.2.2.1
  have hown := X.1.2.2.2.1
  have hts := X.1.2.2.2.2
  have hl : lv_has ls 2 [(0, .int x0), (1, .int x1)] := hl
  rw [f_Form_remainder] at hf
  refine lv_iload_n hx hb dX3_remainder_0 rfl (lv_at hl 1 rfl) ?_
  refine lv_if_le (tgt := 10) hx hb dX3_remainder_1 (by decide) (fun hc => ?_) (fun hc => ?_)
  · have hf := ofpos hf hc
    refine lv_iconst (v := 0) hx hb dX3_remainder_10 (by decide) ?_
    have hf := Option.some.inj hf
    subst hf
    exact kiret (v := 0) X hP hD hS dX3_remainder_11
  · have hf := ofneg hf hc
    refine lv_iload_n hx hb dX3_remainder_4 rfl (lv_at hl 0 rfl) ?_
    refine lv_iload_n hx hb dX3_remainder_5 rfl (lv_at hl 1 rfl) ?_
    obtain ⟨hz, hf⟩ := ofdv hf
    refine lv_irem hx hb dX3_remainder_6 hz ?_
    refine lv_goto (tgt := 11) hx hb dX3_remainder_7 (by decide) ?_
    have hf := Option.some.inj hf
    subst hf
    exact kiret (v := x0 - x0 / x1 * x1) X hP hD hS dX3_remainder_11
/-! Form_placesOfCounter: int placesOfCounter(int); -/
abbrev rm_Form_placesOfCounter : Room := ({ frames := 1, cells := 0, slots := 0, locals := 21 } : Room)
def f_Form_placesOfCounter_L4 (i2 : Int32) (v_countersAbove : Int32) (v_functionsAbove : Int32) (K55 : Int32 → Int32 → Option (Int32)) : Nat → Int32 → Int32 → Option (Int32)
  | 0, _, _ => none
  | n + 1, i3, i4 => if v_functionsAbove ≤ i4 then K55 i3 i4 else if 3 ≤ i4 then K55 i3 i4 else if ck i4 3 = true then if ck i4 3 = true then (f_Form_remainder (((i2 * (sv2 i4.toNatClampNeg)) + (sv3 i4.toNatClampNeg)) - ((i2 * (sv2 i4.toNatClampNeg)) + (sv3 i4.toNatClampNeg)) / 103 * 103) v_countersAbove).bind (fun r5 => f_Form_placesOfCounter_L4 i2 v_countersAbove v_functionsAbove K55 n (i3 ||| (1 <<< (r5 &&& 31))) (i4 + 1)) else none else none
def f_Form_placesOfCounter (N : Nat) (x1 : Int32) (v_countersAbove : Int32) (v_functionsAbove : Int32) : Option (Int32) := f_Form_placesOfCounter_L4 x1 v_countersAbove v_functionsAbove (fun i6 i7 => some i6) N 0 0
abbrev Q_Form_placesOfCounter (below : List Frame) (D : va_G) (k : Nat → ClassId) (A : Nat → Prop) (args : Array Value) (s : State) (b0 : Nat → Nat) (o0 : Nat) (v_counters : Int32) (v_bits : Int32) (v_functions : Int32) (v_countersAbove : Int32) (v_functionsAbove : Int32) (v_rounds : Int32) (out : Int32) : State → Prop := MQ below (QW D k A (some (.int out)) [W_Form k b0 o0 v_counters v_bits v_functions v_countersAbove v_functionsAbove v_rounds].flatten) args s 0 0 A
set_option maxRecDepth 100000 in
set_option maxHeartbeats 1000000 in
theorem w_Form_placesOfCounter_L4 {p : Program} {l : Launch} {e : Env} {s : State} {m : MethodId} {below : List Frame} {meth : Method} {c : Code} {args : Array Value} {A : Nat → Prop} {D : va_G} {k : Nat → ClassId} {t : Nat → Nat} (X : BX l D k t p s m args meth c cX3_placesOfCounter 5 RX3 (some .int) A) (b0 : Nat → Nat) (o0 : Nat) (v_counters : Int32) (v_bits : Int32) (v_functions : Int32) (v_countersAbove : Int32) (v_functionsAbove : Int32) (v_rounds : Int32) (N : Nat) (i2 : Int32) (out : Int32) (K55 : Int32 → Int32 → Option (Int32)) (hK55 : ∀ (i3' : Int32) (i4' : Int32) (H : Heap) (locs : List Loc) (ls : Array Slot), va_P D vwCl [W_Form k b0 o0 v_counters v_bits v_functions v_countersAbove v_functionsAbove v_rounds].flatten H → va_D A [W_Form k b0 o0 v_counters v_bits v_functions v_countersAbove v_functionsAbove v_rounds].flatten → va_S A s.heap H locs → lv_has ls 5 [(2, .int i3')] → K55 i3' i4' = some out → W p l e rm_Form_placesOfCounter s m args below meth c H locs 0 0 (Q_Form_placesOfCounter below D k A args s b0 o0 v_counters v_bits v_functions v_countersAbove v_functionsAbove v_rounds out) (F0 m 55 ls [])) : ∀ (n : Nat) (i3 : Int32) (i4 : Int32) (H : Heap) (locs : List Loc) (ls : Array Slot), va_P D vwCl [W_Form k b0 o0 v_counters v_bits v_functions v_countersAbove v_functionsAbove v_rounds].flatten H → va_D A [W_Form k b0 o0 v_counters v_bits v_functions v_countersAbove v_functionsAbove v_rounds].flatten → va_S A s.heap H locs → lv_has ls 5 [(0, .ref (b0 o0)), (1, .int i2), (2, .int i3), (3, .int i4)] → f_Form_placesOfCounter_L4 i2 v_countersAbove v_functionsAbove K55 n i3 i4 = some out → W p l e rm_Form_placesOfCounter s m args below meth c H locs 0 0 (Q_Form_placesOfCounter below D k A args s b0 o0 v_counters v_bits v_functions v_countersAbove v_functionsAbove v_rounds out) (F0 m 4 ls []) := by
  have hx := X.1.1
  have hb := X.1.2.1
  have hml := X.1.2.2.1
  have hown := X.1.2.2.2.1
  have hts := X.1.2.2.2.2
  intro n
  induction n with
  | zero =>
    intro i3 i4 H locs ls hP hD hS hl hf
    rw [f_Form_placesOfCounter_L4] at hf
    cases hf
  | succ n ih =>
    intro i3 i4 H locs ls hP hD hS hl hf
    rw [f_Form_placesOfCounter_L4] at hf
    refine lv_iload_n hx hb dX3_placesOfCounter_4 rfl (lv_at hl 3 rfl) ?_
    refine lv_aload_n hx hb dX3_placesOfCounter_5 rfl (lv_at hl 0 rfl) ?_
    refine kget (v := .int v_functionsAbove) X hP ff_X3_24 0 rfl rfl dX3_placesOfCounter_6 ?_
    refine lv_icmp_ge (tgt := 55) hx hb dX3_placesOfCounter_9 (by decide) (fun hc => ?_) (fun hc => ?_)
    · have hf := ofpos hf hc
      exact hK55 i3 i4 _ _ _ hP hD hS (lv_sub hl [2] rfl) hf
    · have hf := ofneg hf hc
      refine lv_iload_n hx hb dX3_placesOfCounter_12 rfl (lv_at hl 3 rfl) ?_
      refine lv_iconst (v := 3) hx hb dX3_placesOfCounter_13 (by decide) ?_
      refine lv_icmp_ge (tgt := 55) hx hb dX3_placesOfCounter_14 (by decide) (fun hc => ?_) (fun hc => ?_)
      · have hf := ofpos hf hc
        exact hK55 i3 i4 _ _ _ hP hD hS (lv_sub hl [2] rfl) hf
      · have hf := ofneg hf hc
        refine lv_iload_n hx hb dX3_placesOfCounter_17 rfl (lv_at hl 1 rfl) ?_
        refine va_getsN hx hb X.2.2.2.2.2.2.2.2.2.1.1 hS hown (va_Nw.use rfl (X.2.2.2.2.2.2.1 (41, "COUNTER_FACTORS") (by decide +kernel))) (fun _ h9 => h9) dX3_placesOfCounter_18 ?_
        refine lv_iload_n hx hb dX3_placesOfCounter_21 rfl (lv_at hl 3 rfl) ?_
        obtain ⟨hc, hf⟩ := ofck hf
        refine va_ti (v := .int (sv2 i4.toNatClampNeg)) hx hb X.2.2.2.2.2.2.2.2.2.1.2 hS hc rfl dX3_placesOfCounter_22 ?_
        refine lv_imul hx hb dX3_placesOfCounter_23 ?_
        refine va_getsN hx hb X.2.2.2.2.2.2.2.2.2.2.1 hS hown (va_Nw.use rfl (X.2.2.2.2.2.2.1 (44, "COUNTER_OFFSETS") (by decide +kernel))) (fun _ h9 => h9) dX3_placesOfCounter_24 ?_
        refine lv_iload_n hx hb dX3_placesOfCounter_27 rfl (lv_at hl 3 rfl) ?_
        obtain ⟨hc, hf⟩ := ofck hf
        refine va_ti (v := .int (sv3 i4.toNatClampNeg)) hx hb X.2.2.2.2.2.2.2.2.2.2.2 hS hc rfl dX3_placesOfCounter_28 ?_
        refine lv_iadd hx hb dX3_placesOfCounter_29 ?_
        refine lv_istore (lv' := [(4, .int ((i2 * (sv2 i4.toNatClampNeg)) + (sv3 i4.toNatClampNeg))), (0, .ref (b0 o0)), (1, .int i2), (2, .int i3), (3, .int i4)]) hx hb dX3_placesOfCounter_30 hl (by decide) rfl (fun ls hl => ?_)
        refine lv_iload_n hx hb dX3_placesOfCounter_32 rfl (lv_at hl 3 rfl) ?_
        refine lv_iconst (v := 1) hx hb dX3_placesOfCounter_33 (by decide) ?_
        refine lv_iload hx hb dX3_placesOfCounter_34 (lv_at hl 0 rfl) ?_
        refine lv_bipush (v := 103) hx hb dX3_placesOfCounter_36 (by decide) ?_
        refine lv_irem hx hb dX3_placesOfCounter_38 (by decide) ?_
        refine lv_aload_n hx hb dX3_placesOfCounter_39 rfl (lv_at hl 1 rfl) ?_
        refine kget (v := .int v_countersAbove) X hP ff_X3_21 0 rfl rfl dX3_placesOfCounter_40 ?_
        obtain ⟨r5, hg_r5, hf⟩ := ofbind hf
        refine kcS (bs := [W_Form k b0 o0 v_counters v_bits v_functions v_countersAbove v_functionsAbove v_rounds]) (br := [W_Form k b0 o0 v_counters v_bits v_functions v_countersAbove v_functionsAbove v_rounds]) (bc := []) (bc' := []) X hP hD hS (c_Form_remainder l D k t (((i2 * (sv2 i4.toNatClampNeg)) + (sv3 i4.toNatClampNeg)) - ((i2 * (sv2 i4.toNatClampNeg)) + (sv3 i4.toNatClampNeg)) / 103 * 103) v_countersAbove r5 hg_r5) ms_X3_37 hl [0] [] ⟨rfl, rfl⟩ ⟨Nat.le_of_ble_eq_true rfl, Nat.le_of_ble_eq_true rfl⟩ rfl rfl rfl rfl (Nat.le_of_ble_eq_true rfl) dX3_placesOfCounter_43 (fun H locs hP hD hS => ?_)
        have hP : va_P D vwCl [W_Form k b0 o0 v_counters v_bits v_functions v_countersAbove v_functionsAbove v_rounds].flatten _ := hP
        have hD : va_D A [W_Form k b0 o0 v_counters v_bits v_functions v_countersAbove v_functionsAbove v_rounds].flatten := hD
        refine lv_ishl hx hb dX3_placesOfCounter_46 ?_
        refine lv_ior hx hb dX3_placesOfCounter_47 ?_
        refine lv_istore_n (lv' := [(2, .int (i3 ||| (1 <<< (r5 &&& 31)))), (4, .int ((i2 * (sv2 i4.toNatClampNeg)) + (sv3 i4.toNatClampNeg))), (0, .ref (b0 o0)), (1, .int i2), (3, .int i4)]) hx hb dX3_placesOfCounter_48 rfl hl (by decide) rfl (fun ls hl => ?_)
        refine lv_iinc (v := i4 + 1) (lv' := [(3, .int (i4 + 1)), (2, .int (i3 ||| (1 <<< (r5 &&& 31)))), (4, .int ((i2 * (sv2 i4.toNatClampNeg)) + (sv3 i4.toNatClampNeg))), (0, .ref (b0 o0)), (1, .int i2)]) hx hb dX3_placesOfCounter_49 hl (k := 4) rfl rfl (by decide) rfl (fun ls hl => ?_)
        refine lv_goto (tgt := 4) hx hb dX3_placesOfCounter_52 (by decide) ?_
        exact ih (i3 ||| (1 <<< (r5 &&& 31))) (i4 + 1) _ _ _ hP hD hS (lv_sub hl [3, 4, 1, 0] rfl) hf
set_option maxRecDepth 100000 in
set_option maxHeartbeats 1000000 in
theorem c_Form_placesOfCounter (l : Launch) (D : va_G) (k : Nat → ClassId) (t : Nat → Nat) (b0 : Nat → Nat) (o0 : Nat) (v_counters : Int32) (v_bits : Int32) (v_functions : Int32) (v_countersAbove : Int32) (v_functionsAbove : Int32) (v_rounds : Int32) (x1 : Int32) (N : Nat) (out : Int32) (hf : f_Form_placesOfCounter N x1 v_countersAbove v_functionsAbove = some out) : CT l D k t yX3_placesOfCounter cX3_placesOfCounter 5 (some .int) rm_Form_placesOfCounter [.ref (b0 o0), .int x1] [W_Form k b0 o0 v_counters v_bits v_functions v_countersAbove v_functionsAbove v_rounds].flatten (some (.int out)) [W_Form k b0 o0 v_counters v_bits v_functions v_countersAbove v_functionsAbove v_rounds].flatten := by
  refine kofW (by decide) (Nat.le_of_ble_eq_true rfl) ?_
  intro p e s m below meth c A ls X hP hD hS hl
  have hx := X.1.1
  have hb := X.1.2.1
  have hml := X.1.2.2.1
  have hown := X.1.2.2.2.1
  have hts := X.1.2.2.2.2
  have hl : lv_has ls 5 [(0, .ref (b0 o0)), (1, .int x1)] := hl
  rw [f_Form_placesOfCounter] at hf
  refine lv_iconst (v := 0) hx hb dX3_placesOfCounter_0 (by decide) ?_
  refine lv_istore_n (lv' := [(2, .int 0), (0, .ref (b0 o0)), (1, .int x1)]) hx hb dX3_placesOfCounter_1 rfl hl (by decide) rfl (fun ls hl => ?_)
  refine lv_iconst (v := 0) hx hb dX3_placesOfCounter_2 (by decide) ?_
  refine lv_istore_n (lv' := [(3, .int 0), (2, .int 0), (0, .ref (b0 o0)), (1, .int x1)]) hx hb dX3_placesOfCounter_3 rfl hl (by decide) rfl (fun ls hl => ?_)
  refine w_Form_placesOfCounter_L4 X b0 o0 v_counters v_bits v_functions v_countersAbove v_functionsAbove v_rounds N x1 out _ ?_ N 0 0 _ _ _ hP hD hS (lv_sub hl [2, 3, 1, 0] rfl) hf
  · intro i6 i7 H locs ls hP hD hS hl hf
    refine lv_iload_n hx hb dX3_placesOfCounter_55 rfl (lv_at hl 0 rfl) ?_
    have hf := Option.some.inj hf
    subst hf
    exact kiret (v := i6) X hP hD hS dX3_placesOfCounter_56
/-! Braid_raiseNumbers: private void raiseNumbers(int, long); -/
abbrev rm_Braid_raiseNumbers : Room := ({ frames := 1, cells := 0, slots := 0, locals := 21 } : Room)
def f_Braid_raiseNumbers_L3 (i3 : Int32) (i4 : Int64) (K36 : Int32 → FJ → Option (FJ)) : Nat → Int32 → FJ → Option (FJ)
  | 0, _, _ => none
  | n + 1, i5, c6 => if 16 ≤ i5 then K36 i5 c6 else (f_CB_isIn i3 i5).bind (fun r7 => if r7 = 0 then f_Braid_raiseNumbers_L3 i3 i4 K36 n (i5 + 1) c6 else if ck i5 16 = true then if ck i5 16 = true then f_Braid_raiseNumbers_L3 i3 i4 K36 n (i5 + 1) (vp_updL c6 i5.toNatClampNeg ((c6 i5.toNatClampNeg) + i4)) else none else none)
def f_Braid_raiseNumbers (N : Nat) (x1 : Int32) (x2 : Int64) (v_numbers : FJ) : Option (FJ) := f_Braid_raiseNumbers_L3 x1 x2 (fun i9 c10 => some c10) N 0 v_numbers
abbrev Q_Braid_raiseNumbers (below : List Frame) (D : va_G) (k : Nat → ClassId) (A : Nat → Prop) (args : Array Value) (s : State) (b0 : Nat → Nat) (o0 : Nat) (v_truths : FJ) (v_rests : FI) (v_marks : FI) (v_numbers : FJ) (out : FJ) : State → Prop := MQ below (QW D k A none [W_Braid k b0 o0 v_truths v_rests v_marks out].flatten) args s 0 0 A
set_option maxRecDepth 100000 in
set_option maxHeartbeats 1000000 in
theorem w_Braid_raiseNumbers_L3 {p : Program} {l : Launch} {e : Env} {s : State} {m : MethodId} {below : List Frame} {meth : Method} {c : Code} {args : Array Value} {A : Nat → Prop} {D : va_G} {k : Nat → ClassId} {t : Nat → Nat} (X : BX l D k t p s m args meth c cX1_raiseNumbers 5 RX1 none A) (b0 : Nat → Nat) (o0 : Nat) (v_truths : FJ) (v_rests : FI) (v_marks : FI) (v_numbers : FJ) (N : Nat) (i3 : Int32) (i4 : Int64) (out : FJ) (K36 : Int32 → FJ → Option (FJ)) (hK36 : ∀ (i5' : Int32) (c6' : FJ) (H : Heap) (locs : List Loc) (ls : Array Slot), va_P D vwCl [W_Braid k b0 o0 v_truths v_rests v_marks c6'].flatten H → va_D A [W_Braid k b0 o0 v_truths v_rests v_marks c6'].flatten → va_S A s.heap H locs → lv_has ls 5 [] → K36 i5' c6' = some out → W p l e rm_Braid_raiseNumbers s m args below meth c H locs 0 0 (Q_Braid_raiseNumbers below D k A args s b0 o0 v_truths v_rests v_marks v_numbers out) (F0 m 36 ls [])) : ∀ (n : Nat) (i5 : Int32) (c6 : FJ) (H : Heap) (locs : List Loc) (ls : Array Slot), va_P D vwCl [W_Braid k b0 o0 v_truths v_rests v_marks c6].flatten H → va_D A [W_Braid k b0 o0 v_truths v_rests v_marks c6].flatten → va_S A s.heap H locs → lv_has ls 5 [(0, .ref (b0 o0)), (1, .int i3), (2, .long i4), (4, .int i5)] → f_Braid_raiseNumbers_L3 i3 i4 K36 n i5 c6 = some out → W p l e rm_Braid_raiseNumbers s m args below meth c H locs 0 0 (Q_Braid_raiseNumbers below D k A args s b0 o0 v_truths v_rests v_marks v_numbers out) (F0 m 3 ls []) := by
  have hx := X.1.1
  have hb := X.1.2.1
  have hml := X.1.2.2.1
  have hown := X.1.2.2.2.1
  have hts := X.1.2.2.2.2
  intro n
  induction n with
  | zero =>
    intro i5 c6 H locs ls hP hD hS hl hf
    rw [f_Braid_raiseNumbers_L3] at hf
    cases hf
  | succ n ih =>
    intro i5 c6 H locs ls hP hD hS hl hf
    rw [f_Braid_raiseNumbers_L3] at hf
    refine lv_iload hx hb dX1_raiseNumbers_3 (lv_at hl 3 rfl) ?_
    refine lv_bipush (v := 16) hx hb dX1_raiseNumbers_5 (by decide) ?_
    refine lv_icmp_ge (tgt := 36) hx hb dX1_raiseNumbers_7 (by decide) (fun hc => ?_) (fun hc => ?_)
    · have hf := ofpos hf hc
      exact hK36 i5 c6 _ _ _ hP hD hS (lv_sub hl [] rfl) hf
    · have hf := ofneg hf hc
      refine lv_iload_n hx hb dX1_raiseNumbers_10 rfl (lv_at hl 1 rfl) ?_
      refine lv_iload hx hb dX1_raiseNumbers_11 (lv_at hl 3 rfl) ?_
      obtain ⟨r7, hg_r7, hf⟩ := ofbind hf
      refine kcN (bs := [W_Braid k b0 o0 v_truths v_rests v_marks c6]) (br := [W_Braid k b0 o0 v_truths v_rests v_marks c6]) (bc := []) (bc' := []) X hP hD hS (c_CB_isIn l D k t i3 i5 r7 hg_r7) mn_X1_54 hl [0] [] ⟨rfl, rfl⟩ ⟨Nat.le_of_ble_eq_true rfl, Nat.le_of_ble_eq_true rfl⟩ rfl rfl rfl rfl (Nat.le_of_ble_eq_true rfl) dX1_raiseNumbers_13 (fun H locs hP hD hS => ?_)
      have hP : va_P D vwCl [W_Braid k b0 o0 v_truths v_rests v_marks c6].flatten _ := hP
      have hD : va_D A [W_Braid k b0 o0 v_truths v_rests v_marks c6].flatten := hD
      refine lv_if_eq (tgt := 30) hx hb dX1_raiseNumbers_16 (by decide) (fun hc => ?_) (fun hc => ?_)
      · have hf := ofpos hf hc
        refine lv_iinc (v := i5 + 1) (lv' := [(4, .int (i5 + 1)), (0, .ref (b0 o0)), (1, .int i3), (2, .long i4)]) hx hb dX1_raiseNumbers_30 hl (k := 3) rfl rfl (by decide) rfl (fun ls hl => ?_)
        refine lv_goto (tgt := 3) hx hb dX1_raiseNumbers_33 (by decide) ?_
        exact ih (i5 + 1) c6 _ _ _ hP hD hS (lv_sub hl [1, 2, 3, 0] rfl) hf
      · have hf := ofneg hf hc
        refine lv_aload_n hx hb dX1_raiseNumbers_19 rfl (lv_at hl 0 rfl) ?_
        refine kget (v := .ref (b0 (o0+4))) X hP ff_X1_22 0 rfl rfl dX1_raiseNumbers_20 ?_
        refine lv_iload hx hb dX1_raiseNumbers_23 (lv_at hl 3 rfl) ?_
        refine lv_dup2_11 hx hb dX1_raiseNumbers_25 rfl rfl ?_
        obtain ⟨hc, hf⟩ := ofck hf
        refine klald (f := c6) (n := 16) X hP 4 rfl hc dX1_raiseNumbers_26 ?_
        refine lv_lload_n hx hb dX1_raiseNumbers_27 rfl (lv_at hl 2 rfl) ?_
        refine lv_ladd hx hb dX1_raiseNumbers_28 ?_
        obtain ⟨hc, hf⟩ := ofck hf
        generalize hc8 : vp_updL c6 i5.toNatClampNeg ((c6 i5.toNatClampNeg) + i4) = c8 at hf
        refine klast2 (f := c6) (n := 16) (g := c8) X hP hD hS 4 rfl hc hc8 dX1_raiseNumbers_29 (fun H locs hP hD hS => ?_)
        have hP : va_P D vwCl [W_Braid k b0 o0 v_truths v_rests v_marks c8].flatten _ := hP
        have hD : va_D A [W_Braid k b0 o0 v_truths v_rests v_marks c8].flatten := hD
        refine lv_iinc (v := i5 + 1) (lv' := [(4, .int (i5 + 1)), (0, .ref (b0 o0)), (1, .int i3), (2, .long i4)]) hx hb dX1_raiseNumbers_30 hl (k := 3) rfl rfl (by decide) rfl (fun ls hl => ?_)
        refine lv_goto (tgt := 3) hx hb dX1_raiseNumbers_33 (by decide) ?_
        exact ih (i5 + 1) c8 _ _ _ hP hD hS (lv_sub hl [1, 2, 3, 0] rfl) hf
set_option maxRecDepth 100000 in
set_option maxHeartbeats 1000000 in
theorem c_Braid_raiseNumbers (l : Launch) (D : va_G) (k : Nat → ClassId) (t : Nat → Nat) (b0 : Nat → Nat) (o0 : Nat) (v_truths : FJ) (v_rests : FI) (v_marks : FI) (v_numbers : FJ) (x1 : Int32) (x2 : Int64) (N : Nat) (out : FJ) (hf : f_Braid_raiseNumbers N x1 x2 v_numbers = some out) : CT l D k t yX1_raiseNumbers cX1_raiseNumbers 5 none rm_Braid_raiseNumbers [.ref (b0 o0), .int x1, .long x2] [W_Braid k b0 o0 v_truths v_rests v_marks v_numbers].flatten none [W_Braid k b0 o0 v_truths v_rests v_marks out].flatten := by
  refine kofW (by decide) (Nat.le_of_ble_eq_true rfl) ?_
  intro p e s m below meth c A ls X hP hD hS hl
  have hx := X.1.1
  have hb := X.1.2.1
  have hml := X.1.2.2.1
  have hown := X.1.2.2.2.1
  have hts := X.1.2.2.2.2
  have hl : lv_has ls 5 [(0, .ref (b0 o0)), (1, .int x1), (2, .long x2)] := hl
  rw [f_Braid_raiseNumbers] at hf
  refine lv_iconst (v := 0) hx hb dX1_raiseNumbers_0 (by decide) ?_
  refine lv_istore (lv' := [(4, .int 0), (0, .ref (b0 o0)), (1, .int x1), (2, .long x2)]) hx hb dX1_raiseNumbers_1 hl (by decide) rfl (fun ls hl => ?_)
  refine w_Braid_raiseNumbers_L3 X b0 o0 v_truths v_rests v_marks v_numbers N x1 x2 out _ ?_ N 0 v_numbers _ _ _ hP hD hS (lv_sub hl [1, 2, 3, 0] rfl) hf
  · intro i9 c10 H locs ls hP hD hS hl hf
    have hf := Option.some.inj hf
    subst hf
    exact kvret X hP hD hS dX1_raiseNumbers_36
/-! Braid_raise: void raise(CounterBraid$Form, int, long); -/
abbrev rm_Braid_raise : Room := ({ frames := 2, cells := 0, slots := 0, locals := 45 } : Room)
def f_Braid_raise (N : Nat) (x2 : Int32) (x3 : Int64) (v0_rests : FI) (v0_marks : FI) (v0_numbers : FJ) (v1_bits : Int32) (v1_countersAbove : Int32) (v1_functionsAbove : Int32) : Option (FI × FI × FJ) := if ck x2 24 = true then if ck x2 24 = true then if ((((v0_rests x2.toNatClampNeg).toInt64) + x3) >>> (v1_bits.toInt64 &&& 63)) ≤ 0 then some ((upd v0_rests x2.toNatClampNeg (((((v0_rests x2.toNatClampNeg).toInt64) + x3) - (((((v0_rests x2.toNatClampNeg).toInt64) + x3) >>> (v1_bits.toInt64 &&& 63)) <<< (v1_bits.toInt64 &&& 63))).toInt32)), v0_marks, v0_numbers) else if ck x2 24 = true then (f_Form_placesOfCounter N x2 v1_countersAbove v1_functionsAbove).bind (fun r3 => (f_Braid_raiseNumbers N r3 ((((v0_rests x2.toNatClampNeg).toInt64) + x3) >>> (v1_bits.toInt64 &&& 63)) v0_numbers).bind (fun r4 => some ((upd v0_rests x2.toNatClampNeg (((((v0_rests x2.toNatClampNeg).toInt64) + x3) - (((((v0_rests x2.toNatClampNeg).toInt64) + x3) >>> (v1_bits.toInt64 &&& 63)) <<< (v1_bits.toInt64 &&& 63))).toInt32)), (upd v0_marks x2.toNatClampNeg 1), r4))) else none else none else none
abbrev Q_Braid_raise (below : List Frame) (D : va_G) (k : Nat → ClassId) (A : Nat → Prop) (args : Array Value) (s : State) (b0 : Nat → Nat) (o0 : Nat) (v0_truths : FJ) (v0_rests : FI) (v0_marks : FI) (v0_numbers : FJ) (b1 : Nat → Nat) (o1 : Nat) (v1_counters : Int32) (v1_bits : Int32) (v1_functions : Int32) (v1_countersAbove : Int32) (v1_functionsAbove : Int32) (v1_rounds : Int32) (out : FI × FI × FJ) : State → Prop := MQ below (QW D k A none [W_Braid k b0 o0 v0_truths out.1 out.2.1 out.2.2, W_Form k b1 o1 v1_counters v1_bits v1_functions v1_countersAbove v1_functionsAbove v1_rounds].flatten) args s 0 0 A
set_option maxRecDepth 100000 in
set_option maxHeartbeats 1000000 in
theorem c_Braid_raise (l : Launch) (D : va_G) (k : Nat → ClassId) (t : Nat → Nat) (b0 : Nat → Nat) (o0 : Nat) (v0_truths : FJ) (v0_rests : FI) (v0_marks : FI) (v0_numbers : FJ) (b1 : Nat → Nat) (o1 : Nat) (v1_counters : Int32) (v1_bits : Int32) (v1_functions : Int32) (v1_countersAbove : Int32) (v1_functionsAbove : Int32) (v1_rounds : Int32) (x2 : Int32) (x3 : Int64) (N : Nat) (out : FI × FI × FJ) (hf : f_Braid_raise N x2 x3 v0_rests v0_marks v0_numbers v1_bits v1_countersAbove v1_functionsAbove = some out) : CT l D k t yX1_raise cX1_raise 9 none rm_Braid_raise [.ref (b0 o0), .ref (b1 o1), .int x2, .long x3] [W_Braid k b0 o0 v0_truths v0_rests v0_marks v0_numbers, W_Form k b1 o1 v1_counters v1_bits v1_functions v1_countersAbove v1_functionsAbove v1_rounds].flatten none [W_Braid k b0 o0 v0_truths out.1 out.2.1 out.2.2, W_Form k b1 o1 v1_counters v1_bits v1_functions v1_countersAbove v1_functionsAbove v1_rounds].flatten := by
  refine kofW (by decide) (Nat.le_of_ble_eq_true rfl) ?_
  intro p e s m below meth c A ls X hP hD hS hl
  have hx := X.1.1
  have hb := X.1.2.1
  have hml := X.1.2.2.1
  have hown := X.1.2.2.2.1
  have hts := X.1.2.2.2.2
  have hl : lv_has ls 9 [(0, .ref (b0 o0)), (1, .ref (b1 o1)), (2, .int x2), (3, .long x3)] := hl
  rw [f_Braid_raise] at hf
  refine lv_aload_n hx hb dX1_raise_0 rfl (lv_at hl 0 rfl) ?_
  refine kget (v := .ref (b0 (o0+2))) X hP ff_X1_15 0 rfl rfl dX1_raise_1 ?_
  refine lv_iload_n hx hb dX1_raise_4 rfl (lv_at hl 2 rfl) ?_
  obtain ⟨hc, hf⟩ := ofck hf
  refine kiald (f := v0_rests) (n := 24) X hP 2 rfl hc dX1_raise_5 ?_
  refine lv_i2l (v := (v0_rests x2.toNatClampNeg).toInt64) hx hb dX1_raise_6 rfl ?_
  refine lv_lload_n hx hb dX1_raise_7 rfl (lv_at hl 3 rfl) ?_
  refine lv_ladd hx hb dX1_raise_8 ?_
  refine lv_lstore (lv' := [(5, .long (((v0_rests x2.toNatClampNeg).toInt64) + x3)), (0, .ref (b0 o0)), (1, .ref (b1 o1)), (2, .int x2), (3, .long x3)]) hx hb dX1_raise_9 hl (by decide) rfl (fun ls hl => ?_)
  refine lv_lload hx hb dX1_raise_11 (lv_at hl 0 rfl) ?_
  refine lv_aload_n hx hb dX1_raise_13 rfl (lv_at hl 2 rfl) ?_
  refine kget (v := .int v1_bits) X hP ff_X1_40 5 rfl rfl dX1_raise_14 ?_
  refine lv_lshr (v := (((v0_rests x2.toNatClampNeg).toInt64) + x3) >>> (v1_bits.toInt64 &&& 63)) hx hb dX1_raise_17 rfl ?_
  refine lv_lstore (lv' := [(7, .long ((((v0_rests x2.toNatClampNeg).toInt64) + x3) >>> (v1_bits.toInt64 &&& 63))), (5, .long (((v0_rests x2.toNatClampNeg).toInt64) + x3)), (0, .ref (b0 o0)), (1, .ref (b1 o1)), (2, .int x2), (3, .long x3)]) hx hb dX1_raise_18 hl (by decide) rfl (fun ls hl => ?_)
  refine lv_aload_n hx hb dX1_raise_20 rfl (lv_at hl 2 rfl) ?_
  refine kget (v := .ref (b0 (o0+2))) X hP ff_X1_15 0 rfl rfl dX1_raise_21 ?_
  refine lv_iload_n hx hb dX1_raise_24 rfl (lv_at hl 4 rfl) ?_
  refine lv_lload hx hb dX1_raise_25 (lv_at hl 1 rfl) ?_
  refine lv_lload hx hb dX1_raise_27 (lv_at hl 0 rfl) ?_
  refine lv_aload_n hx hb dX1_raise_29 rfl (lv_at hl 3 rfl) ?_
  refine kget (v := .int v1_bits) X hP ff_X1_40 5 rfl rfl dX1_raise_30 ?_
  refine lv_lshl (v := ((((v0_rests x2.toNatClampNeg).toInt64) + x3) >>> (v1_bits.toInt64 &&& 63)) <<< (v1_bits.toInt64 &&& 63)) hx hb dX1_raise_33 rfl ?_
  refine lv_lsub hx hb dX1_raise_34 ?_
  refine lv_l2i (v := ((((v0_rests x2.toNatClampNeg).toInt64) + x3) - (((((v0_rests x2.toNatClampNeg).toInt64) + x3) >>> (v1_bits.toInt64 &&& 63)) <<< (v1_bits.toInt64 &&& 63))).toInt32) hx hb dX1_raise_35 rfl ?_
  obtain ⟨hc, hf⟩ := ofck hf
  generalize hc1 : upd v0_rests x2.toNatClampNeg (((((v0_rests x2.toNatClampNeg).toInt64) + x3) - (((((v0_rests x2.toNatClampNeg).toInt64) + x3) >>> (v1_bits.toInt64 &&& 63)) <<< (v1_bits.toInt64 &&& 63))).toInt32) = c1 at hf
  refine kiast2 (f := v0_rests) (n := 24) (g := c1) X hP hD hS 2 rfl hc hc1 dX1_raise_36 (fun H locs hP hD hS => ?_)
  have hP : va_P D vwCl [W_Braid k b0 o0 v0_truths c1 v0_marks v0_numbers, W_Form k b1 o1 v1_counters v1_bits v1_functions v1_countersAbove v1_functionsAbove v1_rounds].flatten _ := hP
  have hD : va_D A [W_Braid k b0 o0 v0_truths c1 v0_marks v0_numbers, W_Form k b1 o1 v1_counters v1_bits v1_functions v1_countersAbove v1_functionsAbove v1_rounds].flatten := hD
  refine lv_lload hx hb dX1_raise_37 (lv_at hl 0 rfl) ?_
  refine lv_lconst (v := 0) hx hb dX1_raise_39 (by decide) ?_
  refine W.lcmp hx hb dX1_raise_40 ?_
  refine lv_if_le (tgt := 62) hx hb dX1_raise_41 (by decide) (fun hc => ?_) (fun hc => ?_)
  · have hc := lgm.mp hc
    have hf := ofpos hf hc
    have hf := Option.some.inj hf
    subst hf
    exact kvret X hP hD hS dX1_raise_62
  · have hc := fun z => hc (lgm.mpr z)
    have hf := ofneg hf hc
    refine lv_aload_n hx hb dX1_raise_44 rfl (lv_at hl 2 rfl) ?_
    refine kget (v := .ref (b0 (o0+3))) X hP ff_X1_19 0 rfl rfl dX1_raise_45 ?_
    refine lv_iload_n hx hb dX1_raise_48 rfl (lv_at hl 4 rfl) ?_
    refine lv_iconst (v := 1) hx hb dX1_raise_49 (by decide) ?_
    obtain ⟨hc, hf⟩ := ofck hf
    generalize hc2 : upd v0_marks x2.toNatClampNeg 1 = c2 at hf
    refine kiast2 (f := v0_marks) (n := 24) (g := c2) X hP hD hS 3 rfl hc hc2 dX1_raise_50 (fun H locs hP hD hS => ?_)
    have hP : va_P D vwCl [W_Braid k b0 o0 v0_truths c1 c2 v0_numbers, W_Form k b1 o1 v1_counters v1_bits v1_functions v1_countersAbove v1_functionsAbove v1_rounds].flatten _ := hP
    have hD : va_D A [W_Braid k b0 o0 v0_truths c1 c2 v0_numbers, W_Form k b1 o1 v1_counters v1_bits v1_functions v1_countersAbove v1_functionsAbove v1_rounds].flatten := hD
    refine lv_aload_n hx hb dX1_raise_51 rfl (lv_at hl 2 rfl) ?_
    refine lv_aload_n hx hb dX1_raise_52 rfl (lv_at hl 3 rfl) ?_
    refine lv_iload_n hx hb dX1_raise_53 rfl (lv_at hl 4 rfl) ?_
    obtain ⟨r3, hg_r3, hf⟩ := ofbind hf
    refine kcV (bs := [W_Braid k b0 o0 v0_truths c1 c2 v0_numbers, W_Form k b1 o1 v1_counters v1_bits v1_functions v1_countersAbove v1_functionsAbove v1_rounds]) (br := [W_Braid k b0 o0 v0_truths c1 c2 v0_numbers]) (bc := [W_Form k b1 o1 v1_counters v1_bits v1_functions v1_countersAbove v1_functionsAbove v1_rounds]) (bc' := [W_Form k b1 o1 v1_counters v1_bits v1_functions v1_countersAbove v1_functionsAbove v1_rounds]) X hP hD hS (c_Form_placesOfCounter l D k t b1 o1 v1_counters v1_bits v1_functions v1_countersAbove v1_functionsAbove v1_rounds x2 N r3 hg_r3) mv_X1_46 hl [0] [1] 3 ⟨rfl, rfl⟩ ⟨Nat.le_of_ble_eq_true rfl, Nat.le_of_ble_eq_true rfl⟩ rfl rfl rfl rfl rfl rfl rfl (Nat.le_of_ble_eq_true rfl) dX1_raise_54 (fun H locs hP hD hS => ?_)
    have hP : va_P D vwCl [W_Braid k b0 o0 v0_truths c1 c2 v0_numbers, W_Form k b1 o1 v1_counters v1_bits v1_functions v1_countersAbove v1_functionsAbove v1_rounds].flatten _ := hP
    have hD : va_D A [W_Braid k b0 o0 v0_truths c1 c2 v0_numbers, W_Form k b1 o1 v1_counters v1_bits v1_functions v1_countersAbove v1_functionsAbove v1_rounds].flatten := hD
    refine lv_lload hx hb dX1_raise_57 (lv_at hl 0 rfl) ?_
    obtain ⟨r4, hg_r4, hf⟩ := ofbind hf
    refine kcV (bs := [W_Braid k b0 o0 v0_truths c1 c2 v0_numbers, W_Form k b1 o1 v1_counters v1_bits v1_functions v1_countersAbove v1_functionsAbove v1_rounds]) (br := [W_Form k b1 o1 v1_counters v1_bits v1_functions v1_countersAbove v1_functionsAbove v1_rounds]) (bc := [W_Braid k b0 o0 v0_truths c1 c2 v0_numbers]) (bc' := [W_Braid k b0 o0 v0_truths c1 c2 r4]) X hP hD hS (c_Braid_raiseNumbers l D k t b0 o0 v0_truths c1 c2 v0_numbers r3 ((((v0_rests x2.toNatClampNeg).toInt64) + x3) >>> (v1_bits.toInt64 &&& 63)) N r4 hg_r4) mv_X1_50 hl [1] [0] 1 ⟨rfl, rfl⟩ ⟨Nat.le_of_ble_eq_true rfl, Nat.le_of_ble_eq_true rfl⟩ rfl rfl rfl rfl rfl rfl rfl (Nat.le_of_ble_eq_true rfl) dX1_raise_59 (fun H locs hP hD hS => ?_)
    have hP : va_P D vwCl [W_Form k b1 o1 v1_counters v1_bits v1_functions v1_countersAbove v1_functionsAbove v1_rounds, W_Braid k b0 o0 v0_truths c1 c2 r4].flatten _ := hP
    have hD : va_D A [W_Form k b1 o1 v1_counters v1_bits v1_functions v1_countersAbove v1_functionsAbove v1_rounds, W_Braid k b0 o0 v0_truths c1 c2 r4].flatten := hD
    obtain ⟨hP, hD⟩ := B_perm (br := [W_Braid k b0 o0 v0_truths c1 c2 r4, W_Form k b1 o1 v1_counters v1_bits v1_functions v1_countersAbove v1_functionsAbove v1_rounds]) hP hD [1, 0] rfl rfl
    have hP : va_P D vwCl [W_Braid k b0 o0 v0_truths c1 c2 r4, W_Form k b1 o1 v1_counters v1_bits v1_functions v1_countersAbove v1_functionsAbove v1_rounds].flatten _ := hP
    have hD : va_D A [W_Braid k b0 o0 v0_truths c1 c2 r4, W_Form k b1 o1 v1_counters v1_bits v1_functions v1_countersAbove v1_functionsAbove v1_rounds].flatten := hD
    have hf := Option.some.inj hf
    subst hf
    exact kvret X hP hD hS dX1_raise_62
/-! Braid_hasRoomFor: boolean hasRoomFor(CounterBraid$Braid); -/
abbrev rm_Braid_hasRoomFor : Room := ({ frames := 0, cells := 0, slots := 0, locals := 0 } : Room)
def f_Braid_hasRoomFor_L2 (v0_truths : FJ) (v1_truths : FJ) (K36 : Int32 → Option (Int32)) : Nat → Int32 → Option (Int32)
  | 0, _ => none
  | n + 1, i1 => if 16 ≤ i1 then K36 i1 else if ck i1 16 = true then if ck i1 16 = true then if ((v0_truths i1.toNatClampNeg) + (v1_truths i1.toNatClampNeg)) ≤ 1000000000 then f_Braid_hasRoomFor_L2 v0_truths v1_truths K36 n (i1 + 1) else some 0 else none else none
def f_Braid_hasRoomFor (N : Nat) (v0_truths : FJ) (v1_truths : FJ) : Option (Int32) := f_Braid_hasRoomFor_L2 v0_truths v1_truths (fun i2 => some 1) N 0
abbrev Q_Braid_hasRoomFor (below : List Frame) (D : va_G) (k : Nat → ClassId) (A : Nat → Prop) (args : Array Value) (s : State) (b0 : Nat → Nat) (o0 : Nat) (v0_truths : FJ) (v0_rests : FI) (v0_marks : FI) (v0_numbers : FJ) (b1 : Nat → Nat) (o1 : Nat) (v1_truths : FJ) (v1_rests : FI) (v1_marks : FI) (v1_numbers : FJ) (out : Int32) : State → Prop := MQ below (QW D k A (some (.int out)) [W_Braid k b0 o0 v0_truths v0_rests v0_marks v0_numbers, W_Braid k b1 o1 v1_truths v1_rests v1_marks v1_numbers].flatten) args s 0 0 A
set_option maxRecDepth 100000 in
set_option maxHeartbeats 1000000 in
theorem w_Braid_hasRoomFor_L2 {p : Program} {l : Launch} {e : Env} {s : State} {m : MethodId} {below : List Frame} {meth : Method} {c : Code} {args : Array Value} {A : Nat → Prop} {D : va_G} {k : Nat → ClassId} {t : Nat → Nat} (X : BX l D k t p s m args meth c cX1_hasRoomFor 3 RX1 (some .boolean) A) (b0 : Nat → Nat) (o0 : Nat) (v0_truths : FJ) (v0_rests : FI) (v0_marks : FI) (v0_numbers : FJ) (b1 : Nat → Nat) (o1 : Nat) (v1_truths : FJ) (v1_rests : FI) (v1_marks : FI) (v1_numbers : FJ) (N : Nat) (out : Int32) (K36 : Int32 → Option (Int32)) (hK36 : ∀ (i1' : Int32) (H : Heap) (locs : List Loc) (ls : Array Slot), va_P D vwCl [W_Braid k b0 o0 v0_truths v0_rests v0_marks v0_numbers, W_Braid k b1 o1 v1_truths v1_rests v1_marks v1_numbers].flatten H → va_D A [W_Braid k b0 o0 v0_truths v0_rests v0_marks v0_numbers, W_Braid k b1 o1 v1_truths v1_rests v1_marks v1_numbers].flatten → va_S A s.heap H locs → lv_has ls 3 [] → K36 i1' = some out → W p l e rm_Braid_hasRoomFor s m args below meth c H locs 0 0 (Q_Braid_hasRoomFor below D k A args s b0 o0 v0_truths v0_rests v0_marks v0_numbers b1 o1 v1_truths v1_rests v1_marks v1_numbers out) (F0 m 36 ls [])) : ∀ (n : Nat) (i1 : Int32) (H : Heap) (locs : List Loc) (ls : Array Slot), va_P D vwCl [W_Braid k b0 o0 v0_truths v0_rests v0_marks v0_numbers, W_Braid k b1 o1 v1_truths v1_rests v1_marks v1_numbers].flatten H → va_D A [W_Braid k b0 o0 v0_truths v0_rests v0_marks v0_numbers, W_Braid k b1 o1 v1_truths v1_rests v1_marks v1_numbers].flatten → va_S A s.heap H locs → lv_has ls 3 [(0, .ref (b0 o0)), (1, .ref (b1 o1)), (2, .int i1)] → f_Braid_hasRoomFor_L2 v0_truths v1_truths K36 n i1 = some out → W p l e rm_Braid_hasRoomFor s m args below meth c H locs 0 0 (Q_Braid_hasRoomFor below D k A args s b0 o0 v0_truths v0_rests v0_marks v0_numbers b1 o1 v1_truths v1_rests v1_marks v1_numbers out) (F0 m 2 ls []) := by
  have hx := X.1.1
  have hb := X.1.2.1
  have hml := X.1.2.2.1
  have hown := X.1.2.2.2.1
  have hts := X.1.2.2.2.2
  intro n
  induction n with
  | zero =>
    intro i1 H locs ls hP hD hS hl hf
    rw [f_Braid_hasRoomFor_L2] at hf
    cases hf
  | succ n ih =>
    intro i1 H locs ls hP hD hS hl hf
    rw [f_Braid_hasRoomFor_L2] at hf
    refine lv_iload_n hx hb dX1_hasRoomFor_2 rfl (lv_at hl 2 rfl) ?_
    refine lv_bipush (v := 16) hx hb dX1_hasRoomFor_3 (by decide) ?_
    refine lv_icmp_ge (tgt := 36) hx hb dX1_hasRoomFor_5 (by decide) (fun hc => ?_) (fun hc => ?_)
    · have hf := ofpos hf hc
      exact hK36 i1 _ _ _ hP hD hS (lv_sub hl [] rfl) hf
    · have hf := ofneg hf hc
      refine lv_aload_n hx hb dX1_hasRoomFor_8 rfl (lv_at hl 0 rfl) ?_
      refine kget (v := .ref (b0 (o0+1))) X hP ff_X1_9 0 rfl rfl dX1_hasRoomFor_9 ?_
      refine lv_iload_n hx hb dX1_hasRoomFor_12 rfl (lv_at hl 2 rfl) ?_
      obtain ⟨hc, hf⟩ := ofck hf
      refine klald (f := v0_truths) (n := 16) X hP 1 rfl hc dX1_hasRoomFor_13 ?_
      refine lv_aload_n hx hb dX1_hasRoomFor_14 rfl (lv_at hl 1 rfl) ?_
      refine kget (v := .ref (b1 (o1+1))) X hP ff_X1_9 5 rfl rfl dX1_hasRoomFor_15 ?_
      refine lv_iload_n hx hb dX1_hasRoomFor_18 rfl (lv_at hl 2 rfl) ?_
      obtain ⟨hc, hf⟩ := ofck hf
      refine klald (f := v1_truths) (n := 16) X hP 6 rfl hc dX1_hasRoomFor_19 ?_
      refine lv_ladd hx hb dX1_hasRoomFor_20 ?_
      refine lv_ldc2 (v := 1000000000) hx hb hown (hts _ kc_X1_58) dX1_hasRoomFor_21 ?_
      refine W.lcmp hx hb dX1_hasRoomFor_24 ?_
      refine lv_if_le (tgt := 30) hx hb dX1_hasRoomFor_25 (by decide) (fun hc => ?_) (fun hc => ?_)
      · have hc := lgm.mp hc
        have hf := ofpos hf hc
        refine lv_iinc (v := i1 + 1) (lv' := [(2, .int (i1 + 1)), (0, .ref (b0 o0)), (1, .ref (b1 o1))]) hx hb dX1_hasRoomFor_30 hl (k := 2) rfl rfl (by decide) rfl (fun ls hl => ?_)
        refine lv_goto (tgt := 2) hx hb dX1_hasRoomFor_33 (by decide) ?_
        exact ih (i1 + 1) _ _ _ hP hD hS (lv_sub hl [1, 2, 0] rfl) hf
      · have hc := fun z => hc (lgm.mpr z)
        have hf := ofneg hf hc
        refine lv_iconst (v := 0) hx hb dX1_hasRoomFor_28 (by decide) ?_
        have hf := Option.some.inj hf
        subst hf
        exact kzret (v := 0) X hP hD hS rfl dX1_hasRoomFor_29
set_option maxRecDepth 100000 in
set_option maxHeartbeats 1000000 in
theorem c_Braid_hasRoomFor (l : Launch) (D : va_G) (k : Nat → ClassId) (t : Nat → Nat) (b0 : Nat → Nat) (o0 : Nat) (v0_truths : FJ) (v0_rests : FI) (v0_marks : FI) (v0_numbers : FJ) (b1 : Nat → Nat) (o1 : Nat) (v1_truths : FJ) (v1_rests : FI) (v1_marks : FI) (v1_numbers : FJ) (N : Nat) (out : Int32) (hf : f_Braid_hasRoomFor N v0_truths v1_truths = some out) : CT l D k t yX1_hasRoomFor cX1_hasRoomFor 3 (some .boolean) rm_Braid_hasRoomFor [.ref (b0 o0), .ref (b1 o1)] [W_Braid k b0 o0 v0_truths v0_rests v0_marks v0_numbers, W_Braid k b1 o1 v1_truths v1_rests v1_marks v1_numbers].flatten (some (.int out)) [W_Braid k b0 o0 v0_truths v0_rests v0_marks v0_numbers, W_Braid k b1 o1 v1_truths v1_rests v1_marks v1_numbers].flatten := by
  refine kofW (by decide) (Nat.le_of_ble_eq_true rfl) ?_
  intro p e s m below meth c A ls X hP hD hS hl
  have hx := X.1.1
  have hb := X.1.2.1
  have hml := X.1.2.2.1
  have hown := X.1.2.2.2.1
  have hts := X.1.2.2.2.2
  have hl : lv_has ls 3 [(0, .ref (b0 o0)), (1, .ref (b1 o1))] := hl
  rw [f_Braid_hasRoomFor] at hf
  refine lv_iconst (v := 0) hx hb dX1_hasRoomFor_0 (by decide) ?_
  refine lv_istore_n (lv' := [(2, .int 0), (0, .ref (b0 o0)), (1, .ref (b1 o1))]) hx hb dX1_hasRoomFor_1 rfl hl (by decide) rfl (fun ls hl => ?_)
  refine w_Braid_hasRoomFor_L2 X b0 o0 v0_truths v0_rests v0_marks v0_numbers b1 o1 v1_truths v1_rests v1_marks v1_numbers N out _ ?_ N 0 _ _ _ hP hD hS (lv_sub hl [1, 2, 0] rfl) hf
  · intro i2 H locs ls hP hD hS hl hf
    refine lv_iconst (v := 1) hx hb dX1_hasRoomFor_36 (by decide) ?_
    have hf := Option.some.inj hf
    subst hf
    exact kzret (v := 1) X hP hD hS rfl dX1_hasRoomFor_37
