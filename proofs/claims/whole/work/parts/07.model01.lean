/-! Model_restAt: private int restAt(int, int); -/
abbrev rm_Model_restAt : Room := ({ frames := 0, cells := 0, slots := 0, locals := 0 } : Room)
def f_Model_restAt (x1 : Int32) (x2 : Int32) (v_row : FI) : Option (Int32) := if ck ((23 + (48 * x1)) + x2) 1002 = true then some (v_row ((23 + (48 * x1)) + x2).toNatClampNeg) else none
abbrev Q_Model_restAt (below : List Frame) (D : va_G) (k : Nat → ClassId) (A : Nat → Prop) (args : Array Value) (s : State) (b0 : Nat → Nat) (o0 : Nat) (v_row : FI) (v_number : FJ) (v_saved : Int32) (v_place : FI) (v_low : FJ) (v_high : FJ) (v_lowBefore : FJ) (v_highBefore : FJ) (v_least : FJ) (v_greatest : FJ) (v_things : Int32) (v_changing : Int32) (v_overLow : FJ) (v_overHigh : FJ) (v_text : FI) (v_length : Int32) (v_at : Int32) (v_readKey : FI) (v_readCount : FJ) (v_keys : Int32) (v_h : Int64) (out : Int32) : State → Prop := MQ below (QW D k A (some (.int out)) [W_Model k b0 o0 v_row v_number v_saved v_place v_low v_high v_lowBefore v_highBefore v_least v_greatest v_things v_changing v_overLow v_overHigh v_text v_length v_at v_readKey v_readCount v_keys v_h].flatten) args s 0 0 A
set_option maxRecDepth 100000 in
set_option maxHeartbeats 1000000 in
theorem c_Model_restAt (l : Launch) (D : va_G) (k : Nat → ClassId) (t : Nat → Nat) (b0 : Nat → Nat) (o0 : Nat) (v_row : FI) (v_number : FJ) (v_saved : Int32) (v_place : FI) (v_low : FJ) (v_high : FJ) (v_lowBefore : FJ) (v_highBefore : FJ) (v_least : FJ) (v_greatest : FJ) (v_things : Int32) (v_changing : Int32) (v_overLow : FJ) (v_overHigh : FJ) (v_text : FI) (v_length : Int32) (v_at : Int32) (v_readKey : FI) (v_readCount : FJ) (v_keys : Int32) (v_h : Int64) (x1 : Int32) (x2 : Int32) (out : Int32) (hf : f_Model_restAt x1 x2 v_row = some out) : CT l D k t yX8_restAt cX8_restAt 3 (some .int) rm_Model_restAt [.ref (b0 o0), .int x1, .int x2] [W_Model k b0 o0 v_row v_number v_saved v_place v_low v_high v_lowBefore v_highBefore v_least v_greatest v_things v_changing v_overLow v_overHigh v_text v_length v_at v_readKey v_readCount v_keys v_h].flatten (some (.int out)) [W_Model k b0 o0 v_row v_number v_saved v_place v_low v_high v_lowBefore v_highBefore v_least v_greatest v_things v_changing v_overLow v_overHigh v_text v_length v_at v_readKey v_readCount v_keys v_h].flatten := by
  refine kofW (by decide) (Nat.le_of_ble_eq_true rfl) ?_
  intro p e s m below meth c A ls X hP hD hS hl
  have N : Nat := 0
  have hx := X.1.1
  have hb := X.1.2.1
  have hml := X.1.2.2.1
  have hown := X.1.2.2.2.1
  have hts := X.1.2.2.2.2
  have hl : lv_has ls 3 [(0, .ref (b0 o0)), (1, .int x1), (2, .int x2)] := hl
  rw [f_Model_restAt] at hf
  refine lv_aload_n hx hb dX8_restAt_0 rfl (lv_at hl 0 rfl) ?_
  refine kget (v := .ref (b0 (o0+1))) X hP ff_X8_7 0 rfl rfl dX8_restAt_1 ?_
  refine lv_bipush (v := 23) hx hb dX8_restAt_4 (by decide) ?_
  refine lv_bipush (v := 48) hx hb dX8_restAt_6 (by decide) ?_
  refine lv_iload_n hx hb dX8_restAt_8 rfl (lv_at hl 1 rfl) ?_
  refine lv_imul hx hb dX8_restAt_9 ?_
  refine lv_iadd hx hb dX8_restAt_10 ?_
  refine lv_iload_n hx hb dX8_restAt_11 rfl (lv_at hl 2 rfl) ?_
  refine lv_iadd hx hb dX8_restAt_12 ?_
  obtain ⟨hc, hf⟩ := ofck hf
  refine kiald (f := v_row) (n := 1002) X hP 1 rfl hc dX8_restAt_13 ?_
  have hf := Option.some.inj hf
  subst hf
  exact kiret (v := v_row ((23 + (48 * x1)) + x2).toNatClampNeg) X hP hD hS dX8_restAt_14
/-! Model_marked: private boolean marked(int, int); -/
abbrev rm_Model_marked : Room := ({ frames := 0, cells := 0, slots := 0, locals := 0 } : Room)
def f_Model_marked (x1 : Int32) (x2 : Int32) (v_row : FI) : Option (Int32) := if ck (((23 + (48 * x1)) + 24) + x2) 1002 = true then if (v_row (((23 + (48 * x1)) + 24) + x2).toNatClampNeg) = 1 then some 1 else some 0 else none
abbrev Q_Model_marked (below : List Frame) (D : va_G) (k : Nat → ClassId) (A : Nat → Prop) (args : Array Value) (s : State) (b0 : Nat → Nat) (o0 : Nat) (v_row : FI) (v_number : FJ) (v_saved : Int32) (v_place : FI) (v_low : FJ) (v_high : FJ) (v_lowBefore : FJ) (v_highBefore : FJ) (v_least : FJ) (v_greatest : FJ) (v_things : Int32) (v_changing : Int32) (v_overLow : FJ) (v_overHigh : FJ) (v_text : FI) (v_length : Int32) (v_at : Int32) (v_readKey : FI) (v_readCount : FJ) (v_keys : Int32) (v_h : Int64) (out : Int32) : State → Prop := MQ below (QW D k A (some (.int out)) [W_Model k b0 o0 v_row v_number v_saved v_place v_low v_high v_lowBefore v_highBefore v_least v_greatest v_things v_changing v_overLow v_overHigh v_text v_length v_at v_readKey v_readCount v_keys v_h].flatten) args s 0 0 A
set_option maxRecDepth 100000 in
set_option maxHeartbeats 1000000 in
theorem c_Model_marked (l : Launch) (D : va_G) (k : Nat → ClassId) (t : Nat → Nat) (b0 : Nat → Nat) (o0 : Nat) (v_row : FI) (v_number : FJ) (v_saved : Int32) (v_place : FI) (v_low : FJ) (v_high : FJ) (v_lowBefore : FJ) (v_highBefore : FJ) (v_least : FJ) (v_greatest : FJ) (v_things : Int32) (v_changing : Int32) (v_overLow : FJ) (v_overHigh : FJ) (v_text : FI) (v_length : Int32) (v_at : Int32) (v_readKey : FI) (v_readCount : FJ) (v_keys : Int32) (v_h : Int64) (x1 : Int32) (x2 : Int32) (out : Int32) (hf : f_Model_marked x1 x2 v_row = some out) : CT l D k t yX8_marked cX8_marked 3 (some .boolean) rm_Model_marked [.ref (b0 o0), .int x1, .int x2] [W_Model k b0 o0 v_row v_number v_saved v_place v_low v_high v_lowBefore v_highBefore v_least v_greatest v_things v_changing v_overLow v_overHigh v_text v_length v_at v_readKey v_readCount v_keys v_h].flatten (some (.int out)) [W_Model k b0 o0 v_row v_number v_saved v_place v_low v_high v_lowBefore v_highBefore v_least v_greatest v_things v_changing v_overLow v_overHigh v_text v_length v_at v_readKey v_readCount v_keys v_h].flatten := by
  refine kofW (by decide) (Nat.le_of_ble_eq_true rfl) ?_
  intro p e s m below meth c A ls X hP hD hS hl
  have N : Nat := 0
  have hx := X.1.1
  have hb := X.1.2.1
  have hml := X.1.2.2.1
  have hown := X.1.2.2.2.1
  have hts := X.1.2.2.2.2
  have hl : lv_has ls 3 [(0, .ref (b0 o0)), (1, .int x1), (2, .int x2)] := hl
  rw [f_Model_marked] at hf
  refine lv_aload_n hx hb dX8_marked_0 rfl (lv_at hl 0 rfl) ?_
  refine kget (v := .ref (b0 (o0+1))) X hP ff_X8_7 0 rfl rfl dX8_marked_1 ?_
  refine lv_bipush (v := 23) hx hb dX8_marked_4 (by decide) ?_
  refine lv_bipush (v := 48) hx hb dX8_marked_6 (by decide) ?_
  refine lv_iload_n hx hb dX8_marked_8 rfl (lv_at hl 1 rfl) ?_
  refine lv_imul hx hb dX8_marked_9 ?_
  refine lv_iadd hx hb dX8_marked_10 ?_
  refine lv_bipush (v := 24) hx hb dX8_marked_11 (by decide) ?_
  refine lv_iadd hx hb dX8_marked_13 ?_
  refine lv_iload_n hx hb dX8_marked_14 rfl (lv_at hl 2 rfl) ?_
  refine lv_iadd hx hb dX8_marked_15 ?_
  obtain ⟨hc, hf⟩ := ofck hf
  refine kiald (f := v_row) (n := 1002) X hP 1 rfl hc dX8_marked_16 ?_
  refine lv_iconst (v := 1) hx hb dX8_marked_17 (by decide) ?_
  refine lv_icmp_ne (tgt := 25) hx hb dX8_marked_18 (by decide) (fun hc => ?_) (fun hc => ?_)
  · have hf := ofneg hf hc
    refine lv_iconst (v := 0) hx hb dX8_marked_25 (by decide) ?_
    have hf := Option.some.inj hf
    subst hf
    exact kzret (v := 0) X hP hD hS rfl dX8_marked_26
  · have hf := ofpos hf hc
    refine lv_iconst (v := 1) hx hb dX8_marked_21 (by decide) ?_
    refine lv_goto (tgt := 26) hx hb dX8_marked_22 (by decide) ?_
    have hf := Option.some.inj hf
    subst hf
    exact kzret (v := 1) X hP hD hS rfl dX8_marked_26
/-! Model_truthAt: private long truthAt(int, int); -/
abbrev rm_Model_truthAt : Room := ({ frames := 0, cells := 0, slots := 0, locals := 0 } : Room)
def f_Model_truthAt (x1 : Int32) (x2 : Int32) (v_number : FJ) : Option (Int64) := if ck ((32 * x1) + x2) 576 = true then some (v_number ((32 * x1) + x2).toNatClampNeg) else none
abbrev Q_Model_truthAt (below : List Frame) (D : va_G) (k : Nat → ClassId) (A : Nat → Prop) (args : Array Value) (s : State) (b0 : Nat → Nat) (o0 : Nat) (v_row : FI) (v_number : FJ) (v_saved : Int32) (v_place : FI) (v_low : FJ) (v_high : FJ) (v_lowBefore : FJ) (v_highBefore : FJ) (v_least : FJ) (v_greatest : FJ) (v_things : Int32) (v_changing : Int32) (v_overLow : FJ) (v_overHigh : FJ) (v_text : FI) (v_length : Int32) (v_at : Int32) (v_readKey : FI) (v_readCount : FJ) (v_keys : Int32) (v_h : Int64) (out : Int64) : State → Prop := MQ below (QW D k A (some (.long out)) [W_Model k b0 o0 v_row v_number v_saved v_place v_low v_high v_lowBefore v_highBefore v_least v_greatest v_things v_changing v_overLow v_overHigh v_text v_length v_at v_readKey v_readCount v_keys v_h].flatten) args s 0 0 A
set_option maxRecDepth 100000 in
set_option maxHeartbeats 1000000 in
theorem c_Model_truthAt (l : Launch) (D : va_G) (k : Nat → ClassId) (t : Nat → Nat) (b0 : Nat → Nat) (o0 : Nat) (v_row : FI) (v_number : FJ) (v_saved : Int32) (v_place : FI) (v_low : FJ) (v_high : FJ) (v_lowBefore : FJ) (v_highBefore : FJ) (v_least : FJ) (v_greatest : FJ) (v_things : Int32) (v_changing : Int32) (v_overLow : FJ) (v_overHigh : FJ) (v_text : FI) (v_length : Int32) (v_at : Int32) (v_readKey : FI) (v_readCount : FJ) (v_keys : Int32) (v_h : Int64) (x1 : Int32) (x2 : Int32) (out : Int64) (hf : f_Model_truthAt x1 x2 v_number = some out) : CT l D k t yX8_truthAt cX8_truthAt 3 (some .long) rm_Model_truthAt [.ref (b0 o0), .int x1, .int x2] [W_Model k b0 o0 v_row v_number v_saved v_place v_low v_high v_lowBefore v_highBefore v_least v_greatest v_things v_changing v_overLow v_overHigh v_text v_length v_at v_readKey v_readCount v_keys v_h].flatten (some (.long out)) [W_Model k b0 o0 v_row v_number v_saved v_place v_low v_high v_lowBefore v_highBefore v_least v_greatest v_things v_changing v_overLow v_overHigh v_text v_length v_at v_readKey v_readCount v_keys v_h].flatten := by
  refine kofW (by decide) (Nat.le_of_ble_eq_true rfl) ?_
  intro p e s m below meth c A ls X hP hD hS hl
  have N : Nat := 0
  have hx := X.1.1
  have hb := X.1.2.1
  have hml := X.1.2.2.1
  have hown := X.1.2.2.2.1
  have hts := X.1.2.2.2.2
  have hl : lv_has ls 3 [(0, .ref (b0 o0)), (1, .int x1), (2, .int x2)] := hl
  rw [f_Model_truthAt] at hf
  refine lv_aload_n hx hb dX8_truthAt_0 rfl (lv_at hl 0 rfl) ?_
  refine kget (v := .ref (b0 (o0+2))) X hP ff_X8_13 0 rfl rfl dX8_truthAt_1 ?_
  refine lv_bipush (v := 32) hx hb dX8_truthAt_4 (by decide) ?_
  refine lv_iload_n hx hb dX8_truthAt_6 rfl (lv_at hl 1 rfl) ?_
  refine lv_imul hx hb dX8_truthAt_7 ?_
  refine lv_iload_n hx hb dX8_truthAt_8 rfl (lv_at hl 2 rfl) ?_
  refine lv_iadd hx hb dX8_truthAt_9 ?_
  obtain ⟨hc, hf⟩ := ofck hf
  refine klald (f := v_number) (n := 576) X hP 2 rfl hc dX8_truthAt_10 ?_
  have hf := Option.some.inj hf
  subst hf
  exact klret (v := v_number ((32 * x1) + x2).toNatClampNeg) X hP hD hS dX8_truthAt_11
/-! Model_aboveAt: private long aboveAt(int, int); -/
abbrev rm_Model_aboveAt : Room := ({ frames := 0, cells := 0, slots := 0, locals := 0 } : Room)
def f_Model_aboveAt (x1 : Int32) (x2 : Int32) (v_number : FJ) : Option (Int64) := if ck (((32 * x1) + 16) + x2) 576 = true then some (v_number (((32 * x1) + 16) + x2).toNatClampNeg) else none
abbrev Q_Model_aboveAt (below : List Frame) (D : va_G) (k : Nat → ClassId) (A : Nat → Prop) (args : Array Value) (s : State) (b0 : Nat → Nat) (o0 : Nat) (v_row : FI) (v_number : FJ) (v_saved : Int32) (v_place : FI) (v_low : FJ) (v_high : FJ) (v_lowBefore : FJ) (v_highBefore : FJ) (v_least : FJ) (v_greatest : FJ) (v_things : Int32) (v_changing : Int32) (v_overLow : FJ) (v_overHigh : FJ) (v_text : FI) (v_length : Int32) (v_at : Int32) (v_readKey : FI) (v_readCount : FJ) (v_keys : Int32) (v_h : Int64) (out : Int64) : State → Prop := MQ below (QW D k A (some (.long out)) [W_Model k b0 o0 v_row v_number v_saved v_place v_low v_high v_lowBefore v_highBefore v_least v_greatest v_things v_changing v_overLow v_overHigh v_text v_length v_at v_readKey v_readCount v_keys v_h].flatten) args s 0 0 A
set_option maxRecDepth 100000 in
set_option maxHeartbeats 1000000 in
theorem c_Model_aboveAt (l : Launch) (D : va_G) (k : Nat → ClassId) (t : Nat → Nat) (b0 : Nat → Nat) (o0 : Nat) (v_row : FI) (v_number : FJ) (v_saved : Int32) (v_place : FI) (v_low : FJ) (v_high : FJ) (v_lowBefore : FJ) (v_highBefore : FJ) (v_least : FJ) (v_greatest : FJ) (v_things : Int32) (v_changing : Int32) (v_overLow : FJ) (v_overHigh : FJ) (v_text : FI) (v_length : Int32) (v_at : Int32) (v_readKey : FI) (v_readCount : FJ) (v_keys : Int32) (v_h : Int64) (x1 : Int32) (x2 : Int32) (out : Int64) (hf : f_Model_aboveAt x1 x2 v_number = some out) : CT l D k t yX8_aboveAt cX8_aboveAt 3 (some .long) rm_Model_aboveAt [.ref (b0 o0), .int x1, .int x2] [W_Model k b0 o0 v_row v_number v_saved v_place v_low v_high v_lowBefore v_highBefore v_least v_greatest v_things v_changing v_overLow v_overHigh v_text v_length v_at v_readKey v_readCount v_keys v_h].flatten (some (.long out)) [W_Model k b0 o0 v_row v_number v_saved v_place v_low v_high v_lowBefore v_highBefore v_least v_greatest v_things v_changing v_overLow v_overHigh v_text v_length v_at v_readKey v_readCount v_keys v_h].flatten := by
  refine kofW (by decide) (Nat.le_of_ble_eq_true rfl) ?_
  intro p e s m below meth c A ls X hP hD hS hl
  have N : Nat := 0
  have hx := X.1.1
  have hb := X.1.2.1
  have hml := X.1.2.2.1
  have hown := X.1.2.2.2.1
  have hts := X.1.2.2.2.2
  have hl : lv_has ls 3 [(0, .ref (b0 o0)), (1, .int x1), (2, .int x2)] := hl
  rw [f_Model_aboveAt] at hf
  refine lv_aload_n hx hb dX8_aboveAt_0 rfl (lv_at hl 0 rfl) ?_
  refine kget (v := .ref (b0 (o0+2))) X hP ff_X8_13 0 rfl rfl dX8_aboveAt_1 ?_
  refine lv_bipush (v := 32) hx hb dX8_aboveAt_4 (by decide) ?_
  refine lv_iload_n hx hb dX8_aboveAt_6 rfl (lv_at hl 1 rfl) ?_
  refine lv_imul hx hb dX8_aboveAt_7 ?_
  refine lv_bipush (v := 16) hx hb dX8_aboveAt_8 (by decide) ?_
  refine lv_iadd hx hb dX8_aboveAt_10 ?_
  refine lv_iload_n hx hb dX8_aboveAt_11 rfl (lv_at hl 2 rfl) ?_
  refine lv_iadd hx hb dX8_aboveAt_12 ?_
  obtain ⟨hc, hf⟩ := ofck hf
  refine klald (f := v_number) (n := 576) X hP 2 rfl hc dX8_aboveAt_13 ?_
  have hf := Option.some.inj hf
  subst hf
  exact klret (v := v_number (((32 * x1) + 16) + x2).toNatClampNeg) X hP hD hS dX8_aboveAt_14
/-! Model_empties: private void empties(int); -/
abbrev rm_Model_empties : Room := ({ frames := 0, cells := 0, slots := 0, locals := 0 } : Room)
def f_Model_empties_L2 (i2 : Int32) (K29 : Int32 → FI → Option (FI × FJ)) : Nat → Int32 → FI → Option (FI × FJ)
  | 0, _, _ => none
  | n + 1, i3, c4 => if 48 ≤ i3 then K29 i3 c4 else if ck ((23 + (48 * i2)) + i3) 1002 = true then f_Model_empties_L2 i2 K29 n (i3 + 1) (upd c4 ((23 + (48 * i2)) + i3).toNatClampNeg 0) else none
def f_Model_empties_L31 (i10 : Int32) (K55 : Int32 → FJ → Option (FI × FJ)) : Nat → Int32 → FJ → Option (FI × FJ)
  | 0, _, _ => none
  | n + 1, i11, c13 => if 32 ≤ i11 then K55 i11 c13 else if ck ((32 * i10) + i11) 576 = true then f_Model_empties_L31 i10 K55 n (i11 + 1) (vp_updL c13 ((32 * i10) + i11).toNatClampNeg 0) else none
def f_Model_empties (N : Nat) (x1 : Int32) (v_row : FI) (v_number : FJ) : Option (FI × FJ) := f_Model_empties_L2 x1 (fun i7 c8 => f_Model_empties_L31 x1 (fun i15 c16 => some (c8, c16)) N 0 v_number) N 0 v_row
abbrev Q_Model_empties (below : List Frame) (D : va_G) (k : Nat → ClassId) (A : Nat → Prop) (args : Array Value) (s : State) (b0 : Nat → Nat) (o0 : Nat) (v_row : FI) (v_number : FJ) (v_saved : Int32) (v_place : FI) (v_low : FJ) (v_high : FJ) (v_lowBefore : FJ) (v_highBefore : FJ) (v_least : FJ) (v_greatest : FJ) (v_things : Int32) (v_changing : Int32) (v_overLow : FJ) (v_overHigh : FJ) (v_text : FI) (v_length : Int32) (v_at : Int32) (v_readKey : FI) (v_readCount : FJ) (v_keys : Int32) (v_h : Int64) (out : FI × FJ) : State → Prop := MQ below (QW D k A none [W_Model k b0 o0 out.1 out.2 v_saved v_place v_low v_high v_lowBefore v_highBefore v_least v_greatest v_things v_changing v_overLow v_overHigh v_text v_length v_at v_readKey v_readCount v_keys v_h].flatten) args s 0 0 A
set_option maxRecDepth 100000 in
set_option maxHeartbeats 1000000 in
theorem w_Model_empties_L2 {p : Program} {l : Launch} {e : Env} {s : State} {m : MethodId} {below : List Frame} {meth : Method} {c : Code} {args : Array Value} {A : Nat → Prop} {D : va_G} {k : Nat → ClassId} {t : Nat → Nat} (X : BX l D k t p s m args meth c cX8_empties 3 RX8 none A) (b0 : Nat → Nat) (o0 : Nat) (v_row : FI) (v_number : FJ) (v_saved : Int32) (v_place : FI) (v_low : FJ) (v_high : FJ) (v_lowBefore : FJ) (v_highBefore : FJ) (v_least : FJ) (v_greatest : FJ) (v_things : Int32) (v_changing : Int32) (v_overLow : FJ) (v_overHigh : FJ) (v_text : FI) (v_length : Int32) (v_at : Int32) (v_readKey : FI) (v_readCount : FJ) (v_keys : Int32) (v_h : Int64) (N : Nat) (i2 : Int32) (c5 : FJ) (out : FI × FJ) (K29 : Int32 → FI → Option (FI × FJ)) (hK29 : ∀ (i3' : Int32) (c4' : FI) (H : Heap) (locs : List Loc) (ls : Array Slot), va_P D vwCl [W_Model k b0 o0 c4' c5 v_saved v_place v_low v_high v_lowBefore v_highBefore v_least v_greatest v_things v_changing v_overLow v_overHigh v_text v_length v_at v_readKey v_readCount v_keys v_h].flatten H → va_D A [W_Model k b0 o0 c4' c5 v_saved v_place v_low v_high v_lowBefore v_highBefore v_least v_greatest v_things v_changing v_overLow v_overHigh v_text v_length v_at v_readKey v_readCount v_keys v_h].flatten → va_S A s.heap H locs → lv_has ls 3 [(0, .ref (b0 o0)), (1, .int i2)] → K29 i3' c4' = some out → W p l e rm_Model_empties s m args below meth c H locs 0 0 (Q_Model_empties below D k A args s b0 o0 v_row v_number v_saved v_place v_low v_high v_lowBefore v_highBefore v_least v_greatest v_things v_changing v_overLow v_overHigh v_text v_length v_at v_readKey v_readCount v_keys v_h out) (F0 m 29 ls [])) : ∀ (n : Nat) (i3 : Int32) (c4 : FI) (H : Heap) (locs : List Loc) (ls : Array Slot), va_P D vwCl [W_Model k b0 o0 c4 c5 v_saved v_place v_low v_high v_lowBefore v_highBefore v_least v_greatest v_things v_changing v_overLow v_overHigh v_text v_length v_at v_readKey v_readCount v_keys v_h].flatten H → va_D A [W_Model k b0 o0 c4 c5 v_saved v_place v_low v_high v_lowBefore v_highBefore v_least v_greatest v_things v_changing v_overLow v_overHigh v_text v_length v_at v_readKey v_readCount v_keys v_h].flatten → va_S A s.heap H locs → lv_has ls 3 [(0, .ref (b0 o0)), (1, .int i2), (2, .int i3)] → f_Model_empties_L2 i2 K29 n i3 c4 = some out → W p l e rm_Model_empties s m args below meth c H locs 0 0 (Q_Model_empties below D k A args s b0 o0 v_row v_number v_saved v_place v_low v_high v_lowBefore v_highBefore v_least v_greatest v_things v_changing v_overLow v_overHigh v_text v_length v_at v_readKey v_readCount v_keys v_h out) (F0 m 2 ls []) := by
  have hx := X.1.1
  have hb := X.1.2.1
  have hml := X.1.2.2.1
  have hown := X.1.2.2.2.1
  have hts := X.1.2.2.2.2
  intro n
  induction n with
  | zero =>
    intro i3 c4 H locs ls hP hD hS hl hf
    rw [f_Model_empties_L2] at hf
    cases hf
  | succ n ih =>
    intro i3 c4 H locs ls hP hD hS hl hf
    rw [f_Model_empties_L2] at hf
    refine lv_iload_n hx hb dX8_empties_2 rfl (lv_at hl 2 rfl) ?_
    refine lv_bipush (v := 48) hx hb dX8_empties_3 (by decide) ?_
    refine lv_icmp_ge (tgt := 29) hx hb dX8_empties_5 (by decide) (fun hc => ?_) (fun hc => ?_)
    · have hf := ofpos hf hc
      exact hK29 i3 c4 _ _ _ hP hD hS (lv_sub hl [0, 1] rfl) hf
    · have hf := ofneg hf hc
      refine lv_aload_n hx hb dX8_empties_8 rfl (lv_at hl 0 rfl) ?_
      refine kget (v := .ref (b0 (o0+1))) X hP ff_X8_7 0 rfl rfl dX8_empties_9 ?_
      refine lv_bipush (v := 23) hx hb dX8_empties_12 (by decide) ?_
      refine lv_bipush (v := 48) hx hb dX8_empties_14 (by decide) ?_
      refine lv_iload_n hx hb dX8_empties_16 rfl (lv_at hl 1 rfl) ?_
      refine lv_imul hx hb dX8_empties_17 ?_
      refine lv_iadd hx hb dX8_empties_18 ?_
      refine lv_iload_n hx hb dX8_empties_19 rfl (lv_at hl 2 rfl) ?_
      refine lv_iadd hx hb dX8_empties_20 ?_
      refine lv_iconst (v := 0) hx hb dX8_empties_21 (by decide) ?_
      obtain ⟨hc, hf⟩ := ofck hf
      generalize hc6 : upd c4 ((23 + (48 * i2)) + i3).toNatClampNeg 0 = c6 at hf
      refine kiast2 (f := c4) (n := 1002) (g := c6) X hP hD hS 1 rfl hc hc6 dX8_empties_22 (fun H locs hP hD hS => ?_)
      have hP : va_P D vwCl [W_Model k b0 o0 c6 c5 v_saved v_place v_low v_high v_lowBefore v_highBefore v_least v_greatest v_things v_changing v_overLow v_overHigh v_text v_length v_at v_readKey v_readCount v_keys v_h].flatten _ := hP
      have hD : va_D A [W_Model k b0 o0 c6 c5 v_saved v_place v_low v_high v_lowBefore v_highBefore v_least v_greatest v_things v_changing v_overLow v_overHigh v_text v_length v_at v_readKey v_readCount v_keys v_h].flatten := hD
      refine lv_iinc (v := i3 + 1) (lv' := [(2, .int (i3 + 1)), (0, .ref (b0 o0)), (1, .int i2)]) hx hb dX8_empties_23 hl (k := 2) rfl rfl (by decide) rfl (fun ls hl => ?_)
      refine lv_goto (tgt := 2) hx hb dX8_empties_26 (by decide) ?_
      exact ih (i3 + 1) c6 _ _ _ hP hD hS (lv_sub hl [1, 2, 0] rfl) hf
set_option maxRecDepth 100000 in
set_option maxHeartbeats 1000000 in
theorem w_Model_empties_L31 {p : Program} {l : Launch} {e : Env} {s : State} {m : MethodId} {below : List Frame} {meth : Method} {c : Code} {args : Array Value} {A : Nat → Prop} {D : va_G} {k : Nat → ClassId} {t : Nat → Nat} (X : BX l D k t p s m args meth c cX8_empties 3 RX8 none A) (b0 : Nat → Nat) (o0 : Nat) (v_row : FI) (v_number : FJ) (v_saved : Int32) (v_place : FI) (v_low : FJ) (v_high : FJ) (v_lowBefore : FJ) (v_highBefore : FJ) (v_least : FJ) (v_greatest : FJ) (v_things : Int32) (v_changing : Int32) (v_overLow : FJ) (v_overHigh : FJ) (v_text : FI) (v_length : Int32) (v_at : Int32) (v_readKey : FI) (v_readCount : FJ) (v_keys : Int32) (v_h : Int64) (N : Nat) (i10 : Int32) (c12 : FI) (out : FI × FJ) (K55 : Int32 → FJ → Option (FI × FJ)) (hK55 : ∀ (i11' : Int32) (c13' : FJ) (H : Heap) (locs : List Loc) (ls : Array Slot), va_P D vwCl [W_Model k b0 o0 c12 c13' v_saved v_place v_low v_high v_lowBefore v_highBefore v_least v_greatest v_things v_changing v_overLow v_overHigh v_text v_length v_at v_readKey v_readCount v_keys v_h].flatten H → va_D A [W_Model k b0 o0 c12 c13' v_saved v_place v_low v_high v_lowBefore v_highBefore v_least v_greatest v_things v_changing v_overLow v_overHigh v_text v_length v_at v_readKey v_readCount v_keys v_h].flatten → va_S A s.heap H locs → lv_has ls 3 [] → K55 i11' c13' = some out → W p l e rm_Model_empties s m args below meth c H locs 0 0 (Q_Model_empties below D k A args s b0 o0 v_row v_number v_saved v_place v_low v_high v_lowBefore v_highBefore v_least v_greatest v_things v_changing v_overLow v_overHigh v_text v_length v_at v_readKey v_readCount v_keys v_h out) (F0 m 55 ls [])) : ∀ (n : Nat) (i11 : Int32) (c13 : FJ) (H : Heap) (locs : List Loc) (ls : Array Slot), va_P D vwCl [W_Model k b0 o0 c12 c13 v_saved v_place v_low v_high v_lowBefore v_highBefore v_least v_greatest v_things v_changing v_overLow v_overHigh v_text v_length v_at v_readKey v_readCount v_keys v_h].flatten H → va_D A [W_Model k b0 o0 c12 c13 v_saved v_place v_low v_high v_lowBefore v_highBefore v_least v_greatest v_things v_changing v_overLow v_overHigh v_text v_length v_at v_readKey v_readCount v_keys v_h].flatten → va_S A s.heap H locs → lv_has ls 3 [(0, .ref (b0 o0)), (1, .int i10), (2, .int i11)] → f_Model_empties_L31 i10 K55 n i11 c13 = some out → W p l e rm_Model_empties s m args below meth c H locs 0 0 (Q_Model_empties below D k A args s b0 o0 v_row v_number v_saved v_place v_low v_high v_lowBefore v_highBefore v_least v_greatest v_things v_changing v_overLow v_overHigh v_text v_length v_at v_readKey v_readCount v_keys v_h out) (F0 m 31 ls []) := by
  have hx := X.1.1
  have hb := X.1.2.1
  have hml := X.1.2.2.1
  have hown := X.1.2.2.2.1
  have hts := X.1.2.2.2.2
  intro n
  induction n with
  | zero =>
    intro i11 c13 H locs ls hP hD hS hl hf
    rw [f_Model_empties_L31] at hf
    cases hf
  | succ n ih =>
    intro i11 c13 H locs ls hP hD hS hl hf
    rw [f_Model_empties_L31] at hf
    refine lv_iload_n hx hb dX8_empties_31 rfl (lv_at hl 2 rfl) ?_
    refine lv_bipush (v := 32) hx hb dX8_empties_32 (by decide) ?_
    refine lv_icmp_ge (tgt := 55) hx hb dX8_empties_34 (by decide) (fun hc => ?_) (fun hc => ?_)
    · have hf := ofpos hf hc
      exact hK55 i11 c13 _ _ _ hP hD hS (lv_sub hl [] rfl) hf
    · have hf := ofneg hf hc
      refine lv_aload_n hx hb dX8_empties_37 rfl (lv_at hl 0 rfl) ?_
      refine kget (v := .ref (b0 (o0+2))) X hP ff_X8_13 0 rfl rfl dX8_empties_38 ?_
      refine lv_bipush (v := 32) hx hb dX8_empties_41 (by decide) ?_
      refine lv_iload_n hx hb dX8_empties_43 rfl (lv_at hl 1 rfl) ?_
      refine lv_imul hx hb dX8_empties_44 ?_
      refine lv_iload_n hx hb dX8_empties_45 rfl (lv_at hl 2 rfl) ?_
      refine lv_iadd hx hb dX8_empties_46 ?_
      refine lv_lconst (v := 0) hx hb dX8_empties_47 (by decide) ?_
      obtain ⟨hc, hf⟩ := ofck hf
      generalize hc14 : vp_updL c13 ((32 * i10) + i11).toNatClampNeg 0 = c14 at hf
      refine klast2 (f := c13) (n := 576) (g := c14) X hP hD hS 2 rfl hc hc14 dX8_empties_48 (fun H locs hP hD hS => ?_)
      have hP : va_P D vwCl [W_Model k b0 o0 c12 c14 v_saved v_place v_low v_high v_lowBefore v_highBefore v_least v_greatest v_things v_changing v_overLow v_overHigh v_text v_length v_at v_readKey v_readCount v_keys v_h].flatten _ := hP
      have hD : va_D A [W_Model k b0 o0 c12 c14 v_saved v_place v_low v_high v_lowBefore v_highBefore v_least v_greatest v_things v_changing v_overLow v_overHigh v_text v_length v_at v_readKey v_readCount v_keys v_h].flatten := hD
      refine lv_iinc (v := i11 + 1) (lv' := [(2, .int (i11 + 1)), (0, .ref (b0 o0)), (1, .int i10)]) hx hb dX8_empties_49 hl (k := 2) rfl rfl (by decide) rfl (fun ls hl => ?_)
      refine lv_goto (tgt := 31) hx hb dX8_empties_52 (by decide) ?_
      exact ih (i11 + 1) c14 _ _ _ hP hD hS (lv_sub hl [1, 2, 0] rfl) hf
set_option maxRecDepth 100000 in
set_option maxHeartbeats 1000000 in
theorem c_Model_empties (l : Launch) (D : va_G) (k : Nat → ClassId) (t : Nat → Nat) (b0 : Nat → Nat) (o0 : Nat) (v_row : FI) (v_number : FJ) (v_saved : Int32) (v_place : FI) (v_low : FJ) (v_high : FJ) (v_lowBefore : FJ) (v_highBefore : FJ) (v_least : FJ) (v_greatest : FJ) (v_things : Int32) (v_changing : Int32) (v_overLow : FJ) (v_overHigh : FJ) (v_text : FI) (v_length : Int32) (v_at : Int32) (v_readKey : FI) (v_readCount : FJ) (v_keys : Int32) (v_h : Int64) (x1 : Int32) (N : Nat) (out : FI × FJ) (hf : f_Model_empties N x1 v_row v_number = some out) : CT l D k t yX8_empties cX8_empties 3 none rm_Model_empties [.ref (b0 o0), .int x1] [W_Model k b0 o0 v_row v_number v_saved v_place v_low v_high v_lowBefore v_highBefore v_least v_greatest v_things v_changing v_overLow v_overHigh v_text v_length v_at v_readKey v_readCount v_keys v_h].flatten none [W_Model k b0 o0 out.1 out.2 v_saved v_place v_low v_high v_lowBefore v_highBefore v_least v_greatest v_things v_changing v_overLow v_overHigh v_text v_length v_at v_readKey v_readCount v_keys v_h].flatten := by
  refine kofW (by decide) (Nat.le_of_ble_eq_true rfl) ?_
  intro p e s m below meth c A ls X hP hD hS hl
  have hx := X.1.1
  have hb := X.1.2.1
  have hml := X.1.2.2.1
  have hown := X.1.2.2.2.1
  have hts := X.1.2.2.2.2
  have hl : lv_has ls 3 [(0, .ref (b0 o0)), (1, .int x1)] := hl
  rw [f_Model_empties] at hf
  refine lv_iconst (v := 0) hx hb dX8_empties_0 (by decide) ?_
  refine lv_istore_n (lv' := [(2, .int 0), (0, .ref (b0 o0)), (1, .int x1)]) hx hb dX8_empties_1 rfl hl (by decide) rfl (fun ls hl => ?_)
  refine w_Model_empties_L2 X b0 o0 v_row v_number v_saved v_place v_low v_high v_lowBefore v_highBefore v_least v_greatest v_things v_changing v_overLow v_overHigh v_text v_length v_at v_readKey v_readCount v_keys v_h N x1 v_number out _ ?_ N 0 v_row _ _ _ hP hD hS (lv_sub hl [1, 2, 0] rfl) hf
  · intro i7 c8 H locs ls hP hD hS hl hf
    refine lv_iconst (v := 0) hx hb dX8_empties_29 (by decide) ?_
    refine lv_istore_n (lv' := [(2, .int 0), (0, .ref (b0 o0)), (1, .int x1)]) hx hb dX8_empties_30 rfl hl (by decide) rfl (fun ls hl => ?_)
    refine w_Model_empties_L31 X b0 o0 v_row v_number v_saved v_place v_low v_high v_lowBefore v_highBefore v_least v_greatest v_things v_changing v_overLow v_overHigh v_text v_length v_at v_readKey v_readCount v_keys v_h N x1 c8 out _ ?_ N 0 v_number _ _ _ hP hD hS (lv_sub hl [1, 2, 0] rfl) hf
    · intro i15 c16 H locs ls hP hD hS hl hf
      have hf := Option.some.inj hf
      subst hf
      exact kvret X hP hD hS dX8_empties_55
/-! Model_placesOf: private int placesOf(int); -/
abbrev rm_Model_placesOf : Room := ({ frames := 0, cells := 0, slots := 0, locals := 0 } : Room)
def f_Model_placesOf_J78 (j8 : Int32) (j9 : Int32) (j10 : Int32) (j11 : Int32) (t12 : Int32) (v_row : FI) (B4 : Int32 → Int32 → Option (Int32)) : Option (Int32) := if ck 0 1002 = true then if (v_row (0 : Int32).toNatClampNeg) = 0 then none else B4 (j9 ||| (1 <<< (((((j8 * j11) + t12) - ((j8 * j11) + t12) / 1009 * 1009) - (((j8 * j11) + t12) - ((j8 * j11) + t12) / 1009 * 1009) / (v_row (0 : Int32).toNatClampNeg) * (v_row (0 : Int32).toNatClampNeg)) &&& 31))) (j10 + 1) else none
def f_Model_placesOf_J46 (j4 : Int32) (j5 : Int32) (j6 : Int32) (t7 : Int32) (v_row : FI) (B4 : Int32 → Int32 → Option (Int32)) : Option (Int32) := if j6 = 0 then f_Model_placesOf_J78 j4 j5 j6 t7 5 v_row B4 else if j6 = 1 then f_Model_placesOf_J78 j4 j5 j6 t7 17 v_row B4 else if j6 = 2 then f_Model_placesOf_J78 j4 j5 j6 t7 29 v_row B4 else f_Model_placesOf_J78 j4 j5 j6 t7 53 v_row B4
def f_Model_placesOf_L4 (i1 : Int32) (v_row : FI) (K109 : Int32 → Int32 → Option (Int32)) : Nat → Int32 → Int32 → Option (Int32)
  | 0, _, _ => none
  | n + 1, i2, i3 => if ck 2 1002 = true then if (v_row (2 : Int32).toNatClampNeg) ≤ i3 then K109 i2 i3 else if i3 = 0 then f_Model_placesOf_J46 i1 i2 i3 41 v_row (f_Model_placesOf_L4 i1 v_row K109 n) else if i3 = 1 then f_Model_placesOf_J46 i1 i2 i3 73 v_row (f_Model_placesOf_L4 i1 v_row K109 n) else if i3 = 2 then f_Model_placesOf_J46 i1 i2 i3 97 v_row (f_Model_placesOf_L4 i1 v_row K109 n) else f_Model_placesOf_J46 i1 i2 i3 131 v_row (f_Model_placesOf_L4 i1 v_row K109 n) else none
def f_Model_placesOf (N : Nat) (x1 : Int32) (v_row : FI) : Option (Int32) := f_Model_placesOf_L4 x1 v_row (fun i13 i14 => some i13) N 0 0
abbrev Q_Model_placesOf (below : List Frame) (D : va_G) (k : Nat → ClassId) (A : Nat → Prop) (args : Array Value) (s : State) (b0 : Nat → Nat) (o0 : Nat) (v_row : FI) (v_number : FJ) (v_saved : Int32) (v_place : FI) (v_low : FJ) (v_high : FJ) (v_lowBefore : FJ) (v_highBefore : FJ) (v_least : FJ) (v_greatest : FJ) (v_things : Int32) (v_changing : Int32) (v_overLow : FJ) (v_overHigh : FJ) (v_text : FI) (v_length : Int32) (v_at : Int32) (v_readKey : FI) (v_readCount : FJ) (v_keys : Int32) (v_h : Int64) (out : Int32) : State → Prop := MQ below (QW D k A (some (.int out)) [W_Model k b0 o0 v_row v_number v_saved v_place v_low v_high v_lowBefore v_highBefore v_least v_greatest v_things v_changing v_overLow v_overHigh v_text v_length v_at v_readKey v_readCount v_keys v_h].flatten) args s 0 0 A
set_option maxRecDepth 100000 in
set_option maxHeartbeats 1000000 in
theorem w_Model_placesOf_J78 {p : Program} {l : Launch} {e : Env} {s : State} {m : MethodId} {below : List Frame} {meth : Method} {c : Code} {args : Array Value} {A : Nat → Prop} {D : va_G} {k : Nat → ClassId} {t : Nat → Nat} (X : BX l D k t p s m args meth c cX8_placesOf 6 RX8 (some .int) A) (b0 : Nat → Nat) (o0 : Nat) (v_row : FI) (v_number : FJ) (v_saved : Int32) (v_place : FI) (v_low : FJ) (v_high : FJ) (v_lowBefore : FJ) (v_highBefore : FJ) (v_least : FJ) (v_greatest : FJ) (v_things : Int32) (v_changing : Int32) (v_overLow : FJ) (v_overHigh : FJ) (v_text : FI) (v_length : Int32) (v_at : Int32) (v_readKey : FI) (v_readCount : FJ) (v_keys : Int32) (v_h : Int64) (N : Nat) (j8 : Int32) (j9 : Int32) (j10 : Int32) (j11 : Int32) (t12 : Int32) (out : Int32) (B4 : Int32 → Int32 → Option (Int32)) (hB4 : ∀ (i2' : Int32) (i3' : Int32) (H : Heap) (locs : List Loc) (ls : Array Slot), va_P D vwCl [W_Model k b0 o0 v_row v_number v_saved v_place v_low v_high v_lowBefore v_highBefore v_least v_greatest v_things v_changing v_overLow v_overHigh v_text v_length v_at v_readKey v_readCount v_keys v_h].flatten H → va_D A [W_Model k b0 o0 v_row v_number v_saved v_place v_low v_high v_lowBefore v_highBefore v_least v_greatest v_things v_changing v_overLow v_overHigh v_text v_length v_at v_readKey v_readCount v_keys v_h].flatten → va_S A s.heap H locs → lv_has ls 6 [(0, .ref (b0 o0)), (1, .int j8), (2, .int i2'), (3, .int i3')] → B4 i2' i3' = some out → W p l e rm_Model_placesOf s m args below meth c H locs 0 0 (Q_Model_placesOf below D k A args s b0 o0 v_row v_number v_saved v_place v_low v_high v_lowBefore v_highBefore v_least v_greatest v_things v_changing v_overLow v_overHigh v_text v_length v_at v_readKey v_readCount v_keys v_h out) (F0 m 4 ls [])) : ∀ (H : Heap) (locs : List Loc) (ls : Array Slot), va_P D vwCl [W_Model k b0 o0 v_row v_number v_saved v_place v_low v_high v_lowBefore v_highBefore v_least v_greatest v_things v_changing v_overLow v_overHigh v_text v_length v_at v_readKey v_readCount v_keys v_h].flatten H → va_D A [W_Model k b0 o0 v_row v_number v_saved v_place v_low v_high v_lowBefore v_highBefore v_least v_greatest v_things v_changing v_overLow v_overHigh v_text v_length v_at v_readKey v_readCount v_keys v_h].flatten → va_S A s.heap H locs → lv_has ls 6 [(0, .ref (b0 o0)), (1, .int j8), (2, .int j9), (3, .int j10), (4, .int j11)] → f_Model_placesOf_J78 j8 j9 j10 j11 t12 v_row B4 = some out → W p l e rm_Model_placesOf s m args below meth c H locs 0 0 (Q_Model_placesOf below D k A args s b0 o0 v_row v_number v_saved v_place v_low v_high v_lowBefore v_highBefore v_least v_greatest v_things v_changing v_overLow v_overHigh v_text v_length v_at v_readKey v_readCount v_keys v_h out) (F0 m 78 ls [.int t12]) := by
  have hx := X.1.1
  have hb := X.1.2.1
  have hml := X.1.2.2.1
  have hown := X.1.2.2.2.1
  have hts := X.1.2.2.2.2
  intro H locs ls hP hD hS hl hf
  rw [f_Model_placesOf_J78] at hf
  refine lv_istore (lv' := [(5, .int t12), (0, .ref (b0 o0)), (1, .int j8), (2, .int j9), (3, .int j10), (4, .int j11)]) hx hb dX8_placesOf_78 hl (by decide) rfl (fun ls hl => ?_)
  refine lv_iload_n hx hb dX8_placesOf_80 rfl (lv_at hl 3 rfl) ?_
  refine lv_iconst (v := 1) hx hb dX8_placesOf_81 (by decide) ?_
  refine lv_iload_n hx hb dX8_placesOf_82 rfl (lv_at hl 2 rfl) ?_
  refine lv_iload hx hb dX8_placesOf_83 (lv_at hl 5 rfl) ?_
  refine lv_imul hx hb dX8_placesOf_85 ?_
  refine lv_iload hx hb dX8_placesOf_86 (lv_at hl 0 rfl) ?_
  refine lv_iadd hx hb dX8_placesOf_88 ?_
  refine lv_sipush (v := 1009) hx hb dX8_placesOf_89 (by decide) ?_
  refine lv_irem hx hb dX8_placesOf_92 (by decide) ?_
  refine lv_aload_n hx hb dX8_placesOf_93 rfl (lv_at hl 1 rfl) ?_
  refine kget (v := .ref (b0 (o0+1))) X hP ff_X8_7 0 rfl rfl dX8_placesOf_94 ?_
  refine lv_iconst (v := 0) hx hb dX8_placesOf_97 (by decide) ?_
  obtain ⟨hc, hf⟩ := ofck hf
  refine kiald (f := v_row) (n := 1002) X hP 1 rfl hc dX8_placesOf_98 ?_
  obtain ⟨hz, hf⟩ := ofdv hf
  refine lv_irem hx hb dX8_placesOf_99 hz ?_
  refine lv_ishl hx hb dX8_placesOf_100 ?_
  refine lv_ior hx hb dX8_placesOf_101 ?_
  refine lv_istore_n (lv' := [(2, .int (j9 ||| (1 <<< (((((j8 * j11) + t12) - ((j8 * j11) + t12) / 1009 * 1009) - (((j8 * j11) + t12) - ((j8 * j11) + t12) / 1009 * 1009) / (v_row (0 : Int32).toNatClampNeg) * (v_row (0 : Int32).toNatClampNeg)) &&& 31)))), (5, .int t12), (0, .ref (b0 o0)), (1, .int j8), (3, .int j10), (4, .int j11)]) hx hb dX8_placesOf_102 rfl hl (by decide) rfl (fun ls hl => ?_)
  refine lv_iinc (v := j10 + 1) (lv' := [(3, .int (j10 + 1)), (2, .int (j9 ||| (1 <<< (((((j8 * j11) + t12) - ((j8 * j11) + t12) / 1009 * 1009) - (((j8 * j11) + t12) - ((j8 * j11) + t12) / 1009 * 1009) / (v_row (0 : Int32).toNatClampNeg) * (v_row (0 : Int32).toNatClampNeg)) &&& 31)))), (5, .int t12), (0, .ref (b0 o0)), (1, .int j8), (4, .int j11)]) hx hb dX8_placesOf_103 hl (k := 4) rfl rfl (by decide) rfl (fun ls hl => ?_)
  refine lv_goto (tgt := 4) hx hb dX8_placesOf_106 (by decide) ?_
  exact hB4 (j9 ||| (1 <<< (((((j8 * j11) + t12) - ((j8 * j11) + t12) / 1009 * 1009) - (((j8 * j11) + t12) - ((j8 * j11) + t12) / 1009 * 1009) / (v_row (0 : Int32).toNatClampNeg) * (v_row (0 : Int32).toNatClampNeg)) &&& 31))) (j10 + 1) _ _ _ hP hD hS (lv_sub hl [3, 4, 1, 0] rfl) hf
set_option maxRecDepth 100000 in
set_option maxHeartbeats 1000000 in
theorem w_Model_placesOf_J46 {p : Program} {l : Launch} {e : Env} {s : State} {m : MethodId} {below : List Frame} {meth : Method} {c : Code} {args : Array Value} {A : Nat → Prop} {D : va_G} {k : Nat → ClassId} {t : Nat → Nat} (X : BX l D k t p s m args meth c cX8_placesOf 6 RX8 (some .int) A) (b0 : Nat → Nat) (o0 : Nat) (v_row : FI) (v_number : FJ) (v_saved : Int32) (v_place : FI) (v_low : FJ) (v_high : FJ) (v_lowBefore : FJ) (v_highBefore : FJ) (v_least : FJ) (v_greatest : FJ) (v_things : Int32) (v_changing : Int32) (v_overLow : FJ) (v_overHigh : FJ) (v_text : FI) (v_length : Int32) (v_at : Int32) (v_readKey : FI) (v_readCount : FJ) (v_keys : Int32) (v_h : Int64) (N : Nat) (j4 : Int32) (j5 : Int32) (j6 : Int32) (t7 : Int32) (out : Int32) (B4 : Int32 → Int32 → Option (Int32)) (hB4 : ∀ (i2' : Int32) (i3' : Int32) (H : Heap) (locs : List Loc) (ls : Array Slot), va_P D vwCl [W_Model k b0 o0 v_row v_number v_saved v_place v_low v_high v_lowBefore v_highBefore v_least v_greatest v_things v_changing v_overLow v_overHigh v_text v_length v_at v_readKey v_readCount v_keys v_h].flatten H → va_D A [W_Model k b0 o0 v_row v_number v_saved v_place v_low v_high v_lowBefore v_highBefore v_least v_greatest v_things v_changing v_overLow v_overHigh v_text v_length v_at v_readKey v_readCount v_keys v_h].flatten → va_S A s.heap H locs → lv_has ls 6 [(0, .ref (b0 o0)), (1, .int j4), (2, .int i2'), (3, .int i3')] → B4 i2' i3' = some out → W p l e rm_Model_placesOf s m args below meth c H locs 0 0 (Q_Model_placesOf below D k A args s b0 o0 v_row v_number v_saved v_place v_low v_high v_lowBefore v_highBefore v_least v_greatest v_things v_changing v_overLow v_overHigh v_text v_length v_at v_readKey v_readCount v_keys v_h out) (F0 m 4 ls [])) : ∀ (H : Heap) (locs : List Loc) (ls : Array Slot), va_P D vwCl [W_Model k b0 o0 v_row v_number v_saved v_place v_low v_high v_lowBefore v_highBefore v_least v_greatest v_things v_changing v_overLow v_overHigh v_text v_length v_at v_readKey v_readCount v_keys v_h].flatten H → va_D A [W_Model k b0 o0 v_row v_number v_saved v_place v_low v_high v_lowBefore v_highBefore v_least v_greatest v_things v_changing v_overLow v_overHigh v_text v_length v_at v_readKey v_readCount v_keys v_h].flatten → va_S A s.heap H locs → lv_has ls 6 [(0, .ref (b0 o0)), (1, .int j4), (2, .int j5), (3, .int j6)] → f_Model_placesOf_J46 j4 j5 j6 t7 v_row B4 = some out → W p l e rm_Model_placesOf s m args below meth c H locs 0 0 (Q_Model_placesOf below D k A args s b0 o0 v_row v_number v_saved v_place v_low v_high v_lowBefore v_highBefore v_least v_greatest v_things v_changing v_overLow v_overHigh v_text v_length v_at v_readKey v_readCount v_keys v_h out) (F0 m 46 ls [.int t7]) := by
  have hx := X.1.1
  have hb := X.1.2.1
  have hml := X.1.2.2.1
  have hown := X.1.2.2.2.1
  have hts := X.1.2.2.2.2
  intro H locs ls hP hD hS hl hf
  rw [f_Model_placesOf_J46] at hf
  refine lv_istore (lv' := [(4, .int t7), (0, .ref (b0 o0)), (1, .int j4), (2, .int j5), (3, .int j6)]) hx hb dX8_placesOf_46 hl (by decide) rfl (fun ls hl => ?_)
  refine lv_iload_n hx hb dX8_placesOf_48 rfl (lv_at hl 4 rfl) ?_
  refine lv_if_ne (tgt := 56) hx hb dX8_placesOf_49 (by decide) (fun hc => ?_) (fun hc => ?_)
  · have hf := ofneg hf hc
    refine lv_iload_n hx hb dX8_placesOf_56 rfl (lv_at hl 4 rfl) ?_
    refine lv_iconst (v := 1) hx hb dX8_placesOf_57 (by decide) ?_
    refine lv_icmp_ne (tgt := 66) hx hb dX8_placesOf_58 (by decide) (fun hc => ?_) (fun hc => ?_)
    · have hf := ofneg hf hc
      refine lv_iload_n hx hb dX8_placesOf_66 rfl (lv_at hl 4 rfl) ?_
      refine lv_iconst (v := 2) hx hb dX8_placesOf_67 (by decide) ?_
      refine lv_icmp_ne (tgt := 76) hx hb dX8_placesOf_68 (by decide) (fun hc => ?_) (fun hc => ?_)
      · have hf := ofneg hf hc
        refine lv_bipush (v := 53) hx hb dX8_placesOf_76 (by decide) ?_
        exact w_Model_placesOf_J78 X b0 o0 v_row v_number v_saved v_place v_low v_high v_lowBefore v_highBefore v_least v_greatest v_things v_changing v_overLow v_overHigh v_text v_length v_at v_readKey v_readCount v_keys v_h N j4 j5 j6 t7 53 out _ hB4 _ _ _ hP hD hS (lv_sub hl [1, 2, 3, 4, 0] rfl) hf
      · have hf := ofpos hf hc
        refine lv_bipush (v := 29) hx hb dX8_placesOf_71 (by decide) ?_
        refine lv_goto (tgt := 78) hx hb dX8_placesOf_73 (by decide) ?_
        exact w_Model_placesOf_J78 X b0 o0 v_row v_number v_saved v_place v_low v_high v_lowBefore v_highBefore v_least v_greatest v_things v_changing v_overLow v_overHigh v_text v_length v_at v_readKey v_readCount v_keys v_h N j4 j5 j6 t7 29 out _ hB4 _ _ _ hP hD hS (lv_sub hl [1, 2, 3, 4, 0] rfl) hf
    · have hf := ofpos hf hc
      refine lv_bipush (v := 17) hx hb dX8_placesOf_61 (by decide) ?_
      refine lv_goto (tgt := 78) hx hb dX8_placesOf_63 (by decide) ?_
      exact w_Model_placesOf_J78 X b0 o0 v_row v_number v_saved v_place v_low v_high v_lowBefore v_highBefore v_least v_greatest v_things v_changing v_overLow v_overHigh v_text v_length v_at v_readKey v_readCount v_keys v_h N j4 j5 j6 t7 17 out _ hB4 _ _ _ hP hD hS (lv_sub hl [1, 2, 3, 4, 0] rfl) hf
  · have hf := ofpos hf hc
    refine lv_iconst (v := 5) hx hb dX8_placesOf_52 (by decide) ?_
    refine lv_goto (tgt := 78) hx hb dX8_placesOf_53 (by decide) ?_
    exact w_Model_placesOf_J78 X b0 o0 v_row v_number v_saved v_place v_low v_high v_lowBefore v_highBefore v_least v_greatest v_things v_changing v_overLow v_overHigh v_text v_length v_at v_readKey v_readCount v_keys v_h N j4 j5 j6 t7 5 out _ hB4 _ _ _ hP hD hS (lv_sub hl [1, 2, 3, 4, 0] rfl) hf
set_option maxRecDepth 100000 in
set_option maxHeartbeats 1000000 in
theorem w_Model_placesOf_L4 {p : Program} {l : Launch} {e : Env} {s : State} {m : MethodId} {below : List Frame} {meth : Method} {c : Code} {args : Array Value} {A : Nat → Prop} {D : va_G} {k : Nat → ClassId} {t : Nat → Nat} (X : BX l D k t p s m args meth c cX8_placesOf 6 RX8 (some .int) A) (b0 : Nat → Nat) (o0 : Nat) (v_row : FI) (v_number : FJ) (v_saved : Int32) (v_place : FI) (v_low : FJ) (v_high : FJ) (v_lowBefore : FJ) (v_highBefore : FJ) (v_least : FJ) (v_greatest : FJ) (v_things : Int32) (v_changing : Int32) (v_overLow : FJ) (v_overHigh : FJ) (v_text : FI) (v_length : Int32) (v_at : Int32) (v_readKey : FI) (v_readCount : FJ) (v_keys : Int32) (v_h : Int64) (N : Nat) (i1 : Int32) (out : Int32) (K109 : Int32 → Int32 → Option (Int32)) (hK109 : ∀ (i2' : Int32) (i3' : Int32) (H : Heap) (locs : List Loc) (ls : Array Slot), va_P D vwCl [W_Model k b0 o0 v_row v_number v_saved v_place v_low v_high v_lowBefore v_highBefore v_least v_greatest v_things v_changing v_overLow v_overHigh v_text v_length v_at v_readKey v_readCount v_keys v_h].flatten H → va_D A [W_Model k b0 o0 v_row v_number v_saved v_place v_low v_high v_lowBefore v_highBefore v_least v_greatest v_things v_changing v_overLow v_overHigh v_text v_length v_at v_readKey v_readCount v_keys v_h].flatten → va_S A s.heap H locs → lv_has ls 6 [(2, .int i2')] → K109 i2' i3' = some out → W p l e rm_Model_placesOf s m args below meth c H locs 0 0 (Q_Model_placesOf below D k A args s b0 o0 v_row v_number v_saved v_place v_low v_high v_lowBefore v_highBefore v_least v_greatest v_things v_changing v_overLow v_overHigh v_text v_length v_at v_readKey v_readCount v_keys v_h out) (F0 m 109 ls [])) : ∀ (n : Nat) (i2 : Int32) (i3 : Int32) (H : Heap) (locs : List Loc) (ls : Array Slot), va_P D vwCl [W_Model k b0 o0 v_row v_number v_saved v_place v_low v_high v_lowBefore v_highBefore v_least v_greatest v_things v_changing v_overLow v_overHigh v_text v_length v_at v_readKey v_readCount v_keys v_h].flatten H → va_D A [W_Model k b0 o0 v_row v_number v_saved v_place v_low v_high v_lowBefore v_highBefore v_least v_greatest v_things v_changing v_overLow v_overHigh v_text v_length v_at v_readKey v_readCount v_keys v_h].flatten → va_S A s.heap H locs → lv_has ls 6 [(0, .ref (b0 o0)), (1, .int i1), (2, .int i2), (3, .int i3)] → f_Model_placesOf_L4 i1 v_row K109 n i2 i3 = some out → W p l e rm_Model_placesOf s m args below meth c H locs 0 0 (Q_Model_placesOf below D k A args s b0 o0 v_row v_number v_saved v_place v_low v_high v_lowBefore v_highBefore v_least v_greatest v_things v_changing v_overLow v_overHigh v_text v_length v_at v_readKey v_readCount v_keys v_h out) (F0 m 4 ls []) := by
  have hx := X.1.1
  have hb := X.1.2.1
  have hml := X.1.2.2.1
  have hown := X.1.2.2.2.1
  have hts := X.1.2.2.2.2
  intro n
  induction n with
  | zero =>
    intro i2 i3 H locs ls hP hD hS hl hf
    rw [f_Model_placesOf_L4] at hf
    cases hf
  | succ n ih =>
    intro i2 i3 H locs ls hP hD hS hl hf
    rw [f_Model_placesOf_L4] at hf
    refine lv_iload_n hx hb dX8_placesOf_4 rfl (lv_at hl 3 rfl) ?_
    refine lv_aload_n hx hb dX8_placesOf_5 rfl (lv_at hl 0 rfl) ?_
    refine kget (v := .ref (b0 (o0+1))) X hP ff_X8_7 0 rfl rfl dX8_placesOf_6 ?_
    refine lv_iconst (v := 2) hx hb dX8_placesOf_9 (by decide) ?_
    obtain ⟨hc, hf⟩ := ofck hf
    refine kiald (f := v_row) (n := 1002) X hP 1 rfl hc dX8_placesOf_10 ?_
    refine lv_icmp_ge (tgt := 109) hx hb dX8_placesOf_11 (by decide) (fun hc => ?_) (fun hc => ?_)
    · have hf := ofpos hf hc
      exact hK109 i2 i3 _ _ _ hP hD hS (lv_sub hl [2] rfl) hf
    · have hf := ofneg hf hc
      refine lv_iload_n hx hb dX8_placesOf_14 rfl (lv_at hl 3 rfl) ?_
      refine lv_if_ne (tgt := 23) hx hb dX8_placesOf_15 (by decide) (fun hc => ?_) (fun hc => ?_)
      · have hf := ofneg hf hc
        refine lv_iload_n hx hb dX8_placesOf_23 rfl (lv_at hl 3 rfl) ?_
        refine lv_iconst (v := 1) hx hb dX8_placesOf_24 (by decide) ?_
        refine lv_icmp_ne (tgt := 33) hx hb dX8_placesOf_25 (by decide) (fun hc => ?_) (fun hc => ?_)
        · have hf := ofneg hf hc
          refine lv_iload_n hx hb dX8_placesOf_33 rfl (lv_at hl 3 rfl) ?_
          refine lv_iconst (v := 2) hx hb dX8_placesOf_34 (by decide) ?_
          refine lv_icmp_ne (tgt := 43) hx hb dX8_placesOf_35 (by decide) (fun hc => ?_) (fun hc => ?_)
          · have hf := ofneg hf hc
            refine lv_sipush (v := 131) hx hb dX8_placesOf_43 (by decide) ?_
            exact w_Model_placesOf_J46 X b0 o0 v_row v_number v_saved v_place v_low v_high v_lowBefore v_highBefore v_least v_greatest v_things v_changing v_overLow v_overHigh v_text v_length v_at v_readKey v_readCount v_keys v_h N i1 i2 i3 131 out _ ih _ _ _ hP hD hS (lv_sub hl [0, 1, 2, 3] rfl) hf
          · have hf := ofpos hf hc
            refine lv_bipush (v := 97) hx hb dX8_placesOf_38 (by decide) ?_
            refine lv_goto (tgt := 46) hx hb dX8_placesOf_40 (by decide) ?_
            exact w_Model_placesOf_J46 X b0 o0 v_row v_number v_saved v_place v_low v_high v_lowBefore v_highBefore v_least v_greatest v_things v_changing v_overLow v_overHigh v_text v_length v_at v_readKey v_readCount v_keys v_h N i1 i2 i3 97 out _ ih _ _ _ hP hD hS (lv_sub hl [0, 1, 2, 3] rfl) hf
        · have hf := ofpos hf hc
          refine lv_bipush (v := 73) hx hb dX8_placesOf_28 (by decide) ?_
          refine lv_goto (tgt := 46) hx hb dX8_placesOf_30 (by decide) ?_
          exact w_Model_placesOf_J46 X b0 o0 v_row v_number v_saved v_place v_low v_high v_lowBefore v_highBefore v_least v_greatest v_things v_changing v_overLow v_overHigh v_text v_length v_at v_readKey v_readCount v_keys v_h N i1 i2 i3 73 out _ ih _ _ _ hP hD hS (lv_sub hl [0, 1, 2, 3] rfl) hf
      · have hf := ofpos hf hc
        refine lv_bipush (v := 41) hx hb dX8_placesOf_18 (by decide) ?_
        refine lv_goto (tgt := 46) hx hb dX8_placesOf_20 (by decide) ?_
        exact w_Model_placesOf_J46 X b0 o0 v_row v_number v_saved v_place v_low v_high v_lowBefore v_highBefore v_least v_greatest v_things v_changing v_overLow v_overHigh v_text v_length v_at v_readKey v_readCount v_keys v_h N i1 i2 i3 41 out _ ih _ _ _ hP hD hS (lv_sub hl [0, 1, 2, 3] rfl) hf
set_option maxRecDepth 100000 in
set_option maxHeartbeats 1000000 in
theorem c_Model_placesOf (l : Launch) (D : va_G) (k : Nat → ClassId) (t : Nat → Nat) (b0 : Nat → Nat) (o0 : Nat) (v_row : FI) (v_number : FJ) (v_saved : Int32) (v_place : FI) (v_low : FJ) (v_high : FJ) (v_lowBefore : FJ) (v_highBefore : FJ) (v_least : FJ) (v_greatest : FJ) (v_things : Int32) (v_changing : Int32) (v_overLow : FJ) (v_overHigh : FJ) (v_text : FI) (v_length : Int32) (v_at : Int32) (v_readKey : FI) (v_readCount : FJ) (v_keys : Int32) (v_h : Int64) (x1 : Int32) (N : Nat) (out : Int32) (hf : f_Model_placesOf N x1 v_row = some out) : CT l D k t yX8_placesOf cX8_placesOf 6 (some .int) rm_Model_placesOf [.ref (b0 o0), .int x1] [W_Model k b0 o0 v_row v_number v_saved v_place v_low v_high v_lowBefore v_highBefore v_least v_greatest v_things v_changing v_overLow v_overHigh v_text v_length v_at v_readKey v_readCount v_keys v_h].flatten (some (.int out)) [W_Model k b0 o0 v_row v_number v_saved v_place v_low v_high v_lowBefore v_highBefore v_least v_greatest v_things v_changing v_overLow v_overHigh v_text v_length v_at v_readKey v_readCount v_keys v_h].flatten := by
  refine kofW (by decide) (Nat.le_of_ble_eq_true rfl) ?_
  intro p e s m below meth c A ls X hP hD hS hl
  have hx := X.1.1
  have hb := X.1.2.1
  have hml := X.1.2.2.1
  have hown := X.1.2.2.2.1
  have hts := X.1.2.2.2.2
  have hl : lv_has ls 6 [(0, .ref (b0 o0)), (1, .int x1)] := hl
  rw [f_Model_placesOf] at hf
  refine lv_iconst (v := 0) hx hb dX8_placesOf_0 (by decide) ?_
  refine lv_istore_n (lv' := [(2, .int 0), (0, .ref (b0 o0)), (1, .int x1)]) hx hb dX8_placesOf_1 rfl hl (by decide) rfl (fun ls hl => ?_)
  refine lv_iconst (v := 0) hx hb dX8_placesOf_2 (by decide) ?_
  refine lv_istore_n (lv' := [(3, .int 0), (2, .int 0), (0, .ref (b0 o0)), (1, .int x1)]) hx hb dX8_placesOf_3 rfl hl (by decide) rfl (fun ls hl => ?_)
  refine w_Model_placesOf_L4 X b0 o0 v_row v_number v_saved v_place v_low v_high v_lowBefore v_highBefore v_least v_greatest v_things v_changing v_overLow v_overHigh v_text v_length v_at v_readKey v_readCount v_keys v_h N x1 out _ ?_ N 0 0 _ _ _ hP hD hS (lv_sub hl [2, 3, 1, 0] rfl) hf
  · intro i13 i14 H locs ls hP hD hS hl hf
    refine lv_iload_n hx hb dX8_placesOf_109 rfl (lv_at hl 0 rfl) ?_
    have hf := Option.some.inj hf
    subst hf
    exact kiret (v := i13) X hP hD hS dX8_placesOf_110
