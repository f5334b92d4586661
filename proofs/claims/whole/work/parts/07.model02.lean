/-! Model_placesUp: private int placesUp(int); -/
abbrev rm_Model_placesUp : Room := ({ frames := 0, cells := 0, slots := 0, locals := 0 } : Room)
def f_Model_placesUp_J57 (j8 : Int32) (j9 : Int32) (j10 : Int32) (j11 : Int32) (t12 : Int32) (v_row : FI) (B4 : Int32 → Int32 → Option (Int32)) : Option (Int32) := if ck 3 1002 = true then if (v_row (3 : Int32).toNatClampNeg) = 0 then none else B4 (j9 ||| (1 <<< (((((j8 * j11) + t12) - ((j8 * j11) + t12) / 103 * 103) - (((j8 * j11) + t12) - ((j8 * j11) + t12) / 103 * 103) / (v_row (3 : Int32).toNatClampNeg) * (v_row (3 : Int32).toNatClampNeg)) &&& 31))) (j10 + 1) else none
def f_Model_placesUp_J35 (j4 : Int32) (j5 : Int32) (j6 : Int32) (t7 : Int32) (v_row : FI) (B4 : Int32 → Int32 → Option (Int32)) : Option (Int32) := if j6 = 0 then f_Model_placesUp_J57 j4 j5 j6 t7 3 v_row B4 else if j6 = 1 then f_Model_placesUp_J57 j4 j5 j6 t7 11 v_row B4 else f_Model_placesUp_J57 j4 j5 j6 t7 23 v_row B4
def f_Model_placesUp_L4 (i1 : Int32) (v_row : FI) (K87 : Int32 → Int32 → Option (Int32)) : Nat → Int32 → Int32 → Option (Int32)
  | 0, _, _ => none
  | n + 1, i2, i3 => if ck 4 1002 = true then if (v_row (4 : Int32).toNatClampNeg) ≤ i3 then K87 i2 i3 else if i3 = 0 then f_Model_placesUp_J35 i1 i2 i3 19 v_row (f_Model_placesUp_L4 i1 v_row K87 n) else if i3 = 1 then f_Model_placesUp_J35 i1 i2 i3 37 v_row (f_Model_placesUp_L4 i1 v_row K87 n) else f_Model_placesUp_J35 i1 i2 i3 61 v_row (f_Model_placesUp_L4 i1 v_row K87 n) else none
def f_Model_placesUp (N : Nat) (x1 : Int32) (v_row : FI) : Option (Int32) := f_Model_placesUp_L4 x1 v_row (fun i13 i14 => some i13) N 0 0
abbrev Q_Model_placesUp (below : List Frame) (D : va_G) (k : Nat → ClassId) (A : Nat → Prop) (args : Array Value) (s : State) (b0 : Nat → Nat) (o0 : Nat) (v_row : FI) (v_number : FJ) (v_saved : Int32) (v_place : FI) (v_low : FJ) (v_high : FJ) (v_lowBefore : FJ) (v_highBefore : FJ) (v_least : FJ) (v_greatest : FJ) (v_things : Int32) (v_changing : Int32) (v_overLow : FJ) (v_overHigh : FJ) (v_text : FI) (v_length : Int32) (v_at : Int32) (v_readKey : FI) (v_readCount : FJ) (v_keys : Int32) (v_h : Int64) (out : Int32) : State → Prop := MQ below (QW D k A (some (.int out)) [W_Model k b0 o0 v_row v_number v_saved v_place v_low v_high v_lowBefore v_highBefore v_least v_greatest v_things v_changing v_overLow v_overHigh v_text v_length v_at v_readKey v_readCount v_keys v_h].flatten) args s 0 0 A
set_option maxRecDepth 100000 in
set_option maxHeartbeats 1000000 in
theorem w_Model_placesUp_J57 {p : Program} {l : Launch} {e : Env} {s : State} {m : MethodId} {below : List Frame} {meth : Method} {c : Code} {args : Array Value} {A : Nat → Prop} {D : va_G} {k : Nat → ClassId} {t : Nat → Nat} (X : BX l D k t p s m args meth c cX8_placesUp 6 RX8 (some .int) A) (b0 : Nat → Nat) (o0 : Nat) (v_row : FI) (v_number : FJ) (v_saved : Int32) (v_place : FI) (v_low : FJ) (v_high : FJ) (v_lowBefore : FJ) (v_highBefore : FJ) (v_least : FJ) (v_greatest : FJ) (v_things : Int32) (v_changing : Int32) (v_overLow : FJ) (v_overHigh : FJ) (v_text : FI) (v_length : Int32) (v_at : Int32) (v_readKey : FI) (v_readCount : FJ) (v_keys : Int32) (v_h : Int64) (N : Nat) (j8 : Int32) (j9 : Int32) (j10 : Int32) (j11 : Int32) (t12 : Int32) (out : Int32) (B4 : Int32 → Int32 → Option (Int32)) (hB4 : ∀ (i2' : Int32) (i3' : Int32) (H : Heap) (locs : List Loc) (ls : Array Slot), va_P D vwCl [W_Model k b0 o0 v_row v_number v_saved v_place v_low v_high v_lowBefore v_highBefore v_least v_greatest v_things v_changing v_overLow v_overHigh v_text v_length v_at v_readKey v_readCount v_keys v_h].flatten H → va_D A [W_Model k b0 o0 v_row v_number v_saved v_place v_low v_high v_lowBefore v_highBefore v_least v_greatest v_things v_changing v_overLow v_overHigh v_text v_length v_at v_readKey v_readCount v_keys v_h].flatten → va_S A s.heap H locs → lv_has ls 6 [(0, .ref (b0 o0)), (1, .int j8), (2, .int i2'), (3, .int i3')] → B4 i2' i3' = some out → W p l e rm_Model_placesUp s m args below meth c H locs 0 0 (Q_Model_placesUp below D k A args s b0 o0 v_row v_number v_saved v_place v_low v_high v_lowBefore v_highBefore v_least v_greatest v_things v_changing v_overLow v_overHigh v_text v_length v_at v_readKey v_readCount v_keys v_h out) (F0 m 4 ls [])) : ∀ (H : Heap) (locs : List Loc) (ls : Array Slot), va_P D vwCl [W_Model k b0 o0 v_row v_number v_saved v_place v_low v_high v_lowBefore v_highBefore v_least v_greatest v_things v_changing v_overLow v_overHigh v_text v_length v_at v_readKey v_readCount v_keys v_h].flatten H → va_D A [W_Model k b0 o0 v_row v_number v_saved v_place v_low v_high v_lowBefore v_highBefore v_least v_greatest v_things v_changing v_overLow v_overHigh v_text v_length v_at v_readKey v_readCount v_keys v_h].flatten → va_S A s.heap H locs → lv_has ls 6 [(0, .ref (b0 o0)), (1, .int j8), (2, .int j9), (3, .int j10), (4, .int j11)] → f_Model_placesUp_J57 j8 j9 j10 j11 t12 v_row B4 = some out → W p l e rm_Model_placesUp s m args below meth c H locs 0 0 (Q_Model_placesUp below D k A args s b0 o0 v_row v_number v_saved v_place v_low v_high v_lowBefore v_highBefore v_least v_greatest v_things v_changing v_overLow v_overHigh v_text v_length v_at v_readKey v_readCount v_keys v_h out) (F0 m 57 ls [.int t12]) := by
  have hx := X.1.1
  have hb := X.1.2.1
  have hml := X.1.2.2.1
  have hown := X.1.2.2.2.1
  have hts := X.1.2.2.2.2
  intro H locs ls hP hD hS hl hf
  rw [f_Model_placesUp_J57] at hf
  refine lv_istore (lv' := [(5, .int t12), (0, .ref (b0 o0)), (1, .int j8), (2, .int j9), (3, .int j10), (4, .int j11)]) hx hb dX8_placesUp_57 hl (by decide) rfl (fun ls hl => ?_)
  refine lv_iload_n hx hb dX8_placesUp_59 rfl (lv_at hl 3 rfl) ?_
  refine lv_iconst (v := 1) hx hb dX8_placesUp_60 (by decide) ?_
  refine lv_iload_n hx hb dX8_placesUp_61 rfl (lv_at hl 2 rfl) ?_
  refine lv_iload hx hb dX8_placesUp_62 (lv_at hl 5 rfl) ?_
  refine lv_imul hx hb dX8_placesUp_64 ?_
  refine lv_iload hx hb dX8_placesUp_65 (lv_at hl 0 rfl) ?_
  refine lv_iadd hx hb dX8_placesUp_67 ?_
  refine lv_bipush (v := 103) hx hb dX8_placesUp_68 (by decide) ?_
  refine lv_irem hx hb dX8_placesUp_70 (by decide) ?_
  refine lv_aload_n hx hb dX8_placesUp_71 rfl (lv_at hl 1 rfl) ?_
  refine kget (v := .ref (b0 (o0+1))) X hP ff_X8_7 0 rfl rfl dX8_placesUp_72 ?_
  refine lv_iconst (v := 3) hx hb dX8_placesUp_75 (by decide) ?_
  obtain ⟨hc, hf⟩ := ofck hf
  refine kiald (f := v_row) (n := 1002) X hP 1 rfl hc dX8_placesUp_76 ?_
  obtain ⟨hz, hf⟩ := ofdv hf
  refine lv_irem hx hb dX8_placesUp_77 hz ?_
  refine lv_ishl hx hb dX8_placesUp_78 ?_
  refine lv_ior hx hb dX8_placesUp_79 ?_
  refine lv_istore_n (lv' := [(2, .int (j9 ||| (1 <<< (((((j8 * j11) + t12) - ((j8 * j11) + t12) / 103 * 103) - (((j8 * j11) + t12) - ((j8 * j11) + t12) / 103 * 103) / (v_row (3 : Int32).toNatClampNeg) * (v_row (3 : Int32).toNatClampNeg)) &&& 31)))), (5, .int t12), (0, .ref (b0 o0)), (1, .int j8), (3, .int j10), (4, .int j11)]) hx hb dX8_placesUp_80 rfl hl (by decide) rfl (fun ls hl => ?_)
  refine lv_iinc (v := j10 + 1) (lv' := [(3, .int (j10 + 1)), (2, .int (j9 ||| (1 <<< (((((j8 * j11) + t12) - ((j8 * j11) + t12) / 103 * 103) - (((j8 * j11) + t12) - ((j8 * j11) + t12) / 103 * 103) / (v_row (3 : Int32).toNatClampNeg) * (v_row (3 : Int32).toNatClampNeg)) &&& 31)))), (5, .int t12), (0, .ref (b0 o0)), (1, .int j8), (4, .int j11)]) hx hb dX8_placesUp_81 hl (k := 4) rfl rfl (by decide) rfl (fun ls hl => ?_)
  refine lv_goto (tgt := 4) hx hb dX8_placesUp_84 (by decide) ?_
  exact hB4 (j9 ||| (1 <<< (((((j8 * j11) + t12) - ((j8 * j11) + t12) / 103 * 103) - (((j8 * j11) + t12) - ((j8 * j11) + t12) / 103 * 103) / (v_row (3 : Int32).toNatClampNeg) * (v_row (3 : Int32).toNatClampNeg)) &&& 31))) (j10 + 1) _ _ _ hP hD hS (lv_sub hl [3, 4, 1, 0] rfl) hf
set_option maxRecDepth 100000 in
set_option maxHeartbeats 1000000 in
theorem w_Model_placesUp_J35 {p : Program} {l : Launch} {e : Env} {s : State} {m : MethodId} {below : List Frame} {meth : Method} {c : Code} {args : Array Value} {A : Nat → Prop} {D : va_G} {k : Nat → ClassId} {t : Nat → Nat} (X : BX l D k t p s m args meth c cX8_placesUp 6 RX8 (some .int) A) (b0 : Nat → Nat) (o0 : Nat) (v_row : FI) (v_number : FJ) (v_saved : Int32) (v_place : FI) (v_low : FJ) (v_high : FJ) (v_lowBefore : FJ) (v_highBefore : FJ) (v_least : FJ) (v_greatest : FJ) (v_things : Int32) (v_changing : Int32) (v_overLow : FJ) (v_overHigh : FJ) (v_text : FI) (v_length : Int32) (v_at : Int32) (v_readKey : FI) (v_readCount : FJ) (v_keys : Int32) (v_h : Int64) (N : Nat) (j4 : Int32) (j5 : Int32) (j6 : Int32) (t7 : Int32) (out : Int32) (B4 : Int32 → Int32 → Option (Int32)) (hB4 : ∀ (i2' : Int32) (i3' : Int32) (H : Heap) (locs : List Loc) (ls : Array Slot), va_P D vwCl [W_Model k b0 o0 v_row v_number v_saved v_place v_low v_high v_lowBefore v_highBefore v_least v_greatest v_things v_changing v_overLow v_overHigh v_text v_length v_at v_readKey v_readCount v_keys v_h].flatten H → va_D A [W_Model k b0 o0 v_row v_number v_saved v_place v_low v_high v_lowBefore v_highBefore v_least v_greatest v_things v_changing v_overLow v_overHigh v_text v_length v_at v_readKey v_readCount v_keys v_h].flatten → va_S A s.heap H locs → lv_has ls 6 [(0, .ref (b0 o0)), (1, .int j4), (2, .int i2'), (3, .int i3')] → B4 i2' i3' = some out → W p l e rm_Model_placesUp s m args below meth c H locs 0 0 (Q_Model_placesUp below D k A args s b0 o0 v_row v_number v_saved v_place v_low v_high v_lowBefore v_highBefore v_least v_greatest v_things v_changing v_overLow v_overHigh v_text v_length v_at v_readKey v_readCount v_keys v_h out) (F0 m 4 ls [])) : ∀ (H : Heap) (locs : List Loc) (ls : Array Slot), va_P D vwCl [W_Model k b0 o0 v_row v_number v_saved v_place v_low v_high v_lowBefore v_highBefore v_least v_greatest v_things v_changing v_overLow v_overHigh v_text v_length v_at v_readKey v_readCount v_keys v_h].flatten H → va_D A [W_Model k b0 o0 v_row v_number v_saved v_place v_low v_high v_lowBefore v_highBefore v_least v_greatest v_things v_changing v_overLow v_overHigh v_text v_length v_at v_readKey v_readCount v_keys v_h].flatten → va_S A s.heap H locs → lv_has ls 6 [(0, .ref (b0 o0)), (1, .int j4), (2, .int j5), (3, .int j6)] → f_Model_placesUp_J35 j4 j5 j6 t7 v_row B4 = some out → W p l e rm_Model_placesUp s m args below meth c H locs 0 0 (Q_Model_placesUp below D k A args s b0 o0 v_row v_number v_saved v_place v_low v_high v_lowBefore v_highBefore v_least v_greatest v_things v_changing v_overLow v_overHigh v_text v_length v_at v_readKey v_readCount v_keys v_h out) (F0 m 35 ls [.int t7]) := by
  have hx := X.1.1
  have hb := X.1.2.1
  have hml := X.1.2.2.1
  have hown := X.1.2.2.2.1
  have hts := X.1.2.2.2.2
  intro H locs ls hP hD hS hl hf
  rw [f_Model_placesUp_J35] at hf
  refine lv_istore (lv' := [(4, .int t7), (0, .ref (b0 o0)), (1, .int j4), (2, .int j5), (3, .int j6)]) hx hb dX8_placesUp_35 hl (by decide) rfl (fun ls hl => ?_)
  refine lv_iload_n hx hb dX8_placesUp_37 rfl (lv_at hl 4 rfl) ?_
  refine lv_if_ne (tgt := 45) hx hb dX8_placesUp_38 (by decide) (fun hc => ?_) (fun hc => ?_)
  · have hf := ofneg hf hc
    refine lv_iload_n hx hb dX8_placesUp_45 rfl (lv_at hl 4 rfl) ?_
    refine lv_iconst (v := 1) hx hb dX8_placesUp_46 (by decide) ?_
    refine lv_icmp_ne (tgt := 55) hx hb dX8_placesUp_47 (by decide) (fun hc => ?_) (fun hc => ?_)
    · have hf := ofneg hf hc
      refine lv_bipush (v := 23) hx hb dX8_placesUp_55 (by decide) ?_
      exact w_Model_placesUp_J57 X b0 o0 v_row v_number v_saved v_place v_low v_high v_lowBefore v_highBefore v_least v_greatest v_things v_changing v_overLow v_overHigh v_text v_length v_at v_readKey v_readCount v_keys v_h N j4 j5 j6 t7 23 out _ hB4 _ _ _ hP hD hS (lv_sub hl [1, 2, 3, 4, 0] rfl) hf
    · have hf := ofpos hf hc
      refine lv_bipush (v := 11) hx hb dX8_placesUp_50 (by decide) ?_
      refine lv_goto (tgt := 57) hx hb dX8_placesUp_52 (by decide) ?_
      exact w_Model_placesUp_J57 X b0 o0 v_row v_number v_saved v_place v_low v_high v_lowBefore v_highBefore v_least v_greatest v_things v_changing v_overLow v_overHigh v_text v_length v_at v_readKey v_readCount v_keys v_h N j4 j5 j6 t7 11 out _ hB4 _ _ _ hP hD hS (lv_sub hl [1, 2, 3, 4, 0] rfl) hf
  · have hf := ofpos hf hc
    refine lv_iconst (v := 3) hx hb dX8_placesUp_41 (by decide) ?_
    refine lv_goto (tgt := 57) hx hb dX8_placesUp_42 (by decide) ?_
    exact w_Model_placesUp_J57 X b0 o0 v_row v_number v_saved v_place v_low v_high v_lowBefore v_highBefore v_least v_greatest v_things v_changing v_overLow v_overHigh v_text v_length v_at v_readKey v_readCount v_keys v_h N j4 j5 j6 t7 3 out _ hB4 _ _ _ hP hD hS (lv_sub hl [1, 2, 3, 4, 0] rfl) hf
set_option maxRecDepth 100000 in
set_option maxHeartbeats 1000000 in
theorem w_Model_placesUp_L4 {p : Program} {l : Launch} {e : Env} {s : State} {m : MethodId} {below : List Frame} {meth : Method} {c : Code} {args : Array Value} {A : Nat → Prop} {D : va_G} {k : Nat → ClassId} {t : Nat → Nat} (X : BX l D k t p s m args meth c cX8_placesUp 6 RX8 (some .int) A) (b0 : Nat → Nat) (o0 : Nat) (v_row : FI) (v_number : FJ) (v_saved : Int32) (v_place : FI) (v_low : FJ) (v_high : FJ) (v_lowBefore : FJ) (v_highBefore : FJ) (v_least : FJ) (v_greatest : FJ) (v_things : Int32) (v_changing : Int32) (v_overLow : FJ) (v_overHigh : FJ) (v_text : FI) (v_length : Int32) (v_at : Int32) (v_readKey : FI) (v_readCount : FJ) (v_keys : Int32) (v_h : Int64) (N : Nat) (i1 : Int32) (out : Int32) (K87 : Int32 → Int32 → Option (Int32)) (hK87 : ∀ (i2' : Int32) (i3' : Int32) (H : Heap) (locs : List Loc) (ls : Array Slot), va_P D vwCl [W_Model k b0 o0 v_row v_number v_saved v_place v_low v_high v_lowBefore v_highBefore v_least v_greatest v_things v_changing v_overLow v_overHigh v_text v_length v_at v_readKey v_readCount v_keys v_h].flatten H → va_D A [W_Model k b0 o0 v_row v_number v_saved v_place v_low v_high v_lowBefore v_highBefore v_least v_greatest v_things v_changing v_overLow v_overHigh v_text v_length v_at v_readKey v_readCount v_keys v_h].flatten → va_S A s.heap H locs → lv_has ls 6 [(2, .int i2')] → K87 i2' i3' = some out → W p l e rm_Model_placesUp s m args below meth c H locs 0 0 (Q_Model_placesUp below D k A args s b0 o0 v_row v_number v_saved v_place v_low v_high v_lowBefore v_highBefore v_least v_greatest v_things v_changing v_overLow v_overHigh v_text v_length v_at v_readKey v_readCount v_keys v_h out) (F0 m 87 ls [])) : ∀ (n : Nat) (i2 : Int32) (i3 : Int32) (H : Heap) (locs : List Loc) (ls : Array Slot), va_P D vwCl [W_Model k b0 o0 v_row v_number v_saved v_place v_low v_high v_lowBefore v_highBefore v_least v_greatest v_things v_changing v_overLow v_overHigh v_text v_length v_at v_readKey v_readCount v_keys v_h].flatten H → va_D A [W_Model k b0 o0 v_row v_number v_saved v_place v_low v_high v_lowBefore v_highBefore v_least v_greatest v_things v_changing v_overLow v_overHigh v_text v_length v_at v_readKey v_readCount v_keys v_h].flatten → va_S A s.heap H locs → lv_has ls 6 [(0, .ref (b0 o0)), (1, .int i1), (2, .int i2), (3, .int i3)] → f_Model_placesUp_L4 i1 v_row K87 n i2 i3 = some out → W p l e rm_Model_placesUp s m args below meth c H locs 0 0 (Q_Model_placesUp below D k A args s b0 o0 v_row v_number v_saved v_place v_low v_high v_lowBefore v_highBefore v_least v_greatest v_things v_changing v_overLow v_overHigh v_text v_length v_at v_readKey v_readCount v_keys v_h out) (F0 m 4 ls []) := by
  have hx := X.1.1
  have hb := X.1.2.1
  have hml := X.1.2.2.1
  have hown := X.1.2.2.2.1
  have hts := X.1.2.2.2.2
  intro n
  induction n with
  | zero =>
    intro i2 i3 H locs ls hP hD hS hl hf
    rw [f_Model_placesUp_L4] at hf
    cases hf
  | succ n ih =>
    intro i2 i3 H locs ls hP hD hS hl hf
    rw [f_Model_placesUp_L4] at hf
    refine lv_iload_n hx hb dX8_placesUp_4 rfl (lv_at hl 3 rfl) ?_
    refine lv_aload_n hx hb dX8_placesUp_5 rfl (lv_at hl 0 rfl) ?_
    refine kget (v := .ref (b0 (o0+1))) X hP ff_X8_7 0 rfl rfl dX8_placesUp_6 ?_
    refine lv_iconst (v := 4) hx hb dX8_placesUp_9 (by decide) ?_
    obtain ⟨hc, hf⟩ := ofck hf
    refine kiald (f := v_row) (n := 1002) X hP 1 rfl hc dX8_placesUp_10 ?_
    refine lv_icmp_ge (tgt := 87) hx hb dX8_placesUp_11 (by decide) (fun hc => ?_) (fun hc => ?_)
    · have hf := ofpos hf hc
      exact hK87 i2 i3 _ _ _ hP hD hS (lv_sub hl [2] rfl) hf
    · have hf := ofneg hf hc
      refine lv_iload_n hx hb dX8_placesUp_14 rfl (lv_at hl 3 rfl) ?_
      refine lv_if_ne (tgt := 23) hx hb dX8_placesUp_15 (by decide) (fun hc => ?_) (fun hc => ?_)
      · have hf := ofneg hf hc
        refine lv_iload_n hx hb dX8_placesUp_23 rfl (lv_at hl 3 rfl) ?_
        refine lv_iconst (v := 1) hx hb dX8_placesUp_24 (by decide) ?_
        refine lv_icmp_ne (tgt := 33) hx hb dX8_placesUp_25 (by decide) (fun hc => ?_) (fun hc => ?_)
        · have hf := ofneg hf hc
          refine lv_bipush (v := 61) hx hb dX8_placesUp_33 (by decide) ?_
          exact w_Model_placesUp_J35 X b0 o0 v_row v_number v_saved v_place v_low v_high v_lowBefore v_highBefore v_least v_greatest v_things v_changing v_overLow v_overHigh v_text v_length v_at v_readKey v_readCount v_keys v_h N i1 i2 i3 61 out _ ih _ _ _ hP hD hS (lv_sub hl [0, 1, 2, 3] rfl) hf
        · have hf := ofpos hf hc
          refine lv_bipush (v := 37) hx hb dX8_placesUp_28 (by decide) ?_
          refine lv_goto (tgt := 35) hx hb dX8_placesUp_30 (by decide) ?_
          exact w_Model_placesUp_J35 X b0 o0 v_row v_number v_saved v_place v_low v_high v_lowBefore v_highBefore v_least v_greatest v_things v_changing v_overLow v_overHigh v_text v_length v_at v_readKey v_readCount v_keys v_h N i1 i2 i3 37 out _ ih _ _ _ hP hD hS (lv_sub hl [0, 1, 2, 3] rfl) hf
      · have hf := ofpos hf hc
        refine lv_bipush (v := 19) hx hb dX8_placesUp_18 (by decide) ?_
        refine lv_goto (tgt := 35) hx hb dX8_placesUp_20 (by decide) ?_
        exact w_Model_placesUp_J35 X b0 o0 v_row v_number v_saved v_place v_low v_high v_lowBefore v_highBefore v_least v_greatest v_things v_changing v_overLow v_overHigh v_text v_length v_at v_readKey v_readCount v_keys v_h N i1 i2 i3 19 out _ ih _ _ _ hP hD hS (lv_sub hl [0, 1, 2, 3] rfl) hf
set_option maxRecDepth 100000 in
set_option maxHeartbeats 1000000 in
theorem c_Model_placesUp (l : Launch) (D : va_G) (k : Nat → ClassId) (t : Nat → Nat) (b0 : Nat → Nat) (o0 : Nat) (v_row : FI) (v_number : FJ) (v_saved : Int32) (v_place : FI) (v_low : FJ) (v_high : FJ) (v_lowBefore : FJ) (v_highBefore : FJ) (v_least : FJ) (v_greatest : FJ) (v_things : Int32) (v_changing : Int32) (v_overLow : FJ) (v_overHigh : FJ) (v_text : FI) (v_length : Int32) (v_at : Int32) (v_readKey : FI) (v_readCount : FJ) (v_keys : Int32) (v_h : Int64) (x1 : Int32) (N : Nat) (out : Int32) (hf : f_Model_placesUp N x1 v_row = some out) : CT l D k t yX8_placesUp cX8_placesUp 6 (some .int) rm_Model_placesUp [.ref (b0 o0), .int x1] [W_Model k b0 o0 v_row v_number v_saved v_place v_low v_high v_lowBefore v_highBefore v_least v_greatest v_things v_changing v_overLow v_overHigh v_text v_length v_at v_readKey v_readCount v_keys v_h].flatten (some (.int out)) [W_Model k b0 o0 v_row v_number v_saved v_place v_low v_high v_lowBefore v_highBefore v_least v_greatest v_things v_changing v_overLow v_overHigh v_text v_length v_at v_readKey v_readCount v_keys v_h].flatten := by
  refine kofW (by decide) (Nat.le_of_ble_eq_true rfl) ?_
  intro p e s m below meth c A ls X hP hD hS hl
  have hx := X.1.1
  have hb := X.1.2.1
  have hml := X.1.2.2.1
  have hown := X.1.2.2.2.1
  have hts := X.1.2.2.2.2
  have hl : lv_has ls 6 [(0, .ref (b0 o0)), (1, .int x1)] := hl
  rw [f_Model_placesUp] at hf
  refine lv_iconst (v := 0) hx hb dX8_placesUp_0 (by decide) ?_
  refine lv_istore_n (lv' := [(2, .int 0), (0, .ref (b0 o0)), (1, .int x1)]) hx hb dX8_placesUp_1 rfl hl (by decide) rfl (fun ls hl => ?_)
  refine lv_iconst (v := 0) hx hb dX8_placesUp_2 (by decide) ?_
  refine lv_istore_n (lv' := [(3, .int 0), (2, .int 0), (0, .ref (b0 o0)), (1, .int x1)]) hx hb dX8_placesUp_3 rfl hl (by decide) rfl (fun ls hl => ?_)
  refine w_Model_placesUp_L4 X b0 o0 v_row v_number v_saved v_place v_low v_high v_lowBefore v_highBefore v_least v_greatest v_things v_changing v_overLow v_overHigh v_text v_length v_at v_readKey v_readCount v_keys v_h N x1 out _ ?_ N 0 0 _ _ _ hP hD hS (lv_sub hl [2, 3, 1, 0] rfl) hf
  · intro i13 i14 H locs ls hP hD hS hl hf
    refine lv_iload_n hx hb dX8_placesUp_87 rfl (lv_at hl 0 rfl) ?_
    have hf := Option.some.inj hf
    subst hf
    exact kiret (v := i13) X hP hD hS dX8_placesUp_88
/-! Model_setFirst: public int setFirst(int, int, int); -/
abbrev rm_Model_setFirst : Room := ({ frames := 2, cells := 0, slots := 0, locals := 44 } : Room)
def f_Model_setFirst (N : Nat) (x1 : Int32) (x2 : Int32) (x3 : Int32) (v_row : FI) (v_number : FJ) (v_saved : Int32) : Option (Int32 × FI × FJ × Int32) := (f_Model_in x1 2 24).bind (fun r1 => if r1 = 0 then some ((-3), v_row, v_number, v_saved) else (f_Model_in x2 1 8).bind (fun r2 => if r2 = 0 then some ((-3), v_row, v_number, v_saved) else (f_Model_in x3 1 4).bind (fun r3 => if r3 = 0 then some ((-3), v_row, v_number, v_saved) else (f_Model_saves N v_row v_number v_saved).bind (fun r4 => if ck 0 1002 = true then if ck 0 1002 = true then if ck 1 1002 = true then if ck 2 1002 = true then (f_Model_empties N 0 (upd (upd (upd r4.1 (0 : Int32).toNatClampNeg x1) (1 : Int32).toNatClampNeg x2) (2 : Int32).toNatClampNeg x3) r4.2.1).bind (fun r8 => (f_Model_empties N 1 r8.1 r8.2).bind (fun r9 => some (r4.1 (0 : Int32).toNatClampNeg, r9.1, r9.2, r4.2.2))) else none else none else none else none))))
abbrev Q_Model_setFirst (below : List Frame) (D : va_G) (k : Nat → ClassId) (A : Nat → Prop) (args : Array Value) (s : State) (b0 : Nat → Nat) (o0 : Nat) (v_row : FI) (v_number : FJ) (v_saved : Int32) (v_place : FI) (v_low : FJ) (v_high : FJ) (v_lowBefore : FJ) (v_highBefore : FJ) (v_least : FJ) (v_greatest : FJ) (v_things : Int32) (v_changing : Int32) (v_overLow : FJ) (v_overHigh : FJ) (v_text : FI) (v_length : Int32) (v_at : Int32) (v_readKey : FI) (v_readCount : FJ) (v_keys : Int32) (v_h : Int64) (out : Int32 × FI × FJ × Int32) : State → Prop := MQ below (QW D k A (some (.int out.1)) [W_Model k b0 o0 out.2.1 out.2.2.1 out.2.2.2 v_place v_low v_high v_lowBefore v_highBefore v_least v_greatest v_things v_changing v_overLow v_overHigh v_text v_length v_at v_readKey v_readCount v_keys v_h].flatten) args s 0 0 A
set_option maxRecDepth 100000 in
set_option maxHeartbeats 1000000 in
theorem c_Model_setFirst (l : Launch) (D : va_G) (k : Nat → ClassId) (t : Nat → Nat) (b0 : Nat → Nat) (o0 : Nat) (v_row : FI) (v_number : FJ) (v_saved : Int32) (v_place : FI) (v_low : FJ) (v_high : FJ) (v_lowBefore : FJ) (v_highBefore : FJ) (v_least : FJ) (v_greatest : FJ) (v_things : Int32) (v_changing : Int32) (v_overLow : FJ) (v_overHigh : FJ) (v_text : FI) (v_length : Int32) (v_at : Int32) (v_readKey : FI) (v_readCount : FJ) (v_keys : Int32) (v_h : Int64) (x1 : Int32) (x2 : Int32) (x3 : Int32) (N : Nat) (out : Int32 × FI × FJ × Int32) (hf : f_Model_setFirst N x1 x2 x3 v_row v_number v_saved = some out) : CT l D k t yX8_setFirst cX8_setFirst 5 (some .int) rm_Model_setFirst [.ref (b0 o0), .int x1, .int x2, .int x3] [W_Model k b0 o0 v_row v_number v_saved v_place v_low v_high v_lowBefore v_highBefore v_least v_greatest v_things v_changing v_overLow v_overHigh v_text v_length v_at v_readKey v_readCount v_keys v_h].flatten (some (.int out.1)) [W_Model k b0 o0 out.2.1 out.2.2.1 out.2.2.2 v_place v_low v_high v_lowBefore v_highBefore v_least v_greatest v_things v_changing v_overLow v_overHigh v_text v_length v_at v_readKey v_readCount v_keys v_h].flatten := by
  refine kofW (by decide) (Nat.le_of_ble_eq_true rfl) ?_
  intro p e s m below meth c A ls X hP hD hS hl
  have hx := X.1.1
  have hb := X.1.2.1
  have hml := X.1.2.2.1
  have hown := X.1.2.2.2.1
  have hts := X.1.2.2.2.2
  have hl : lv_has ls 5 [(0, .ref (b0 o0)), (1, .int x1), (2, .int x2), (3, .int x3)] := hl
  rw [f_Model_setFirst] at hf
  refine lv_iload_n hx hb dX8_setFirst_0 rfl (lv_at hl 1 rfl) ?_
  refine lv_iconst (v := 2) hx hb dX8_setFirst_1 (by decide) ?_
  refine lv_bipush (v := 24) hx hb dX8_setFirst_2 (by decide) ?_
  obtain ⟨r1, hg_r1, hf⟩ := ofbind hf
  refine kcS (bs := [W_Model k b0 o0 v_row v_number v_saved v_place v_low v_high v_lowBefore v_highBefore v_least v_greatest v_things v_changing v_overLow v_overHigh v_text v_length v_at v_readKey v_readCount v_keys v_h]) (br := [W_Model k b0 o0 v_row v_number v_saved v_place v_low v_high v_lowBefore v_highBefore v_least v_greatest v_things v_changing v_overLow v_overHigh v_text v_length v_at v_readKey v_readCount v_keys v_h]) (bc := []) (bc' := []) X hP hD hS (c_Model_in l D k t x1 2 24 r1 hg_r1) ms_X8_61 hl [0] [] ⟨rfl, rfl⟩ ⟨Nat.le_of_ble_eq_true rfl, Nat.le_of_ble_eq_true rfl⟩ rfl rfl rfl rfl (Nat.le_of_ble_eq_true rfl) dX8_setFirst_4 (fun H locs hP hD hS => ?_)
  have hP : va_P D vwCl [W_Model k b0 o0 v_row v_number v_saved v_place v_low v_high v_lowBefore v_highBefore v_least v_greatest v_things v_changing v_overLow v_overHigh v_text v_length v_at v_readKey v_readCount v_keys v_h].flatten _ := hP
  have hD : va_D A [W_Model k b0 o0 v_row v_number v_saved v_place v_low v_high v_lowBefore v_highBefore v_least v_greatest v_things v_changing v_overLow v_overHigh v_text v_length v_at v_readKey v_readCount v_keys v_h].flatten := hD
  refine lv_if_eq (tgt := 29) hx hb dX8_setFirst_7 (by decide) (fun hc => ?_) (fun hc => ?_)
  · have hf := ofpos hf hc
    refine lv_bipush (v := (-3)) hx hb dX8_setFirst_29 (by decide) ?_
    have hf := Option.some.inj hf
    subst hf
    exact kiret (v := (-3)) X hP hD hS dX8_setFirst_31
  · have hf := ofneg hf hc
    refine lv_iload_n hx hb dX8_setFirst_10 rfl (lv_at hl 2 rfl) ?_
    refine lv_iconst (v := 1) hx hb dX8_setFirst_11 (by decide) ?_
    refine lv_bipush (v := 8) hx hb dX8_setFirst_12 (by decide) ?_
    obtain ⟨r2, hg_r2, hf⟩ := ofbind hf
    refine kcS (bs := [W_Model k b0 o0 v_row v_number v_saved v_place v_low v_high v_lowBefore v_highBefore v_least v_greatest v_things v_changing v_overLow v_overHigh v_text v_length v_at v_readKey v_readCount v_keys v_h]) (br := [W_Model k b0 o0 v_row v_number v_saved v_place v_low v_high v_lowBefore v_highBefore v_least v_greatest v_things v_changing v_overLow v_overHigh v_text v_length v_at v_readKey v_readCount v_keys v_h]) (bc := []) (bc' := []) X hP hD hS (c_Model_in l D k t x2 1 8 r2 hg_r2) ms_X8_61 hl [0] [] ⟨rfl, rfl⟩ ⟨Nat.le_of_ble_eq_true rfl, Nat.le_of_ble_eq_true rfl⟩ rfl rfl rfl rfl (Nat.le_of_ble_eq_true rfl) dX8_setFirst_14 (fun H locs hP hD hS => ?_)
    have hP : va_P D vwCl [W_Model k b0 o0 v_row v_number v_saved v_place v_low v_high v_lowBefore v_highBefore v_least v_greatest v_things v_changing v_overLow v_overHigh v_text v_length v_at v_readKey v_readCount v_keys v_h].flatten _ := hP
    have hD : va_D A [W_Model k b0 o0 v_row v_number v_saved v_place v_low v_high v_lowBefore v_highBefore v_least v_greatest v_things v_changing v_overLow v_overHigh v_text v_length v_at v_readKey v_readCount v_keys v_h].flatten := hD
    refine lv_if_eq (tgt := 29) hx hb dX8_setFirst_17 (by decide) (fun hc => ?_) (fun hc => ?_)
    · have hf := ofpos hf hc
      refine lv_bipush (v := (-3)) hx hb dX8_setFirst_29 (by decide) ?_
      have hf := Option.some.inj hf
      subst hf
      exact kiret (v := (-3)) X hP hD hS dX8_setFirst_31
    · have hf := ofneg hf hc
      refine lv_iload_n hx hb dX8_setFirst_20 rfl (lv_at hl 3 rfl) ?_
      refine lv_iconst (v := 1) hx hb dX8_setFirst_21 (by decide) ?_
      refine lv_iconst (v := 4) hx hb dX8_setFirst_22 (by decide) ?_
      obtain ⟨r3, hg_r3, hf⟩ := ofbind hf
      refine kcS (bs := [W_Model k b0 o0 v_row v_number v_saved v_place v_low v_high v_lowBefore v_highBefore v_least v_greatest v_things v_changing v_overLow v_overHigh v_text v_length v_at v_readKey v_readCount v_keys v_h]) (br := [W_Model k b0 o0 v_row v_number v_saved v_place v_low v_high v_lowBefore v_highBefore v_least v_greatest v_things v_changing v_overLow v_overHigh v_text v_length v_at v_readKey v_readCount v_keys v_h]) (bc := []) (bc' := []) X hP hD hS (c_Model_in l D k t x3 1 4 r3 hg_r3) ms_X8_61 hl [0] [] ⟨rfl, rfl⟩ ⟨Nat.le_of_ble_eq_true rfl, Nat.le_of_ble_eq_true rfl⟩ rfl rfl rfl rfl (Nat.le_of_ble_eq_true rfl) dX8_setFirst_23 (fun H locs hP hD hS => ?_)
      have hP : va_P D vwCl [W_Model k b0 o0 v_row v_number v_saved v_place v_low v_high v_lowBefore v_highBefore v_least v_greatest v_things v_changing v_overLow v_overHigh v_text v_length v_at v_readKey v_readCount v_keys v_h].flatten _ := hP
      have hD : va_D A [W_Model k b0 o0 v_row v_number v_saved v_place v_low v_high v_lowBefore v_highBefore v_least v_greatest v_things v_changing v_overLow v_overHigh v_text v_length v_at v_readKey v_readCount v_keys v_h].flatten := hD
      refine lv_if_ne (tgt := 32) hx hb dX8_setFirst_26 (by decide) (fun hc => ?_) (fun hc => ?_)
      · have hf := ofneg hf hc
        refine lv_aload_n hx hb dX8_setFirst_32 rfl (lv_at hl 0 rfl) ?_
        obtain ⟨r4, hg_r4, hf⟩ := ofbind hf
        refine kcV (bs := [W_Model k b0 o0 v_row v_number v_saved v_place v_low v_high v_lowBefore v_highBefore v_least v_greatest v_things v_changing v_overLow v_overHigh v_text v_length v_at v_readKey v_readCount v_keys v_h]) (br := []) (bc := [W_Model k b0 o0 v_row v_number v_saved v_place v_low v_high v_lowBefore v_highBefore v_least v_greatest v_things v_changing v_overLow v_overHigh v_text v_length v_at v_readKey v_readCount v_keys v_h]) (bc' := [W_Model k b0 o0 r4.1 r4.2.1 r4.2.2 v_place v_low v_high v_lowBefore v_highBefore v_least v_greatest v_things v_changing v_overLow v_overHigh v_text v_length v_at v_readKey v_readCount v_keys v_h]) X hP hD hS (c_Model_saves l D k t b0 o0 v_row v_number v_saved v_place v_low v_high v_lowBefore v_highBefore v_least v_greatest v_things v_changing v_overLow v_overHigh v_text v_length v_at v_readKey v_readCount v_keys v_h N r4 hg_r4) mv_X8_65 hl [] [0] 8 ⟨rfl, rfl⟩ ⟨Nat.le_of_ble_eq_true rfl, Nat.le_of_ble_eq_true rfl⟩ rfl rfl rfl rfl rfl rfl rfl (Nat.le_of_ble_eq_true rfl) dX8_setFirst_33 (fun H locs hP hD hS => ?_)
        have hP : va_P D vwCl [W_Model k b0 o0 r4.1 r4.2.1 r4.2.2 v_place v_low v_high v_lowBefore v_highBefore v_least v_greatest v_things v_changing v_overLow v_overHigh v_text v_length v_at v_readKey v_readCount v_keys v_h].flatten _ := hP
        have hD : va_D A [W_Model k b0 o0 r4.1 r4.2.1 r4.2.2 v_place v_low v_high v_lowBefore v_highBefore v_least v_greatest v_things v_changing v_overLow v_overHigh v_text v_length v_at v_readKey v_readCount v_keys v_h].flatten := hD
        refine lv_aload_n hx hb dX8_setFirst_36 rfl (lv_at hl 0 rfl) ?_
        refine kget (v := .ref (b0 (o0+1))) X hP ff_X8_7 0 rfl rfl dX8_setFirst_37 ?_
        refine lv_iconst (v := 0) hx hb dX8_setFirst_40 (by decide) ?_
        obtain ⟨hc, hf⟩ := ofck hf
        refine kiald (f := r4.1) (n := 1002) X hP 1 rfl hc dX8_setFirst_41 ?_
        refine lv_istore (lv' := [(4, .int (r4.1 (0 : Int32).toNatClampNeg)), (0, .ref (b0 o0)), (1, .int x1), (2, .int x2), (3, .int x3)]) hx hb dX8_setFirst_42 hl (by decide) rfl (fun ls hl => ?_)
        refine lv_aload_n hx hb dX8_setFirst_44 rfl (lv_at hl 1 rfl) ?_
        refine kget (v := .ref (b0 (o0+1))) X hP ff_X8_7 0 rfl rfl dX8_setFirst_45 ?_
        refine lv_iconst (v := 0) hx hb dX8_setFirst_48 (by decide) ?_
        refine lv_iload_n hx hb dX8_setFirst_49 rfl (lv_at hl 2 rfl) ?_
        obtain ⟨hc, hf⟩ := ofck hf
        generalize hc5 : upd r4.1 (0 : Int32).toNatClampNeg x1 = c5 at hf
        refine kiast2 (f := r4.1) (n := 1002) (g := c5) X hP hD hS 1 rfl hc hc5 dX8_setFirst_50 (fun H locs hP hD hS => ?_)
        have hP : va_P D vwCl [W_Model k b0 o0 c5 r4.2.1 r4.2.2 v_place v_low v_high v_lowBefore v_highBefore v_least v_greatest v_things v_changing v_overLow v_overHigh v_text v_length v_at v_readKey v_readCount v_keys v_h].flatten _ := hP
        have hD : va_D A [W_Model k b0 o0 c5 r4.2.1 r4.2.2 v_place v_low v_high v_lowBefore v_highBefore v_least v_greatest v_things v_changing v_overLow v_overHigh v_text v_length v_at v_readKey v_readCount v_keys v_h].flatten := hD
        refine lv_aload_n hx hb dX8_setFirst_51 rfl (lv_at hl 1 rfl) ?_
        refine kget (v := .ref (b0 (o0+1))) X hP ff_X8_7 0 rfl rfl dX8_setFirst_52 ?_
        refine lv_iconst (v := 1) hx hb dX8_setFirst_55 (by decide) ?_
        refine lv_iload_n hx hb dX8_setFirst_56 rfl (lv_at hl 3 rfl) ?_
        obtain ⟨hc, hf⟩ := ofck hf
        generalize hc6 : upd c5 (1 : Int32).toNatClampNeg x2 = c6 at hf
        refine kiast2 (f := c5) (n := 1002) (g := c6) X hP hD hS 1 rfl hc hc6 dX8_setFirst_57 (fun H locs hP hD hS => ?_)
        have hP : va_P D vwCl [W_Model k b0 o0 c6 r4.2.1 r4.2.2 v_place v_low v_high v_lowBefore v_highBefore v_least v_greatest v_things v_changing v_overLow v_overHigh v_text v_length v_at v_readKey v_readCount v_keys v_h].flatten _ := hP
        have hD : va_D A [W_Model k b0 o0 c6 r4.2.1 r4.2.2 v_place v_low v_high v_lowBefore v_highBefore v_least v_greatest v_things v_changing v_overLow v_overHigh v_text v_length v_at v_readKey v_readCount v_keys v_h].flatten := hD
        refine lv_aload_n hx hb dX8_setFirst_58 rfl (lv_at hl 1 rfl) ?_
        refine kget (v := .ref (b0 (o0+1))) X hP ff_X8_7 0 rfl rfl dX8_setFirst_59 ?_
        refine lv_iconst (v := 2) hx hb dX8_setFirst_62 (by decide) ?_
        refine lv_iload_n hx hb dX8_setFirst_63 rfl (lv_at hl 4 rfl) ?_
        obtain ⟨hc, hf⟩ := ofck hf
        generalize hc7 : upd c6 (2 : Int32).toNatClampNeg x3 = c7 at hf
        refine kiast2 (f := c6) (n := 1002) (g := c7) X hP hD hS 1 rfl hc hc7 dX8_setFirst_64 (fun H locs hP hD hS => ?_)
        have hP : va_P D vwCl [W_Model k b0 o0 c7 r4.2.1 r4.2.2 v_place v_low v_high v_lowBefore v_highBefore v_least v_greatest v_things v_changing v_overLow v_overHigh v_text v_length v_at v_readKey v_readCount v_keys v_h].flatten _ := hP
        have hD : va_D A [W_Model k b0 o0 c7 r4.2.1 r4.2.2 v_place v_low v_high v_lowBefore v_highBefore v_least v_greatest v_things v_changing v_overLow v_overHigh v_text v_length v_at v_readKey v_readCount v_keys v_h].flatten := hD
        refine lv_aload_n hx hb dX8_setFirst_65 rfl (lv_at hl 1 rfl) ?_
        refine lv_iconst (v := 0) hx hb dX8_setFirst_66 (by decide) ?_
        obtain ⟨r8, hg_r8, hf⟩ := ofbind hf
        refine kcV (bs := [W_Model k b0 o0 c7 r4.2.1 r4.2.2 v_place v_low v_high v_lowBefore v_highBefore v_least v_greatest v_things v_changing v_overLow v_overHigh v_text v_length v_at v_readKey v_readCount v_keys v_h]) (br := []) (bc := [W_Model k b0 o0 c7 r4.2.1 r4.2.2 v_place v_low v_high v_lowBefore v_highBefore v_least v_greatest v_things v_changing v_overLow v_overHigh v_text v_length v_at v_readKey v_readCount v_keys v_h]) (bc' := [W_Model k b0 o0 r8.1 r8.2 r4.2.2 v_place v_low v_high v_lowBefore v_highBefore v_least v_greatest v_things v_changing v_overLow v_overHigh v_text v_length v_at v_readKey v_readCount v_keys v_h]) X hP hD hS (c_Model_empties l D k t b0 o0 c7 r4.2.1 r4.2.2 v_place v_low v_high v_lowBefore v_highBefore v_least v_greatest v_things v_changing v_overLow v_overHigh v_text v_length v_at v_readKey v_readCount v_keys v_h 0 N r8 hg_r8) mv_X8_68 hl [] [0] 8 ⟨rfl, rfl⟩ ⟨Nat.le_of_ble_eq_true rfl, Nat.le_of_ble_eq_true rfl⟩ rfl rfl rfl rfl rfl rfl rfl (Nat.le_of_ble_eq_true rfl) dX8_setFirst_67 (fun H locs hP hD hS => ?_)
        have hP : va_P D vwCl [W_Model k b0 o0 r8.1 r8.2 r4.2.2 v_place v_low v_high v_lowBefore v_highBefore v_least v_greatest v_things v_changing v_overLow v_overHigh v_text v_length v_at v_readKey v_readCount v_keys v_h].flatten _ := hP
        have hD : va_D A [W_Model k b0 o0 r8.1 r8.2 r4.2.2 v_place v_low v_high v_lowBefore v_highBefore v_least v_greatest v_things v_changing v_overLow v_overHigh v_text v_length v_at v_readKey v_readCount v_keys v_h].flatten := hD
        refine lv_aload_n hx hb dX8_setFirst_70 rfl (lv_at hl 1 rfl) ?_
        refine lv_iconst (v := 1) hx hb dX8_setFirst_71 (by decide) ?_
        obtain ⟨r9, hg_r9, hf⟩ := ofbind hf
        refine kcV (bs := [W_Model k b0 o0 r8.1 r8.2 r4.2.2 v_place v_low v_high v_lowBefore v_highBefore v_least v_greatest v_things v_changing v_overLow v_overHigh v_text v_length v_at v_readKey v_readCount v_keys v_h]) (br := []) (bc := [W_Model k b0 o0 r8.1 r8.2 r4.2.2 v_place v_low v_high v_lowBefore v_highBefore v_least v_greatest v_things v_changing v_overLow v_overHigh v_text v_length v_at v_readKey v_readCount v_keys v_h]) (bc' := [W_Model k b0 o0 r9.1 r9.2 r4.2.2 v_place v_low v_high v_lowBefore v_highBefore v_least v_greatest v_things v_changing v_overLow v_overHigh v_text v_length v_at v_readKey v_readCount v_keys v_h]) X hP hD hS (c_Model_empties l D k t b0 o0 r8.1 r8.2 r4.2.2 v_place v_low v_high v_lowBefore v_highBefore v_least v_greatest v_things v_changing v_overLow v_overHigh v_text v_length v_at v_readKey v_readCount v_keys v_h 1 N r9 hg_r9) mv_X8_68 hl [] [0] 8 ⟨rfl, rfl⟩ ⟨Nat.le_of_ble_eq_true rfl, Nat.le_of_ble_eq_true rfl⟩ rfl rfl rfl rfl rfl rfl rfl (Nat.le_of_ble_eq_true rfl) dX8_setFirst_72 (fun H locs hP hD hS => ?_)
        have hP : va_P D vwCl [W_Model k b0 o0 r9.1 r9.2 r4.2.2 v_place v_low v_high v_lowBefore v_highBefore v_least v_greatest v_things v_changing v_overLow v_overHigh v_text v_length v_at v_readKey v_readCount v_keys v_h].flatten _ := hP
        have hD : va_D A [W_Model k b0 o0 r9.1 r9.2 r4.2.2 v_place v_low v_high v_lowBefore v_highBefore v_least v_greatest v_things v_changing v_overLow v_overHigh v_text v_length v_at v_readKey v_readCount v_keys v_h].flatten := hD
        refine lv_iload hx hb dX8_setFirst_75 (lv_at hl 0 rfl) ?_
        have hf := Option.some.inj hf
        subst hf
        exact kiret (v := r4.1 (0 : Int32).toNatClampNeg) X hP hD hS dX8_setFirst_77
      · have hf := ofpos hf hc
        refine lv_bipush (v := (-3)) hx hb dX8_setFirst_29 (by decide) ?_
        have hf := Option.some.inj hf
        subst hf
        exact kiret (v := (-3)) X hP hD hS dX8_setFirst_31
/-! Model_setSecond: public int setSecond(int, int); -/
abbrev rm_Model_setSecond : Room := ({ frames := 2, cells := 0, slots := 0, locals := 44 } : Room)
def f_Model_setSecond (N : Nat) (x1 : Int32) (x2 : Int32) (v_row : FI) (v_number : FJ) (v_saved : Int32) : Option (Int32 × FI × FJ × Int32) := (f_Model_in x1 1 16).bind (fun r1 => if r1 = 0 then some ((-3), v_row, v_number, v_saved) else (f_Model_in x2 1 3).bind (fun r2 => if r2 = 0 then some ((-3), v_row, v_number, v_saved) else (f_Model_saves N v_row v_number v_saved).bind (fun r3 => if ck 3 1002 = true then if ck 3 1002 = true then if ck 4 1002 = true then (f_Model_empties N 0 (upd (upd r3.1 (3 : Int32).toNatClampNeg x1) (4 : Int32).toNatClampNeg x2) r3.2.1).bind (fun r6 => (f_Model_empties N 1 r6.1 r6.2).bind (fun r7 => some (r3.1 (3 : Int32).toNatClampNeg, r7.1, r7.2, r3.2.2))) else none else none else none)))
abbrev Q_Model_setSecond (below : List Frame) (D : va_G) (k : Nat → ClassId) (A : Nat → Prop) (args : Array Value) (s : State) (b0 : Nat → Nat) (o0 : Nat) (v_row : FI) (v_number : FJ) (v_saved : Int32) (v_place : FI) (v_low : FJ) (v_high : FJ) (v_lowBefore : FJ) (v_highBefore : FJ) (v_least : FJ) (v_greatest : FJ) (v_things : Int32) (v_changing : Int32) (v_overLow : FJ) (v_overHigh : FJ) (v_text : FI) (v_length : Int32) (v_at : Int32) (v_readKey : FI) (v_readCount : FJ) (v_keys : Int32) (v_h : Int64) (out : Int32 × FI × FJ × Int32) : State → Prop := MQ below (QW D k A (some (.int out.1)) [W_Model k b0 o0 out.2.1 out.2.2.1 out.2.2.2 v_place v_low v_high v_lowBefore v_highBefore v_least v_greatest v_things v_changing v_overLow v_overHigh v_text v_length v_at v_readKey v_readCount v_keys v_h].flatten) args s 0 0 A
set_option maxRecDepth 100000 in
set_option maxHeartbeats 1000000 in
theorem c_Model_setSecond (l : Launch) (D : va_G) (k : Nat → ClassId) (t : Nat → Nat) (b0 : Nat → Nat) (o0 : Nat) (v_row : FI) (v_number : FJ) (v_saved : Int32) (v_place : FI) (v_low : FJ) (v_high : FJ) (v_lowBefore : FJ) (v_highBefore : FJ) (v_least : FJ) (v_greatest : FJ) (v_things : Int32) (v_changing : Int32) (v_overLow : FJ) (v_overHigh : FJ) (v_text : FI) (v_length : Int32) (v_at : Int32) (v_readKey : FI) (v_readCount : FJ) (v_keys : Int32) (v_h : Int64) (x1 : Int32) (x2 : Int32) (N : Nat) (out : Int32 × FI × FJ × Int32) (hf : f_Model_setSecond N x1 x2 v_row v_number v_saved = some out) : CT l D k t yX8_setSecond cX8_setSecond 4 (some .int) rm_Model_setSecond [.ref (b0 o0), .int x1, .int x2] [W_Model k b0 o0 v_row v_number v_saved v_place v_low v_high v_lowBefore v_highBefore v_least v_greatest v_things v_changing v_overLow v_overHigh v_text v_length v_at v_readKey v_readCount v_keys v_h].flatten (some (.int out.1)) [W_Model k b0 o0 out.2.1 out.2.2.1 out.2.2.2 v_place v_low v_high v_lowBefore v_highBefore v_least v_greatest v_things v_changing v_overLow v_overHigh v_text v_length v_at v_readKey v_readCount v_keys v_h].flatten := by
  refine kofW (by decide) (Nat.le_of_ble_eq_true rfl) ?_
  intro p e s m below meth c A ls X hP hD hS hl
  have hx := X.1.1
  have hb := X.1.2.1
  have hml := X.1.2.2.1
  have hown := X.1.2.2.2.1
  have hts := X.1.2.2.2.2
  have hl : lv_has ls 4 [(0, .ref (b0 o0)), (1, .int x1), (2, .int x2)] := hl
  rw [f_Model_setSecond] at hf
  refine lv_iload_n hx hb dX8_setSecond_0 rfl (lv_at hl 1 rfl) ?_
  refine lv_iconst (v := 1) hx hb dX8_setSecond_1 (by decide) ?_
  refine lv_bipush (v := 16) hx hb dX8_setSecond_2 (by decide) ?_
  obtain ⟨r1, hg_r1, hf⟩ := ofbind hf
  refine kcS (bs := [W_Model k b0 o0 v_row v_number v_saved v_place v_low v_high v_lowBefore v_highBefore v_least v_greatest v_things v_changing v_overLow v_overHigh v_text v_length v_at v_readKey v_readCount v_keys v_h]) (br := [W_Model k b0 o0 v_row v_number v_saved v_place v_low v_high v_lowBefore v_highBefore v_least v_greatest v_things v_changing v_overLow v_overHigh v_text v_length v_at v_readKey v_readCount v_keys v_h]) (bc := []) (bc' := []) X hP hD hS (c_Model_in l D k t x1 1 16 r1 hg_r1) ms_X8_61 hl [0] [] ⟨rfl, rfl⟩ ⟨Nat.le_of_ble_eq_true rfl, Nat.le_of_ble_eq_true rfl⟩ rfl rfl rfl rfl (Nat.le_of_ble_eq_true rfl) dX8_setSecond_4 (fun H locs hP hD hS => ?_)
  have hP : va_P D vwCl [W_Model k b0 o0 v_row v_number v_saved v_place v_low v_high v_lowBefore v_highBefore v_least v_greatest v_things v_changing v_overLow v_overHigh v_text v_length v_at v_readKey v_readCount v_keys v_h].flatten _ := hP
  have hD : va_D A [W_Model k b0 o0 v_row v_number v_saved v_place v_low v_high v_lowBefore v_highBefore v_least v_greatest v_things v_changing v_overLow v_overHigh v_text v_length v_at v_readKey v_readCount v_keys v_h].flatten := hD
  refine lv_if_eq (tgt := 19) hx hb dX8_setSecond_7 (by decide) (fun hc => ?_) (fun hc => ?_)
  · have hf := ofpos hf hc
    refine lv_bipush (v := (-3)) hx hb dX8_setSecond_19 (by decide) ?_
    have hf := Option.some.inj hf
    subst hf
    exact kiret (v := (-3)) X hP hD hS dX8_setSecond_21
  · have hf := ofneg hf hc
    refine lv_iload_n hx hb dX8_setSecond_10 rfl (lv_at hl 2 rfl) ?_
    refine lv_iconst (v := 1) hx hb dX8_setSecond_11 (by decide) ?_
    refine lv_iconst (v := 3) hx hb dX8_setSecond_12 (by decide) ?_
    obtain ⟨r2, hg_r2, hf⟩ := ofbind hf
    refine kcS (bs := [W_Model k b0 o0 v_row v_number v_saved v_place v_low v_high v_lowBefore v_highBefore v_least v_greatest v_things v_changing v_overLow v_overHigh v_text v_length v_at v_readKey v_readCount v_keys v_h]) (br := [W_Model k b0 o0 v_row v_number v_saved v_place v_low v_high v_lowBefore v_highBefore v_least v_greatest v_things v_changing v_overLow v_overHigh v_text v_length v_at v_readKey v_readCount v_keys v_h]) (bc := []) (bc' := []) X hP hD hS (c_Model_in l D k t x2 1 3 r2 hg_r2) ms_X8_61 hl [0] [] ⟨rfl, rfl⟩ ⟨Nat.le_of_ble_eq_true rfl, Nat.le_of_ble_eq_true rfl⟩ rfl rfl rfl rfl (Nat.le_of_ble_eq_true rfl) dX8_setSecond_13 (fun H locs hP hD hS => ?_)
    have hP : va_P D vwCl [W_Model k b0 o0 v_row v_number v_saved v_place v_low v_high v_lowBefore v_highBefore v_least v_greatest v_things v_changing v_overLow v_overHigh v_text v_length v_at v_readKey v_readCount v_keys v_h].flatten _ := hP
    have hD : va_D A [W_Model k b0 o0 v_row v_number v_saved v_place v_low v_high v_lowBefore v_highBefore v_least v_greatest v_things v_changing v_overLow v_overHigh v_text v_length v_at v_readKey v_readCount v_keys v_h].flatten := hD
    refine lv_if_ne (tgt := 22) hx hb dX8_setSecond_16 (by decide) (fun hc => ?_) (fun hc => ?_)
    · have hf := ofneg hf hc
      refine lv_aload_n hx hb dX8_setSecond_22 rfl (lv_at hl 0 rfl) ?_
      obtain ⟨r3, hg_r3, hf⟩ := ofbind hf
      refine kcV (bs := [W_Model k b0 o0 v_row v_number v_saved v_place v_low v_high v_lowBefore v_highBefore v_least v_greatest v_things v_changing v_overLow v_overHigh v_text v_length v_at v_readKey v_readCount v_keys v_h]) (br := []) (bc := [W_Model k b0 o0 v_row v_number v_saved v_place v_low v_high v_lowBefore v_highBefore v_least v_greatest v_things v_changing v_overLow v_overHigh v_text v_length v_at v_readKey v_readCount v_keys v_h]) (bc' := [W_Model k b0 o0 r3.1 r3.2.1 r3.2.2 v_place v_low v_high v_lowBefore v_highBefore v_least v_greatest v_things v_changing v_overLow v_overHigh v_text v_length v_at v_readKey v_readCount v_keys v_h]) X hP hD hS (c_Model_saves l D k t b0 o0 v_row v_number v_saved v_place v_low v_high v_lowBefore v_highBefore v_least v_greatest v_things v_changing v_overLow v_overHigh v_text v_length v_at v_readKey v_readCount v_keys v_h N r3 hg_r3) mv_X8_65 hl [] [0] 8 ⟨rfl, rfl⟩ ⟨Nat.le_of_ble_eq_true rfl, Nat.le_of_ble_eq_true rfl⟩ rfl rfl rfl rfl rfl rfl rfl (Nat.le_of_ble_eq_true rfl) dX8_setSecond_23 (fun H locs hP hD hS => ?_)
      have hP : va_P D vwCl [W_Model k b0 o0 r3.1 r3.2.1 r3.2.2 v_place v_low v_high v_lowBefore v_highBefore v_least v_greatest v_things v_changing v_overLow v_overHigh v_text v_length v_at v_readKey v_readCount v_keys v_h].flatten _ := hP
      have hD : va_D A [W_Model k b0 o0 r3.1 r3.2.1 r3.2.2 v_place v_low v_high v_lowBefore v_highBefore v_least v_greatest v_things v_changing v_overLow v_overHigh v_text v_length v_at v_readKey v_readCount v_keys v_h].flatten := hD
      refine lv_aload_n hx hb dX8_setSecond_26 rfl (lv_at hl 0 rfl) ?_
      refine kget (v := .ref (b0 (o0+1))) X hP ff_X8_7 0 rfl rfl dX8_setSecond_27 ?_
      refine lv_iconst (v := 3) hx hb dX8_setSecond_30 (by decide) ?_
      obtain ⟨hc, hf⟩ := ofck hf
      refine kiald (f := r3.1) (n := 1002) X hP 1 rfl hc dX8_setSecond_31 ?_
      refine lv_istore_n (lv' := [(3, .int (r3.1 (3 : Int32).toNatClampNeg)), (0, .ref (b0 o0)), (1, .int x1), (2, .int x2)]) hx hb dX8_setSecond_32 rfl hl (by decide) rfl (fun ls hl => ?_)
      refine lv_aload_n hx hb dX8_setSecond_33 rfl (lv_at hl 1 rfl) ?_
      refine kget (v := .ref (b0 (o0+1))) X hP ff_X8_7 0 rfl rfl dX8_setSecond_34 ?_
      refine lv_iconst (v := 3) hx hb dX8_setSecond_37 (by decide) ?_
      refine lv_iload_n hx hb dX8_setSecond_38 rfl (lv_at hl 2 rfl) ?_
      obtain ⟨hc, hf⟩ := ofck hf
      generalize hc4 : upd r3.1 (3 : Int32).toNatClampNeg x1 = c4 at hf
      refine kiast2 (f := r3.1) (n := 1002) (g := c4) X hP hD hS 1 rfl hc hc4 dX8_setSecond_39 (fun H locs hP hD hS => ?_)
      have hP : va_P D vwCl [W_Model k b0 o0 c4 r3.2.1 r3.2.2 v_place v_low v_high v_lowBefore v_highBefore v_least v_greatest v_things v_changing v_overLow v_overHigh v_text v_length v_at v_readKey v_readCount v_keys v_h].flatten _ := hP
      have hD : va_D A [W_Model k b0 o0 c4 r3.2.1 r3.2.2 v_place v_low v_high v_lowBefore v_highBefore v_least v_greatest v_things v_changing v_overLow v_overHigh v_text v_length v_at v_readKey v_readCount v_keys v_h].flatten := hD
      refine lv_aload_n hx hb dX8_setSecond_40 rfl (lv_at hl 1 rfl) ?_
      refine kget (v := .ref (b0 (o0+1))) X hP ff_X8_7 0 rfl rfl dX8_setSecond_41 ?_
      refine lv_iconst (v := 4) hx hb dX8_setSecond_44 (by decide) ?_
      refine lv_iload_n hx hb dX8_setSecond_45 rfl (lv_at hl 3 rfl) ?_
      obtain ⟨hc, hf⟩ := ofck hf
      generalize hc5 : upd c4 (4 : Int32).toNatClampNeg x2 = c5 at hf
      refine kiast2 (f := c4) (n := 1002) (g := c5) X hP hD hS 1 rfl hc hc5 dX8_setSecond_46 (fun H locs hP hD hS => ?_)
      have hP : va_P D vwCl [W_Model k b0 o0 c5 r3.2.1 r3.2.2 v_place v_low v_high v_lowBefore v_highBefore v_least v_greatest v_things v_changing v_overLow v_overHigh v_text v_length v_at v_readKey v_readCount v_keys v_h].flatten _ := hP
      have hD : va_D A [W_Model k b0 o0 c5 r3.2.1 r3.2.2 v_place v_low v_high v_lowBefore v_highBefore v_least v_greatest v_things v_changing v_overLow v_overHigh v_text v_length v_at v_readKey v_readCount v_keys v_h].flatten := hD
      refine lv_aload_n hx hb dX8_setSecond_47 rfl (lv_at hl 1 rfl) ?_
      refine lv_iconst (v := 0) hx hb dX8_setSecond_48 (by decide) ?_
      obtain ⟨r6, hg_r6, hf⟩ := ofbind hf
      refine kcV (bs := [W_Model k b0 o0 c5 r3.2.1 r3.2.2 v_place v_low v_high v_lowBefore v_highBefore v_least v_greatest v_things v_changing v_overLow v_overHigh v_text v_length v_at v_readKey v_readCount v_keys v_h]) (br := []) (bc := [W_Model k b0 o0 c5 r3.2.1 r3.2.2 v_place v_low v_high v_lowBefore v_highBefore v_least v_greatest v_things v_changing v_overLow v_overHigh v_text v_length v_at v_readKey v_readCount v_keys v_h]) (bc' := [W_Model k b0 o0 r6.1 r6.2 r3.2.2 v_place v_low v_high v_lowBefore v_highBefore v_least v_greatest v_things v_changing v_overLow v_overHigh v_text v_length v_at v_readKey v_readCount v_keys v_h]) X hP hD hS (c_Model_empties l D k t b0 o0 c5 r3.2.1 r3.2.2 v_place v_low v_high v_lowBefore v_highBefore v_least v_greatest v_things v_changing v_overLow v_overHigh v_text v_length v_at v_readKey v_readCount v_keys v_h 0 N r6 hg_r6) mv_X8_68 hl [] [0] 8 ⟨rfl, rfl⟩ ⟨Nat.le_of_ble_eq_true rfl, Nat.le_of_ble_eq_true rfl⟩ rfl rfl rfl rfl rfl rfl rfl (Nat.le_of_ble_eq_true rfl) dX8_setSecond_49 (fun H locs hP hD hS => ?_)
      have hP : va_P D vwCl [W_Model k b0 o0 r6.1 r6.2 r3.2.2 v_place v_low v_high v_lowBefore v_highBefore v_least v_greatest v_things v_changing v_overLow v_overHigh v_text v_length v_at v_readKey v_readCount v_keys v_h].flatten _ := hP
      have hD : va_D A [W_Model k b0 o0 r6.1 r6.2 r3.2.2 v_place v_low v_high v_lowBefore v_highBefore v_least v_greatest v_things v_changing v_overLow v_overHigh v_text v_length v_at v_readKey v_readCount v_keys v_h].flatten := hD
      refine lv_aload_n hx hb dX8_setSecond_52 rfl (lv_at hl 1 rfl) ?_
      refine lv_iconst (v := 1) hx hb dX8_setSecond_53 (by decide) ?_
      obtain ⟨r7, hg_r7, hf⟩ := ofbind hf
      refine kcV (bs := [W_Model k b0 o0 r6.1 r6.2 r3.2.2 v_place v_low v_high v_lowBefore v_highBefore v_least v_greatest v_things v_changing v_overLow v_overHigh v_text v_length v_at v_readKey v_readCount v_keys v_h]) (br := []) (bc := [W_Model k b0 o0 r6.1 r6.2 r3.2.2 v_place v_low v_high v_lowBefore v_highBefore v_least v_greatest v_things v_changing v_overLow v_overHigh v_text v_length v_at v_readKey v_readCount v_keys v_h]) (bc' := [W_Model k b0 o0 r7.1 r7.2 r3.2.2 v_place v_low v_high v_lowBefore v_highBefore v_least v_greatest v_things v_changing v_overLow v_overHigh v_text v_length v_at v_readKey v_readCount v_keys v_h]) X hP hD hS (c_Model_empties l D k t b0 o0 r6.1 r6.2 r3.2.2 v_place v_low v_high v_lowBefore v_highBefore v_least v_greatest v_things v_changing v_overLow v_overHigh v_text v_length v_at v_readKey v_readCount v_keys v_h 1 N r7 hg_r7) mv_X8_68 hl [] [0] 8 ⟨rfl, rfl⟩ ⟨Nat.le_of_ble_eq_true rfl, Nat.le_of_ble_eq_true rfl⟩ rfl rfl rfl rfl rfl rfl rfl (Nat.le_of_ble_eq_true rfl) dX8_setSecond_54 (fun H locs hP hD hS => ?_)
      have hP : va_P D vwCl [W_Model k b0 o0 r7.1 r7.2 r3.2.2 v_place v_low v_high v_lowBefore v_highBefore v_least v_greatest v_things v_changing v_overLow v_overHigh v_text v_length v_at v_readKey v_readCount v_keys v_h].flatten _ := hP
      have hD : va_D A [W_Model k b0 o0 r7.1 r7.2 r3.2.2 v_place v_low v_high v_lowBefore v_highBefore v_least v_greatest v_things v_changing v_overLow v_overHigh v_text v_length v_at v_readKey v_readCount v_keys v_h].flatten := hD
      refine lv_iload_n hx hb dX8_setSecond_57 rfl (lv_at hl 0 rfl) ?_
      have hf := Option.some.inj hf
      subst hf
      exact kiret (v := r3.1 (3 : Int32).toNatClampNeg) X hP hD hS dX8_setSecond_58
    · have hf := ofpos hf hc
      refine lv_bipush (v := (-3)) hx hb dX8_setSecond_19 (by decide) ?_
      have hf := Option.some.inj hf
      subst hf
      exact kiret (v := (-3)) X hP hD hS dX8_setSecond_21
/-! Model_setRounds: public int setRounds(int); -/
abbrev rm_Model_setRounds : Room := ({ frames := 2, cells := 0, slots := 0, locals := 44 } : Room)
def f_Model_setRounds (N : Nat) (x1 : Int32) (v_row : FI) (v_number : FJ) (v_saved : Int32) : Option (Int32 × FI × FJ × Int32) := (f_Model_in x1 0 60).bind (fun r1 => if r1 = 0 then some ((-3), v_row, v_number, v_saved) else (f_Model_saves N v_row v_number v_saved).bind (fun r2 => if ck 5 1002 = true then if ck 5 1002 = true then some (r2.1 (5 : Int32).toNatClampNeg, (upd r2.1 (5 : Int32).toNatClampNeg x1), r2.2.1, r2.2.2) else none else none))
abbrev Q_Model_setRounds (below : List Frame) (D : va_G) (k : Nat → ClassId) (A : Nat → Prop) (args : Array Value) (s : State) (b0 : Nat → Nat) (o0 : Nat) (v_row : FI) (v_number : FJ) (v_saved : Int32) (v_place : FI) (v_low : FJ) (v_high : FJ) (v_lowBefore : FJ) (v_highBefore : FJ) (v_least : FJ) (v_greatest : FJ) (v_things : Int32) (v_changing : Int32) (v_overLow : FJ) (v_overHigh : FJ) (v_text : FI) (v_length : Int32) (v_at : Int32) (v_readKey : FI) (v_readCount : FJ) (v_keys : Int32) (v_h : Int64) (out : Int32 × FI × FJ × Int32) : State → Prop := MQ below (QW D k A (some (.int out.1)) [W_Model k b0 o0 out.2.1 out.2.2.1 out.2.2.2 v_place v_low v_high v_lowBefore v_highBefore v_least v_greatest v_things v_changing v_overLow v_overHigh v_text v_length v_at v_readKey v_readCount v_keys v_h].flatten) args s 0 0 A
set_option maxRecDepth 100000 in
set_option maxHeartbeats 1000000 in
theorem c_Model_setRounds (l : Launch) (D : va_G) (k : Nat → ClassId) (t : Nat → Nat) (b0 : Nat → Nat) (o0 : Nat) (v_row : FI) (v_number : FJ) (v_saved : Int32) (v_place : FI) (v_low : FJ) (v_high : FJ) (v_lowBefore : FJ) (v_highBefore : FJ) (v_least : FJ) (v_greatest : FJ) (v_things : Int32) (v_changing : Int32) (v_overLow : FJ) (v_overHigh : FJ) (v_text : FI) (v_length : Int32) (v_at : Int32) (v_readKey : FI) (v_readCount : FJ) (v_keys : Int32) (v_h : Int64) (x1 : Int32) (N : Nat) (out : Int32 × FI × FJ × Int32) (hf : f_Model_setRounds N x1 v_row v_number v_saved = some out) : CT l D k t yX8_setRounds cX8_setRounds 3 (some .int) rm_Model_setRounds [.ref (b0 o0), .int x1] [W_Model k b0 o0 v_row v_number v_saved v_place v_low v_high v_lowBefore v_highBefore v_least v_greatest v_things v_changing v_overLow v_overHigh v_text v_length v_at v_readKey v_readCount v_keys v_h].flatten (some (.int out.1)) [W_Model k b0 o0 out.2.1 out.2.2.1 out.2.2.2 v_place v_low v_high v_lowBefore v_highBefore v_least v_greatest v_things v_changing v_overLow v_overHigh v_text v_length v_at v_readKey v_readCount v_keys v_h].flatten := by
  refine kofW (by decide) (Nat.le_of_ble_eq_true rfl) ?_
  intro p e s m below meth c A ls X hP hD hS hl
  have hx := X.1.1
  have hb := X.1.2.1
  have hml := X.1.2.2.1
  have hown := X.1.2.2.2.1
  have hts := X.1.2.2.2.2
  have hl : lv_has ls 3 [(0, .ref (b0 o0)), (1, .int x1)] := hl
  rw [f_Model_setRounds] at hf
  refine lv_iload_n hx hb dX8_setRounds_0 rfl (lv_at hl 1 rfl) ?_
  refine lv_iconst (v := 0) hx hb dX8_setRounds_1 (by decide) ?_
  refine lv_bipush (v := 60) hx hb dX8_setRounds_2 (by decide) ?_
  obtain ⟨r1, hg_r1, hf⟩ := ofbind hf
  refine kcS (bs := [W_Model k b0 o0 v_row v_number v_saved v_place v_low v_high v_lowBefore v_highBefore v_least v_greatest v_things v_changing v_overLow v_overHigh v_text v_length v_at v_readKey v_readCount v_keys v_h]) (br := [W_Model k b0 o0 v_row v_number v_saved v_place v_low v_high v_lowBefore v_highBefore v_least v_greatest v_things v_changing v_overLow v_overHigh v_text v_length v_at v_readKey v_readCount v_keys v_h]) (bc := []) (bc' := []) X hP hD hS (c_Model_in l D k t x1 0 60 r1 hg_r1) ms_X8_61 hl [0] [] ⟨rfl, rfl⟩ ⟨Nat.le_of_ble_eq_true rfl, Nat.le_of_ble_eq_true rfl⟩ rfl rfl rfl rfl (Nat.le_of_ble_eq_true rfl) dX8_setRounds_4 (fun H locs hP hD hS => ?_)
  have hP : va_P D vwCl [W_Model k b0 o0 v_row v_number v_saved v_place v_low v_high v_lowBefore v_highBefore v_least v_greatest v_things v_changing v_overLow v_overHigh v_text v_length v_at v_readKey v_readCount v_keys v_h].flatten _ := hP
  have hD : va_D A [W_Model k b0 o0 v_row v_number v_saved v_place v_low v_high v_lowBefore v_highBefore v_least v_greatest v_things v_changing v_overLow v_overHigh v_text v_length v_at v_readKey v_readCount v_keys v_h].flatten := hD
  refine lv_if_ne (tgt := 13) hx hb dX8_setRounds_7 (by decide) (fun hc => ?_) (fun hc => ?_)
  · have hf := ofneg hf hc
    refine lv_aload_n hx hb dX8_setRounds_13 rfl (lv_at hl 0 rfl) ?_
    obtain ⟨r2, hg_r2, hf⟩ := ofbind hf
    refine kcV (bs := [W_Model k b0 o0 v_row v_number v_saved v_place v_low v_high v_lowBefore v_highBefore v_least v_greatest v_things v_changing v_overLow v_overHigh v_text v_length v_at v_readKey v_readCount v_keys v_h]) (br := []) (bc := [W_Model k b0 o0 v_row v_number v_saved v_place v_low v_high v_lowBefore v_highBefore v_least v_greatest v_things v_changing v_overLow v_overHigh v_text v_length v_at v_readKey v_readCount v_keys v_h]) (bc' := [W_Model k b0 o0 r2.1 r2.2.1 r2.2.2 v_place v_low v_high v_lowBefore v_highBefore v_least v_greatest v_things v_changing v_overLow v_overHigh v_text v_length v_at v_readKey v_readCount v_keys v_h]) X hP hD hS (c_Model_saves l D k t b0 o0 v_row v_number v_saved v_place v_low v_high v_lowBefore v_highBefore v_least v_greatest v_things v_changing v_overLow v_overHigh v_text v_length v_at v_readKey v_readCount v_keys v_h N r2 hg_r2) mv_X8_65 hl [] [0] 8 ⟨rfl, rfl⟩ ⟨Nat.le_of_ble_eq_true rfl, Nat.le_of_ble_eq_true rfl⟩ rfl rfl rfl rfl rfl rfl rfl (Nat.le_of_ble_eq_true rfl) dX8_setRounds_14 (fun H locs hP hD hS => ?_)
    have hP : va_P D vwCl [W_Model k b0 o0 r2.1 r2.2.1 r2.2.2 v_place v_low v_high v_lowBefore v_highBefore v_least v_greatest v_things v_changing v_overLow v_overHigh v_text v_length v_at v_readKey v_readCount v_keys v_h].flatten _ := hP
    have hD : va_D A [W_Model k b0 o0 r2.1 r2.2.1 r2.2.2 v_place v_low v_high v_lowBefore v_highBefore v_least v_greatest v_things v_changing v_overLow v_overHigh v_text v_length v_at v_readKey v_readCount v_keys v_h].flatten := hD
    refine lv_aload_n hx hb dX8_setRounds_17 rfl (lv_at hl 0 rfl) ?_
    refine kget (v := .ref (b0 (o0+1))) X hP ff_X8_7 0 rfl rfl dX8_setRounds_18 ?_
    refine lv_iconst (v := 5) hx hb dX8_setRounds_21 (by decide) ?_
    obtain ⟨hc, hf⟩ := ofck hf
    refine kiald (f := r2.1) (n := 1002) X hP 1 rfl hc dX8_setRounds_22 ?_
    refine lv_istore_n (lv' := [(2, .int (r2.1 (5 : Int32).toNatClampNeg)), (0, .ref (b0 o0)), (1, .int x1)]) hx hb dX8_setRounds_23 rfl hl (by decide) rfl (fun ls hl => ?_)
    refine lv_aload_n hx hb dX8_setRounds_24 rfl (lv_at hl 1 rfl) ?_
    refine kget (v := .ref (b0 (o0+1))) X hP ff_X8_7 0 rfl rfl dX8_setRounds_25 ?_
    refine lv_iconst (v := 5) hx hb dX8_setRounds_28 (by decide) ?_
    refine lv_iload_n hx hb dX8_setRounds_29 rfl (lv_at hl 2 rfl) ?_
    obtain ⟨hc, hf⟩ := ofck hf
    generalize hc3 : upd r2.1 (5 : Int32).toNatClampNeg x1 = c3 at hf
    refine kiast2 (f := r2.1) (n := 1002) (g := c3) X hP hD hS 1 rfl hc hc3 dX8_setRounds_30 (fun H locs hP hD hS => ?_)
    have hP : va_P D vwCl [W_Model k b0 o0 c3 r2.2.1 r2.2.2 v_place v_low v_high v_lowBefore v_highBefore v_least v_greatest v_things v_changing v_overLow v_overHigh v_text v_length v_at v_readKey v_readCount v_keys v_h].flatten _ := hP
    have hD : va_D A [W_Model k b0 o0 c3 r2.2.1 r2.2.2 v_place v_low v_high v_lowBefore v_highBefore v_least v_greatest v_things v_changing v_overLow v_overHigh v_text v_length v_at v_readKey v_readCount v_keys v_h].flatten := hD
    refine lv_iload_n hx hb dX8_setRounds_31 rfl (lv_at hl 0 rfl) ?_
    have hf := Option.some.inj hf
    subst hf
    exact kiret (v := r2.1 (5 : Int32).toNatClampNeg) X hP hD hS dX8_setRounds_32
  · have hf := ofpos hf hc
    refine lv_bipush (v := (-3)) hx hb dX8_setRounds_10 (by decide) ?_
    have hf := Option.some.inj hf
    subst hf
    exact kiret (v := (-3)) X hP hD hS dX8_setRounds_12
/-! Model_form: public int form(int); -/
abbrev rm_Model_form : Room := ({ frames := 1, cells := 0, slots := 0, locals := 22 } : Room)
def f_Model_form (x1 : Int32) (v_row : FI) : Option (Int32) := (f_Model_in x1 0 6).bind (fun r1 => if r1 = 0 then some (-3) else if ck x1 1002 = true then some (v_row x1.toNatClampNeg) else none)
abbrev Q_Model_form (below : List Frame) (D : va_G) (k : Nat → ClassId) (A : Nat → Prop) (args : Array Value) (s : State) (b0 : Nat → Nat) (o0 : Nat) (v_row : FI) (v_number : FJ) (v_saved : Int32) (v_place : FI) (v_low : FJ) (v_high : FJ) (v_lowBefore : FJ) (v_highBefore : FJ) (v_least : FJ) (v_greatest : FJ) (v_things : Int32) (v_changing : Int32) (v_overLow : FJ) (v_overHigh : FJ) (v_text : FI) (v_length : Int32) (v_at : Int32) (v_readKey : FI) (v_readCount : FJ) (v_keys : Int32) (v_h : Int64) (out : Int32) : State → Prop := MQ below (QW D k A (some (.int out)) [W_Model k b0 o0 v_row v_number v_saved v_place v_low v_high v_lowBefore v_highBefore v_least v_greatest v_things v_changing v_overLow v_overHigh v_text v_length v_at v_readKey v_readCount v_keys v_h].flatten) args s 0 0 A
set_option maxRecDepth 100000 in
set_option maxHeartbeats 1000000 in
theorem c_Model_form (l : Launch) (D : va_G) (k : Nat → ClassId) (t : Nat → Nat) (b0 : Nat → Nat) (o0 : Nat) (v_row : FI) (v_number : FJ) (v_saved : Int32) (v_place : FI) (v_low : FJ) (v_high : FJ) (v_lowBefore : FJ) (v_highBefore : FJ) (v_least : FJ) (v_greatest : FJ) (v_things : Int32) (v_changing : Int32) (v_overLow : FJ) (v_overHigh : FJ) (v_text : FI) (v_length : Int32) (v_at : Int32) (v_readKey : FI) (v_readCount : FJ) (v_keys : Int32) (v_h : Int64) (x1 : Int32) (out : Int32) (hf : f_Model_form x1 v_row = some out) : CT l D k t yX8_form cX8_form 2 (some .int) rm_Model_form [.ref (b0 o0), .int x1] [W_Model k b0 o0 v_row v_number v_saved v_place v_low v_high v_lowBefore v_highBefore v_least v_greatest v_things v_changing v_overLow v_overHigh v_text v_length v_at v_readKey v_readCount v_keys v_h].flatten (some (.int out)) [W_Model k b0 o0 v_row v_number v_saved v_place v_low v_high v_lowBefore v_highBefore v_least v_greatest v_things v_changing v_overLow v_overHigh v_text v_length v_at v_readKey v_readCount v_keys v_h].flatten := by
  refine kofW (by decide) (Nat.le_of_ble_eq_true rfl) ?_
  intro p e s m below meth c A ls X hP hD hS hl
  have N : Nat := 0
  have hx := X.1.1
  have hb := X.1.2.1
  have hml := X.1.2.2.1
  have hown := X.1.2.2.2.1
  have hts := X.1.2.2.2.2
  have hl : lv_has ls 2 [(0, .ref (b0 o0)), (1, .int x1)] := hl
  rw [f_Model_form] at hf
  refine lv_iload_n hx hb dX8_form_0 rfl (lv_at hl 1 rfl) ?_
  refine lv_iconst (v := 0) hx hb dX8_form_1 (by decide) ?_
  refine lv_bipush (v := 6) hx hb dX8_form_2 (by decide) ?_
  obtain ⟨r1, hg_r1, hf⟩ := ofbind hf
  refine kcS (bs := [W_Model k b0 o0 v_row v_number v_saved v_place v_low v_high v_lowBefore v_highBefore v_least v_greatest v_things v_changing v_overLow v_overHigh v_text v_length v_at v_readKey v_readCount v_keys v_h]) (br := [W_Model k b0 o0 v_row v_number v_saved v_place v_low v_high v_lowBefore v_highBefore v_least v_greatest v_things v_changing v_overLow v_overHigh v_text v_length v_at v_readKey v_readCount v_keys v_h]) (bc := []) (bc' := []) X hP hD hS (c_Model_in l D k t x1 0 6 r1 hg_r1) ms_X8_61 hl [0] [] ⟨rfl, rfl⟩ ⟨Nat.le_of_ble_eq_true rfl, Nat.le_of_ble_eq_true rfl⟩ rfl rfl rfl rfl (Nat.le_of_ble_eq_true rfl) dX8_form_4 (fun H locs hP hD hS => ?_)
  have hP : va_P D vwCl [W_Model k b0 o0 v_row v_number v_saved v_place v_low v_high v_lowBefore v_highBefore v_least v_greatest v_things v_changing v_overLow v_overHigh v_text v_length v_at v_readKey v_readCount v_keys v_h].flatten _ := hP
  have hD : va_D A [W_Model k b0 o0 v_row v_number v_saved v_place v_low v_high v_lowBefore v_highBefore v_least v_greatest v_things v_changing v_overLow v_overHigh v_text v_length v_at v_readKey v_readCount v_keys v_h].flatten := hD
  refine lv_if_eq (tgt := 19) hx hb dX8_form_7 (by decide) (fun hc => ?_) (fun hc => ?_)
  · have hf := ofpos hf hc
    refine lv_bipush (v := (-3)) hx hb dX8_form_19 (by decide) ?_
    have hf := Option.some.inj hf
    subst hf
    exact kiret (v := (-3)) X hP hD hS dX8_form_21
  · have hf := ofneg hf hc
    refine lv_aload_n hx hb dX8_form_10 rfl (lv_at hl 0 rfl) ?_
    refine kget (v := .ref (b0 (o0+1))) X hP ff_X8_7 0 rfl rfl dX8_form_11 ?_
    refine lv_iload_n hx hb dX8_form_14 rfl (lv_at hl 1 rfl) ?_
    obtain ⟨hc, hf⟩ := ofck hf
    refine kiald (f := v_row) (n := 1002) X hP 1 rfl hc dX8_form_15 ?_
    refine lv_goto (tgt := 21) hx hb dX8_form_16 (by decide) ?_
    have hf := Option.some.inj hf
    subst hf
    exact kiret (v := v_row x1.toNatClampNeg) X hP hD hS dX8_form_21
/-! Model_find: private int find(int); -/
abbrev rm_Model_find : Room := ({ frames := 0, cells := 0, slots := 0, locals := 0 } : Room)
def f_Model_find_L4 (i1 : Int32) (v_row : FI) (K40 : Int32 → Int32 → Option (Int32)) : Nat → Int32 → Int32 → Option (Int32)
  | 0, _, _ => none
  | n + 1, i2, i3 => if ck 6 1002 = true then if (v_row (6 : Int32).toNatClampNeg) ≤ i3 then K40 i2 i3 else if ck (7 + i3) 1002 = true then if (v_row (7 + i3).toNatClampNeg) = i1 then f_Model_find_L4 i1 v_row K40 n i3 (i3 + 1) else f_Model_find_L4 i1 v_row K40 n i2 (i3 + 1) else none else none
def f_Model_find (N : Nat) (x1 : Int32) (v_row : FI) : Option (Int32) := f_Model_find_L4 x1 v_row (fun i4 i5 => some i4) N (-1) 0
abbrev Q_Model_find (below : List Frame) (D : va_G) (k : Nat → ClassId) (A : Nat → Prop) (args : Array Value) (s : State) (b0 : Nat → Nat) (o0 : Nat) (v_row : FI) (v_number : FJ) (v_saved : Int32) (v_place : FI) (v_low : FJ) (v_high : FJ) (v_lowBefore : FJ) (v_highBefore : FJ) (v_least : FJ) (v_greatest : FJ) (v_things : Int32) (v_changing : Int32) (v_overLow : FJ) (v_overHigh : FJ) (v_text : FI) (v_length : Int32) (v_at : Int32) (v_readKey : FI) (v_readCount : FJ) (v_keys : Int32) (v_h : Int64) (out : Int32) : State → Prop := MQ below (QW D k A (some (.int out)) [W_Model k b0 o0 v_row v_number v_saved v_place v_low v_high v_lowBefore v_highBefore v_least v_greatest v_things v_changing v_overLow v_overHigh v_text v_length v_at v_readKey v_readCount v_keys v_h].flatten) args s 0 0 A
set_option maxRecDepth 100000 in
set_option maxHeartbeats 1000000 in
theorem w_Model_find_L4 {p : Program} {l : Launch} {e : Env} {s : State} {m : MethodId} {below : List Frame} {meth : Method} {c : Code} {args : Array Value} {A : Nat → Prop} {D : va_G} {k : Nat → ClassId} {t : Nat → Nat} (X : BX l D k t p s m args meth c cX8_find 4 RX8 (some .int) A) (b0 : Nat → Nat) (o0 : Nat) (v_row : FI) (v_number : FJ) (v_saved : Int32) (v_place : FI) (v_low : FJ) (v_high : FJ) (v_lowBefore : FJ) (v_highBefore : FJ) (v_least : FJ) (v_greatest : FJ) (v_things : Int32) (v_changing : Int32) (v_overLow : FJ) (v_overHigh : FJ) (v_text : FI) (v_length : Int32) (v_at : Int32) (v_readKey : FI) (v_readCount : FJ) (v_keys : Int32) (v_h : Int64) (N : Nat) (i1 : Int32) (out : Int32) (K40 : Int32 → Int32 → Option (Int32)) (hK40 : ∀ (i2' : Int32) (i3' : Int32) (H : Heap) (locs : List Loc) (ls : Array Slot), va_P D vwCl [W_Model k b0 o0 v_row v_number v_saved v_place v_low v_high v_lowBefore v_highBefore v_least v_greatest v_things v_changing v_overLow v_overHigh v_text v_length v_at v_readKey v_readCount v_keys v_h].flatten H → va_D A [W_Model k b0 o0 v_row v_number v_saved v_place v_low v_high v_lowBefore v_highBefore v_least v_greatest v_things v_changing v_overLow v_overHigh v_text v_length v_at v_readKey v_readCount v_keys v_h].flatten → va_S A s.heap H locs → lv_has ls 4 [(2, .int i2')] → K40 i2' i3' = some out → W p l e rm_Model_find s m args below meth c H locs 0 0 (Q_Model_find below D k A args s b0 o0 v_row v_number v_saved v_place v_low v_high v_lowBefore v_highBefore v_least v_greatest v_things v_changing v_overLow v_overHigh v_text v_length v_at v_readKey v_readCount v_keys v_h out) (F0 m 40 ls [])) : ∀ (n : Nat) (i2 : Int32) (i3 : Int32) (H : Heap) (locs : List Loc) (ls : Array Slot), va_P D vwCl [W_Model k b0 o0 v_row v_number v_saved v_place v_low v_high v_lowBefore v_highBefore v_least v_greatest v_things v_changing v_overLow v_overHigh v_text v_length v_at v_readKey v_readCount v_keys v_h].flatten H → va_D A [W_Model k b0 o0 v_row v_number v_saved v_place v_low v_high v_lowBefore v_highBefore v_least v_greatest v_things v_changing v_overLow v_overHigh v_text v_length v_at v_readKey v_readCount v_keys v_h].flatten → va_S A s.heap H locs → lv_has ls 4 [(0, .ref (b0 o0)), (1, .int i1), (2, .int i2), (3, .int i3)] → f_Model_find_L4 i1 v_row K40 n i2 i3 = some out → W p l e rm_Model_find s m args below meth c H locs 0 0 (Q_Model_find below D k A args s b0 o0 v_row v_number v_saved v_place v_low v_high v_lowBefore v_highBefore v_least v_greatest v_things v_changing v_overLow v_overHigh v_text v_length v_at v_readKey v_readCount v_keys v_h out) (F0 m 4 ls []) := by
  have hx := X.1.1
  have hb := X.1.2.1
  have hml := X.1.2.2.1
  have hown := X.1.2.2.2.1
  have hts := X.1.2.2.2.2
  intro n
  induction n with
  | zero =>
    intro i2 i3 H locs ls hP hD hS hl hf
    rw [f_Model_find_L4] at hf
    cases hf
  | succ n ih =>
    intro i2 i3 H locs ls hP hD hS hl hf
    rw [f_Model_find_L4] at hf
    refine lv_iload_n hx hb dX8_find_4 rfl (lv_at hl 3 rfl) ?_
    refine lv_aload_n hx hb dX8_find_5 rfl (lv_at hl 0 rfl) ?_
    refine kget (v := .ref (b0 (o0+1))) X hP ff_X8_7 0 rfl rfl dX8_find_6 ?_
    refine lv_bipush (v := 6) hx hb dX8_find_9 (by decide) ?_
    obtain ⟨hc, hf⟩ := ofck hf
    refine kiald (f := v_row) (n := 1002) X hP 1 rfl hc dX8_find_11 ?_
    refine lv_icmp_ge (tgt := 40) hx hb dX8_find_12 (by decide) (fun hc => ?_) (fun hc => ?_)
    · have hf := ofpos hf hc
      exact hK40 i2 i3 _ _ _ hP hD hS (lv_sub hl [2] rfl) hf
    · have hf := ofneg hf hc
      refine lv_aload_n hx hb dX8_find_15 rfl (lv_at hl 0 rfl) ?_
      refine kget (v := .ref (b0 (o0+1))) X hP ff_X8_7 0 rfl rfl dX8_find_16 ?_
      refine lv_bipush (v := 7) hx hb dX8_find_19 (by decide) ?_
      refine lv_iload_n hx hb dX8_find_21 rfl (lv_at hl 3 rfl) ?_
      refine lv_iadd hx hb dX8_find_22 ?_
      obtain ⟨hc, hf⟩ := ofck hf
      refine kiald (f := v_row) (n := 1002) X hP 1 rfl hc dX8_find_23 ?_
      refine lv_iload_n hx hb dX8_find_24 rfl (lv_at hl 1 rfl) ?_
      refine lv_icmp_ne (tgt := 32) hx hb dX8_find_25 (by decide) (fun hc => ?_) (fun hc => ?_)
      · have hf := ofneg hf hc
        refine lv_iload_n hx hb dX8_find_32 rfl (lv_at hl 2 rfl) ?_
        refine lv_istore_n (lv' := [(2, .int i2), (0, .ref (b0 o0)), (1, .int i1), (3, .int i3)]) hx hb dX8_find_33 rfl hl (by decide) rfl (fun ls hl => ?_)
        refine lv_iinc (v := i3 + 1) (lv' := [(3, .int (i3 + 1)), (2, .int i2), (0, .ref (b0 o0)), (1, .int i1)]) hx hb dX8_find_34 hl (k := 3) rfl rfl (by decide) rfl (fun ls hl => ?_)
        refine lv_goto (tgt := 4) hx hb dX8_find_37 (by decide) ?_
        exact ih i2 (i3 + 1) _ _ _ hP hD hS (lv_sub hl [2, 3, 1, 0] rfl) hf
      · have hf := ofpos hf hc
        refine lv_iload_n hx hb dX8_find_28 rfl (lv_at hl 3 rfl) ?_
        refine lv_goto (tgt := 33) hx hb dX8_find_29 (by decide) ?_
        refine lv_istore_n (lv' := [(2, .int i3), (0, .ref (b0 o0)), (1, .int i1), (3, .int i3)]) hx hb dX8_find_33 rfl hl (by decide) rfl (fun ls hl => ?_)
        refine lv_iinc (v := i3 + 1) (lv' := [(3, .int (i3 + 1)), (2, .int i3), (0, .ref (b0 o0)), (1, .int i1)]) hx hb dX8_find_34 hl (k := 3) rfl rfl (by decide) rfl (fun ls hl => ?_)
        refine lv_goto (tgt := 4) hx hb dX8_find_37 (by decide) ?_
        exact ih i3 (i3 + 1) _ _ _ hP hD hS (lv_sub hl [2, 3, 1, 0] rfl) hf
set_option maxRecDepth 100000 in
set_option maxHeartbeats 1000000 in
theorem c_Model_find (l : Launch) (D : va_G) (k : Nat → ClassId) (t : Nat → Nat) (b0 : Nat → Nat) (o0 : Nat) (v_row : FI) (v_number : FJ) (v_saved : Int32) (v_place : FI) (v_low : FJ) (v_high : FJ) (v_lowBefore : FJ) (v_highBefore : FJ) (v_least : FJ) (v_greatest : FJ) (v_things : Int32) (v_changing : Int32) (v_overLow : FJ) (v_overHigh : FJ) (v_text : FI) (v_length : Int32) (v_at : Int32) (v_readKey : FI) (v_readCount : FJ) (v_keys : Int32) (v_h : Int64) (x1 : Int32) (N : Nat) (out : Int32) (hf : f_Model_find N x1 v_row = some out) : CT l D k t yX8_find cX8_find 4 (some .int) rm_Model_find [.ref (b0 o0), .int x1] [W_Model k b0 o0 v_row v_number v_saved v_place v_low v_high v_lowBefore v_highBefore v_least v_greatest v_things v_changing v_overLow v_overHigh v_text v_length v_at v_readKey v_readCount v_keys v_h].flatten (some (.int out)) [W_Model k b0 o0 v_row v_number v_saved v_place v_low v_high v_lowBefore v_highBefore v_least v_greatest v_things v_changing v_overLow v_overHigh v_text v_length v_at v_readKey v_readCount v_keys v_h].flatten := by
  refine kofW (by decide) (Nat.le_of_ble_eq_true rfl) ?_
  intro p e s m below meth c A ls X hP hD hS hl
  have hx := X.1.1
  have hb := X.1.2.1
  have hml := X.1.2.2.1
  have hown := X.1.2.2.2.1
  have hts := X.1.2.2.2.2
  have hl : lv_has ls 4 [(0, .ref (b0 o0)), (1, .int x1)] := hl
  rw [f_Model_find] at hf
  refine lv_iconst (v := (-1)) hx hb dX8_find_0 (by decide) ?_
  refine lv_istore_n (lv' := [(2, .int (-1)), (0, .ref (b0 o0)), (1, .int x1)]) hx hb dX8_find_1 rfl hl (by decide) rfl (fun ls hl => ?_)
  refine lv_iconst (v := 0) hx hb dX8_find_2 (by decide) ?_
  refine lv_istore_n (lv' := [(3, .int 0), (2, .int (-1)), (0, .ref (b0 o0)), (1, .int x1)]) hx hb dX8_find_3 rfl hl (by decide) rfl (fun ls hl => ?_)
  refine w_Model_find_L4 X b0 o0 v_row v_number v_saved v_place v_low v_high v_lowBefore v_highBefore v_least v_greatest v_things v_changing v_overLow v_overHigh v_text v_length v_at v_readKey v_readCount v_keys v_h N x1 out _ ?_ N (-1) 0 _ _ _ hP hD hS (lv_sub hl [2, 3, 1, 0] rfl) hf
  · intro i4 i5 H locs ls hP hD hS hl hf
    refine lv_iload_n hx hb dX8_find_40 rfl (lv_at hl 0 rfl) ?_
    have hf := Option.some.inj hf
    subst hf
    exact kiret (v := i4) X hP hD hS dX8_find_41
