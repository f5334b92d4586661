/-! Model_in: private static boolean in(int, int, int); -/
abbrev rm_Model_in : Room := ({ frames := 0, cells := 0, slots := 0, locals := 0 } : Room)
def f_Model_in (x0 : Int32) (x1 : Int32) (x2 : Int32) : Option (Int32) := if x0 < x1 then some 0 else if x2 < x0 then some 0 else some 1
abbrev Q_Model_in (below : List Frame) (D : va_G) (k : Nat → ClassId) (A : Nat → Prop) (args : Array Value) (s : State) (out : Int32) : State → Prop := MQ below (QW D k A (some (.int out)) [].flatten) args s 0 0 A
set_option maxRecDepth 100000 in
set_option maxHeartbeats 1000000 in
theorem c_Model_in (l : Launch) (D : va_G) (k : Nat → ClassId) (t : Nat → Nat) (x0 : Int32) (x1 : Int32) (x2 : Int32) (out : Int32) (hf : f_Model_in x0 x1 x2 = some out) : CT l D k t yX8_in cX8_in 3 (some .boolean) rm_Model_in [.int x0, .int x1, .int x2] [].flatten (some (.int out)) [].flatten := by
  refine kofW (by decide) (Nat.le_of_ble_eq_true rfl) ?_
  intro p e s m below meth c A ls X hP hD hS hl
  have N : Nat := 0
  have hx := X.1.1
  have hb := X.1.2.1
  have hml := X.1.2.2.1
  have hown := X.1.2.2.2.1
  have hts := X.1.2.2.2.2
  have hl : lv_has ls 3 [(0, .int x0), (1, .int x1), (2, .int x2)] := hl
  rw [f_Model_in] at hf
  refine lv_iload_n hx hb dX8_in_0 rfl (lv_at hl 0 rfl) ?_
  refine lv_iload_n hx hb dX8_in_1 rfl (lv_at hl 1 rfl) ?_
  refine lv_icmp_lt (tgt := 14) hx hb dX8_in_2 (by decide) (fun hc => ?_) (fun hc => ?_)
  · have hf := ofpos hf hc
    refine lv_iconst (v := 0) hx hb dX8_in_14 (by decide) ?_
    have hf := Option.some.inj hf
    subst hf
    exact kzret (v := 0) X hP hD hS rfl dX8_in_15
  · have hf := ofneg hf hc
    refine lv_iload_n hx hb dX8_in_5 rfl (lv_at hl 0 rfl) ?_
    refine lv_iload_n hx hb dX8_in_6 rfl (lv_at hl 2 rfl) ?_
    refine lv_icmp_gt (tgt := 14) hx hb dX8_in_7 (by decide) (fun hc => ?_) (fun hc => ?_)
    · have hf := ofpos hf hc
      refine lv_iconst (v := 0) hx hb dX8_in_14 (by decide) ?_
      have hf := Option.some.inj hf
      subst hf
      exact kzret (v := 0) X hP hD hS rfl dX8_in_15
    · have hf := ofneg hf hc
      refine lv_iconst (v := 1) hx hb dX8_in_10 (by decide) ?_
      refine lv_goto (tgt := 15) hx hb dX8_in_11 (by decide) ?_
      have hf := Option.some.inj hf
      subst hf
      exact kzret (v := 1) X hP hD hS rfl dX8_in_15
/-! Model_copies: private void copies(int, int); -/
abbrev rm_Model_copies : Room := ({ frames := 0, cells := 0, slots := 0, locals := 0 } : Room)
def f_Model_copies_L2 (i2 : Int32) (i3 : Int32) (K39 : Int32 → FI → Option (FI × FJ)) : Nat → Int32 → FI → Option (FI × FJ)
  | 0, _, _ => none
  | n + 1, i4, c5 => if 167 ≤ i4 then K39 i4 c5 else if ck ((167 * i2) + i4) 1002 = true then if ck ((167 * i3) + i4) 1002 = true then f_Model_copies_L2 i2 i3 K39 n (i4 + 1) (upd c5 ((167 * i3) + i4).toNatClampNeg (c5 ((167 * i2) + i4).toNatClampNeg)) else none else none
def f_Model_copies_L41 (i11 : Int32) (i12 : Int32) (K75 : Int32 → FJ → Option (FI × FJ)) : Nat → Int32 → FJ → Option (FI × FJ)
  | 0, _, _ => none
  | n + 1, i13, c15 => if 96 ≤ i13 then K75 i13 c15 else if ck ((96 * i11) + i13) 576 = true then if ck ((96 * i12) + i13) 576 = true then f_Model_copies_L41 i11 i12 K75 n (i13 + 1) (vp_updL c15 ((96 * i12) + i13).toNatClampNeg (c15 ((96 * i11) + i13).toNatClampNeg)) else none else none
def f_Model_copies (N : Nat) (x1 : Int32) (x2 : Int32) (v_row : FI) (v_number : FJ) : Option (FI × FJ) := f_Model_copies_L2 x1 x2 (fun i8 c9 => f_Model_copies_L41 x1 x2 (fun i17 c18 => some (c9, c18)) N 0 v_number) N 0 v_row
abbrev Q_Model_copies (below : List Frame) (D : va_G) (k : Nat → ClassId) (A : Nat → Prop) (args : Array Value) (s : State) (b0 : Nat → Nat) (o0 : Nat) (v_row : FI) (v_number : FJ) (v_saved : Int32) (v_place : FI) (v_low : FJ) (v_high : FJ) (v_lowBefore : FJ) (v_highBefore : FJ) (v_least : FJ) (v_greatest : FJ) (v_things : Int32) (v_changing : Int32) (v_overLow : FJ) (v_overHigh : FJ) (v_text : FI) (v_length : Int32) (v_at : Int32) (v_readKey : FI) (v_readCount : FJ) (v_keys : Int32) (v_h : Int64) (out : FI × FJ) : State → Prop := MQ below (QW D k A none [W_Model k b0 o0 out.1 out.2 v_saved v_place v_low v_high v_lowBefore v_highBefore v_least v_greatest v_things v_changing v_overLow v_overHigh v_text v_length v_at v_readKey v_readCount v_keys v_h].flatten) args s 0 0 A
set_option maxRecDepth 100000 in
set_option maxHeartbeats 1000000 in
theorem w_Model_copies_L2 {p : Program} {l : Launch} {e : Env} {s : State} {m : MethodId} {below : List Frame} {meth : Method} {c : Code} {args : Array Value} {A : Nat → Prop} {D : va_G} {k : Nat → ClassId} {t : Nat → Nat} (X : BX l D k t p s m args meth c cX8_copies 4 RX8 none A) (b0 : Nat → Nat) (o0 : Nat) (v_row : FI) (v_number : FJ) (v_saved : Int32) (v_place : FI) (v_low : FJ) (v_high : FJ) (v_lowBefore : FJ) (v_highBefore : FJ) (v_least : FJ) (v_greatest : FJ) (v_things : Int32) (v_changing : Int32) (v_overLow : FJ) (v_overHigh : FJ) (v_text : FI) (v_length : Int32) (v_at : Int32) (v_readKey : FI) (v_readCount : FJ) (v_keys : Int32) (v_h : Int64) (N : Nat) (i2 : Int32) (i3 : Int32) (c6 : FJ) (out : FI × FJ) (K39 : Int32 → FI → Option (FI × FJ)) (hK39 : ∀ (i4' : Int32) (c5' : FI) (H : Heap) (locs : List Loc) (ls : Array Slot), va_P D vwCl [W_Model k b0 o0 c5' c6 v_saved v_place v_low v_high v_lowBefore v_highBefore v_least v_greatest v_things v_changing v_overLow v_overHigh v_text v_length v_at v_readKey v_readCount v_keys v_h].flatten H → va_D A [W_Model k b0 o0 c5' c6 v_saved v_place v_low v_high v_lowBefore v_highBefore v_least v_greatest v_things v_changing v_overLow v_overHigh v_text v_length v_at v_readKey v_readCount v_keys v_h].flatten → va_S A s.heap H locs → lv_has ls 4 [(0, .ref (b0 o0)), (1, .int i2), (2, .int i3)] → K39 i4' c5' = some out → W p l e rm_Model_copies s m args below meth c H locs 0 0 (Q_Model_copies below D k A args s b0 o0 v_row v_number v_saved v_place v_low v_high v_lowBefore v_highBefore v_least v_greatest v_things v_changing v_overLow v_overHigh v_text v_length v_at v_readKey v_readCount v_keys v_h out) (F0 m 39 ls [])) : ∀ (n : Nat) (i4 : Int32) (c5 : FI) (H : Heap) (locs : List Loc) (ls : Array Slot), va_P D vwCl [W_Model k b0 o0 c5 c6 v_saved v_place v_low v_high v_lowBefore v_highBefore v_least v_greatest v_things v_changing v_overLow v_overHigh v_text v_length v_at v_readKey v_readCount v_keys v_h].flatten H → va_D A [W_Model k b0 o0 c5 c6 v_saved v_place v_low v_high v_lowBefore v_highBefore v_least v_greatest v_things v_changing v_overLow v_overHigh v_text v_length v_at v_readKey v_readCount v_keys v_h].flatten → va_S A s.heap H locs → lv_has ls 4 [(0, .ref (b0 o0)), (1, .int i2), (2, .int i3), (3, .int i4)] → f_Model_copies_L2 i2 i3 K39 n i4 c5 = some out → W p l e rm_Model_copies s m args below meth c H locs 0 0 (Q_Model_copies below D k A args s b0 o0 v_row v_number v_saved v_place v_low v_high v_lowBefore v_highBefore v_least v_greatest v_things v_changing v_overLow v_overHigh v_text v_length v_at v_readKey v_readCount v_keys v_h out) (F0 m 2 ls []) := by
  have hx := X.1.1
  have hb := X.1.2.1
  have hml := X.1.2.2.1
  have hown := X.1.2.2.2.1
  have hts := X.1.2.2.2.2
  intro n
  induction n with
  | zero =>
    intro i4 c5 H locs ls hP hD hS hl hf
    rw [f_Model_copies_L2] at hf
    cases hf
  | succ n ih =>
    intro i4 c5 H locs ls hP hD hS hl hf
    rw [f_Model_copies_L2] at hf
    refine lv_iload_n hx hb dX8_copies_2 rfl (lv_at hl 3 rfl) ?_
    refine lv_sipush (v := 167) hx hb dX8_copies_3 (by decide) ?_
    refine lv_icmp_ge (tgt := 39) hx hb dX8_copies_6 (by decide) (fun hc => ?_) (fun hc => ?_)
    · have hf := ofpos hf hc
      exact hK39 i4 c5 _ _ _ hP hD hS (lv_sub hl [0, 1, 2] rfl) hf
    · have hf := ofneg hf hc
      refine lv_aload_n hx hb dX8_copies_9 rfl (lv_at hl 0 rfl) ?_
      refine kget (v := .ref (b0 (o0+1))) X hP ff_X8_7 0 rfl rfl dX8_copies_10 ?_
      refine lv_sipush (v := 167) hx hb dX8_copies_13 (by decide) ?_
      refine lv_iload_n hx hb dX8_copies_16 rfl (lv_at hl 2 rfl) ?_
      refine lv_imul hx hb dX8_copies_17 ?_
      refine lv_iload_n hx hb dX8_copies_18 rfl (lv_at hl 3 rfl) ?_
      refine lv_iadd hx hb dX8_copies_19 ?_
      refine lv_aload_n hx hb dX8_copies_20 rfl (lv_at hl 0 rfl) ?_
      refine kget (v := .ref (b0 (o0+1))) X hP ff_X8_7 0 rfl rfl dX8_copies_21 ?_
      refine lv_sipush (v := 167) hx hb dX8_copies_24 (by decide) ?_
      refine lv_iload_n hx hb dX8_copies_27 rfl (lv_at hl 1 rfl) ?_
      refine lv_imul hx hb dX8_copies_28 ?_
      refine lv_iload_n hx hb dX8_copies_29 rfl (lv_at hl 3 rfl) ?_
      refine lv_iadd hx hb dX8_copies_30 ?_
      obtain ⟨hc, hf⟩ := ofck hf
      refine kiald (f := c5) (n := 1002) X hP 1 rfl hc dX8_copies_31 ?_
      obtain ⟨hc, hf⟩ := ofck hf
      generalize hc7 : upd c5 ((167 * i3) + i4).toNatClampNeg (c5 ((167 * i2) + i4).toNatClampNeg) = c7 at hf
      refine kiast2 (f := c5) (n := 1002) (g := c7) X hP hD hS 1 rfl hc hc7 dX8_copies_32 (fun H locs hP hD hS => ?_)
      have hP : va_P D vwCl [W_Model k b0 o0 c7 c6 v_saved v_place v_low v_high v_lowBefore v_highBefore v_least v_greatest v_things v_changing v_overLow v_overHigh v_text v_length v_at v_readKey v_readCount v_keys v_h].flatten _ := hP
      have hD : va_D A [W_Model k b0 o0 c7 c6 v_saved v_place v_low v_high v_lowBefore v_highBefore v_least v_greatest v_things v_changing v_overLow v_overHigh v_text v_length v_at v_readKey v_readCount v_keys v_h].flatten := hD
      refine lv_iinc (v := i4 + 1) (lv' := [(3, .int (i4 + 1)), (0, .ref (b0 o0)), (1, .int i2), (2, .int i3)]) hx hb dX8_copies_33 hl (k := 3) rfl rfl (by decide) rfl (fun ls hl => ?_)
      refine lv_goto (tgt := 2) hx hb dX8_copies_36 (by decide) ?_
      exact ih (i4 + 1) c7 _ _ _ hP hD hS (lv_sub hl [1, 2, 3, 0] rfl) hf
set_option maxRecDepth 100000 in
set_option maxHeartbeats 1000000 in
theorem w_Model_copies_L41 {p : Program} {l : Launch} {e : Env} {s : State} {m : MethodId} {below : List Frame} {meth : Method} {c : Code} {args : Array Value} {A : Nat → Prop} {D : va_G} {k : Nat → ClassId} {t : Nat → Nat} (X : BX l D k t p s m args meth c cX8_copies 4 RX8 none A) (b0 : Nat → Nat) (o0 : Nat) (v_row : FI) (v_number : FJ) (v_saved : Int32) (v_place : FI) (v_low : FJ) (v_high : FJ) (v_lowBefore : FJ) (v_highBefore : FJ) (v_least : FJ) (v_greatest : FJ) (v_things : Int32) (v_changing : Int32) (v_overLow : FJ) (v_overHigh : FJ) (v_text : FI) (v_length : Int32) (v_at : Int32) (v_readKey : FI) (v_readCount : FJ) (v_keys : Int32) (v_h : Int64) (N : Nat) (i11 : Int32) (i12 : Int32) (c14 : FI) (out : FI × FJ) (K75 : Int32 → FJ → Option (FI × FJ)) (hK75 : ∀ (i13' : Int32) (c15' : FJ) (H : Heap) (locs : List Loc) (ls : Array Slot), va_P D vwCl [W_Model k b0 o0 c14 c15' v_saved v_place v_low v_high v_lowBefore v_highBefore v_least v_greatest v_things v_changing v_overLow v_overHigh v_text v_length v_at v_readKey v_readCount v_keys v_h].flatten H → va_D A [W_Model k b0 o0 c14 c15' v_saved v_place v_low v_high v_lowBefore v_highBefore v_least v_greatest v_things v_changing v_overLow v_overHigh v_text v_length v_at v_readKey v_readCount v_keys v_h].flatten → va_S A s.heap H locs → lv_has ls 4 [] → K75 i13' c15' = some out → W p l e rm_Model_copies s m args below meth c H locs 0 0 (Q_Model_copies below D k A args s b0 o0 v_row v_number v_saved v_place v_low v_high v_lowBefore v_highBefore v_least v_greatest v_things v_changing v_overLow v_overHigh v_text v_length v_at v_readKey v_readCount v_keys v_h out) (F0 m 75 ls [])) : ∀ (n : Nat) (i13 : Int32) (c15 : FJ) (H : Heap) (locs : List Loc) (ls : Array Slot), va_P D vwCl [W_Model k b0 o0 c14 c15 v_saved v_place v_low v_high v_lowBefore v_highBefore v_least v_greatest v_things v_changing v_overLow v_overHigh v_text v_length v_at v_readKey v_readCount v_keys v_h].flatten H → va_D A [W_Model k b0 o0 c14 c15 v_saved v_place v_low v_high v_lowBefore v_highBefore v_least v_greatest v_things v_changing v_overLow v_overHigh v_text v_length v_at v_readKey v_readCount v_keys v_h].flatten → va_S A s.heap H locs → lv_has ls 4 [(0, .ref (b0 o0)), (1, .int i11), (2, .int i12), (3, .int i13)] → f_Model_copies_L41 i11 i12 K75 n i13 c15 = some out → W p l e rm_Model_copies s m args below meth c H locs 0 0 (Q_Model_copies below D k A args s b0 o0 v_row v_number v_saved v_place v_low v_high v_lowBefore v_highBefore v_least v_greatest v_things v_changing v_overLow v_overHigh v_text v_length v_at v_readKey v_readCount v_keys v_h out) (F0 m 41 ls []) := by
  have hx := X.1.1
  have hb := X.1.2.1
  have hml := X.1.2.2.1
  have hown := X.1.2.2.2.1
  have hts := X.1.2.2.2.2
  intro n
  induction n with
  | zero =>
    intro i13 c15 H locs ls hP hD hS hl hf
    rw [f_Model_copies_L41] at hf
    cases hf
  | succ n ih =>
    intro i13 c15 H locs ls hP hD hS hl hf
    rw [f_Model_copies_L41] at hf
    refine lv_iload_n hx hb dX8_copies_41 rfl (lv_at hl 3 rfl) ?_
    refine lv_bipush (v := 96) hx hb dX8_copies_42 (by decide) ?_
    refine lv_icmp_ge (tgt := 75) hx hb dX8_copies_44 (by decide) (fun hc => ?_) (fun hc => ?_)
    · have hf := ofpos hf hc
      exact hK75 i13 c15 _ _ _ hP hD hS (lv_sub hl [] rfl) hf
    · have hf := ofneg hf hc
      refine lv_aload_n hx hb dX8_copies_47 rfl (lv_at hl 0 rfl) ?_
      refine kget (v := .ref (b0 (o0+2))) X hP ff_X8_13 0 rfl rfl dX8_copies_48 ?_
      refine lv_bipush (v := 96) hx hb dX8_copies_51 (by decide) ?_
      refine lv_iload_n hx hb dX8_copies_53 rfl (lv_at hl 2 rfl) ?_
      refine lv_imul hx hb dX8_copies_54 ?_
      refine lv_iload_n hx hb dX8_copies_55 rfl (lv_at hl 3 rfl) ?_
      refine lv_iadd hx hb dX8_copies_56 ?_
      refine lv_aload_n hx hb dX8_copies_57 rfl (lv_at hl 0 rfl) ?_
      refine kget (v := .ref (b0 (o0+2))) X hP ff_X8_13 0 rfl rfl dX8_copies_58 ?_
      refine lv_bipush (v := 96) hx hb dX8_copies_61 (by decide) ?_
      refine lv_iload_n hx hb dX8_copies_63 rfl (lv_at hl 1 rfl) ?_
      refine lv_imul hx hb dX8_copies_64 ?_
      refine lv_iload_n hx hb dX8_copies_65 rfl (lv_at hl 3 rfl) ?_
      refine lv_iadd hx hb dX8_copies_66 ?_
      obtain ⟨hc, hf⟩ := ofck hf
      refine klald (f := c15) (n := 576) X hP 2 rfl hc dX8_copies_67 ?_
      obtain ⟨hc, hf⟩ := ofck hf
      generalize hc16 : vp_updL c15 ((96 * i12) + i13).toNatClampNeg (c15 ((96 * i11) + i13).toNatClampNeg) = c16 at hf
      refine klast2 (f := c15) (n := 576) (g := c16) X hP hD hS 2 rfl hc hc16 dX8_copies_68 (fun H locs hP hD hS => ?_)
      have hP : va_P D vwCl [W_Model k b0 o0 c14 c16 v_saved v_place v_low v_high v_lowBefore v_highBefore v_least v_greatest v_things v_changing v_overLow v_overHigh v_text v_length v_at v_readKey v_readCount v_keys v_h].flatten _ := hP
      have hD : va_D A [W_Model k b0 o0 c14 c16 v_saved v_place v_low v_high v_lowBefore v_highBefore v_least v_greatest v_things v_changing v_overLow v_overHigh v_text v_length v_at v_readKey v_readCount v_keys v_h].flatten := hD
      refine lv_iinc (v := i13 + 1) (lv' := [(3, .int (i13 + 1)), (0, .ref (b0 o0)), (1, .int i11), (2, .int i12)]) hx hb dX8_copies_69 hl (k := 3) rfl rfl (by decide) rfl (fun ls hl => ?_)
      refine lv_goto (tgt := 41) hx hb dX8_copies_72 (by decide) ?_
      exact ih (i13 + 1) c16 _ _ _ hP hD hS (lv_sub hl [1, 2, 3, 0] rfl) hf
set_option maxRecDepth 100000 in
set_option maxHeartbeats 1000000 in
theorem c_Model_copies (l : Launch) (D : va_G) (k : Nat → ClassId) (t : Nat → Nat) (b0 : Nat → Nat) (o0 : Nat) (v_row : FI) (v_number : FJ) (v_saved : Int32) (v_place : FI) (v_low : FJ) (v_high : FJ) (v_lowBefore : FJ) (v_highBefore : FJ) (v_least : FJ) (v_greatest : FJ) (v_things : Int32) (v_changing : Int32) (v_overLow : FJ) (v_overHigh : FJ) (v_text : FI) (v_length : Int32) (v_at : Int32) (v_readKey : FI) (v_readCount : FJ) (v_keys : Int32) (v_h : Int64) (x1 : Int32) (x2 : Int32) (N : Nat) (out : FI × FJ) (hf : f_Model_copies N x1 x2 v_row v_number = some out) : CT l D k t yX8_copies cX8_copies 4 none rm_Model_copies [.ref (b0 o0), .int x1, .int x2] [W_Model k b0 o0 v_row v_number v_saved v_place v_low v_high v_lowBefore v_highBefore v_least v_greatest v_things v_changing v_overLow v_overHigh v_text v_length v_at v_readKey v_readCount v_keys v_h].flatten none [W_Model k b0 o0 out.1 out.2 v_saved v_place v_low v_high v_lowBefore v_highBefore v_least v_greatest v_things v_changing v_overLow v_overHigh v_text v_length v_at v_readKey v_readCount v_keys v_h].flatten := by
  refine kofW (by decide) (Nat.le_of_ble_eq_true rfl) ?_
  intro p e s m below meth c A ls X hP hD hS hl
  have hx := X.1.1
  have hb := X.1.2.1
  have hml := X.1.2.2.1
  have hown := X.1.2.2.2.1
  have hts := X.1.2.2.2.2
  have hl : lv_has ls 4 [(0, .ref (b0 o0)), (1, .int x1), (2, .int x2)] := hl
  rw [f_Model_copies] at hf
  refine lv_iconst (v := 0) hx hb dX8_copies_0 (by decide) ?_
  refine lv_istore_n (lv' := [(3, .int 0), (0, .ref (b0 o0)), (1, .int x1), (2, .int x2)]) hx hb dX8_copies_1 rfl hl (by decide) rfl (fun ls hl => ?_)
  refine w_Model_copies_L2 X b0 o0 v_row v_number v_saved v_place v_low v_high v_lowBefore v_highBefore v_least v_greatest v_things v_changing v_overLow v_overHigh v_text v_length v_at v_readKey v_readCount v_keys v_h N x1 x2 v_number out _ ?_ N 0 v_row _ _ _ hP hD hS (lv_sub hl [1, 2, 3, 0] rfl) hf
  · intro i8 c9 H locs ls hP hD hS hl hf
    refine lv_iconst (v := 0) hx hb dX8_copies_39 (by decide) ?_
    refine lv_istore_n (lv' := [(3, .int 0), (0, .ref (b0 o0)), (1, .int x1), (2, .int x2)]) hx hb dX8_copies_40 rfl hl (by decide) rfl (fun ls hl => ?_)
    refine w_Model_copies_L41 X b0 o0 v_row v_number v_saved v_place v_low v_high v_lowBefore v_highBefore v_least v_greatest v_things v_changing v_overLow v_overHigh v_text v_length v_at v_readKey v_readCount v_keys v_h N x1 x2 c9 out _ ?_ N 0 v_number _ _ _ hP hD hS (lv_sub hl [1, 2, 3, 0] rfl) hf
    · intro i17 c18 H locs ls hP hD hS hl hf
      have hf := Option.some.inj hf
      subst hf
      exact kvret X hP hD hS dX8_copies_75
/-! Model_saves: private void saves(); -/
abbrev rm_Model_saves : Room := ({ frames := 1, cells := 0, slots := 0, locals := 23 } : Room)
def f_Model_saves_L2 (N : Nat) (c5 : Int32) (K29 : Int32 → FI → FJ → Option (FI × FJ × Int32)) : Nat → Int32 → FI → FJ → Option (FI × FJ × Int32)
  | 0, _, _, _ => none
  | n + 1, i2, c3, c4 => if 5 ≤ i2 then K29 i2 c3 c4 else if c5 = 5 then (f_Model_copies N (i2 + 1) i2 c3 c4).bind (fun r6 => f_Model_saves_L2 N c5 K29 n (i2 + 1) r6.1 r6.2) else K29 i2 c3 c4
def f_Model_saves_J47 (N : Nat) (t13 : Int32) (t14 : Int32) (c15 : FI) (c16 : FJ) : Option (FI × FJ × Int32) := (f_Model_copies N 0 ((t13 - t14) + 1) c15 c16).bind (fun r20 => some (r20.1, r20.2, ((t13 - t14) + 1)))
def f_Model_saves_J29 (N : Nat) (c10 : FI) (c11 : FJ) (c12 : Int32) : Option (FI × FJ × Int32) := if c12 = 5 then f_Model_saves_J47 N c12 1 c10 c11 else f_Model_saves_J47 N c12 0 c10 c11
def f_Model_saves (N : Nat) (v_row : FI) (v_number : FJ) (v_saved : Int32) : Option (FI × FJ × Int32) := f_Model_saves_L2 N v_saved (fun i7 c8 c9 => f_Model_saves_J29 N c8 c9 v_saved) N 1 v_row v_number
abbrev Q_Model_saves (below : List Frame) (D : va_G) (k : Nat → ClassId) (A : Nat → Prop) (args : Array Value) (s : State) (b0 : Nat → Nat) (o0 : Nat) (v_row : FI) (v_number : FJ) (v_saved : Int32) (v_place : FI) (v_low : FJ) (v_high : FJ) (v_lowBefore : FJ) (v_highBefore : FJ) (v_least : FJ) (v_greatest : FJ) (v_things : Int32) (v_changing : Int32) (v_overLow : FJ) (v_overHigh : FJ) (v_text : FI) (v_length : Int32) (v_at : Int32) (v_readKey : FI) (v_readCount : FJ) (v_keys : Int32) (v_h : Int64) (out : FI × FJ × Int32) : State → Prop := MQ below (QW D k A none [W_Model k b0 o0 out.1 out.2.1 out.2.2 v_place v_low v_high v_lowBefore v_highBefore v_least v_greatest v_things v_changing v_overLow v_overHigh v_text v_length v_at v_readKey v_readCount v_keys v_h].flatten) args s 0 0 A
set_option maxRecDepth 100000 in
set_option maxHeartbeats 1000000 in
theorem w_Model_saves_L2 {p : Program} {l : Launch} {e : Env} {s : State} {m : MethodId} {below : List Frame} {meth : Method} {c : Code} {args : Array Value} {A : Nat → Prop} {D : va_G} {k : Nat → ClassId} {t : Nat → Nat} (X : BX l D k t p s m args meth c cX8_saves 2 RX8 none A) (b0 : Nat → Nat) (o0 : Nat) (v_row : FI) (v_number : FJ) (v_saved : Int32) (v_place : FI) (v_low : FJ) (v_high : FJ) (v_lowBefore : FJ) (v_highBefore : FJ) (v_least : FJ) (v_greatest : FJ) (v_things : Int32) (v_changing : Int32) (v_overLow : FJ) (v_overHigh : FJ) (v_text : FI) (v_length : Int32) (v_at : Int32) (v_readKey : FI) (v_readCount : FJ) (v_keys : Int32) (v_h : Int64) (N : Nat) (c5 : Int32) (out : FI × FJ × Int32) (K29 : Int32 → FI → FJ → Option (FI × FJ × Int32)) (hK29 : ∀ (i2' : Int32) (c3' : FI) (c4' : FJ) (H : Heap) (locs : List Loc) (ls : Array Slot), va_P D vwCl [W_Model k b0 o0 c3' c4' c5 v_place v_low v_high v_lowBefore v_highBefore v_least v_greatest v_things v_changing v_overLow v_overHigh v_text v_length v_at v_readKey v_readCount v_keys v_h].flatten H → va_D A [W_Model k b0 o0 c3' c4' c5 v_place v_low v_high v_lowBefore v_highBefore v_least v_greatest v_things v_changing v_overLow v_overHigh v_text v_length v_at v_readKey v_readCount v_keys v_h].flatten → va_S A s.heap H locs → lv_has ls 2 [(0, .ref (b0 o0))] → K29 i2' c3' c4' = some out → W p l e rm_Model_saves s m args below meth c H locs 0 0 (Q_Model_saves below D k A args s b0 o0 v_row v_number v_saved v_place v_low v_high v_lowBefore v_highBefore v_least v_greatest v_things v_changing v_overLow v_overHigh v_text v_length v_at v_readKey v_readCount v_keys v_h out) (F0 m 29 ls [])) : ∀ (n : Nat) (i2 : Int32) (c3 : FI) (c4 : FJ) (H : Heap) (locs : List Loc) (ls : Array Slot), va_P D vwCl [W_Model k b0 o0 c3 c4 c5 v_place v_low v_high v_lowBefore v_highBefore v_least v_greatest v_things v_changing v_overLow v_overHigh v_text v_length v_at v_readKey v_readCount v_keys v_h].flatten H → va_D A [W_Model k b0 o0 c3 c4 c5 v_place v_low v_high v_lowBefore v_highBefore v_least v_greatest v_things v_changing v_overLow v_overHigh v_text v_length v_at v_readKey v_readCount v_keys v_h].flatten → va_S A s.heap H locs → lv_has ls 2 [(0, .ref (b0 o0)), (1, .int i2)] → f_Model_saves_L2 N c5 K29 n i2 c3 c4 = some out → W p l e rm_Model_saves s m args below meth c H locs 0 0 (Q_Model_saves below D k A args s b0 o0 v_row v_number v_saved v_place v_low v_high v_lowBefore v_highBefore v_least v_greatest v_things v_changing v_overLow v_overHigh v_text v_length v_at v_readKey v_readCount v_keys v_h out) (F0 m 2 ls []) := by
  have hx := X.1.1
  have hb := X.1.2.1
  have hml := X.1.2.2.1
  have hown := X.1.2.2.2.1
  have hts := X.1.2.2.2.2
  intro n
  induction n with
  | zero =>
    intro i2 c3 c4 H locs ls hP hD hS hl hf
    rw [f_Model_saves_L2] at hf
    cases hf
  | succ n ih =>
    intro i2 c3 c4 H locs ls hP hD hS hl hf
    rw [f_Model_saves_L2] at hf
    refine lv_iload_n hx hb dX8_saves_2 rfl (lv_at hl 1 rfl) ?_
    refine lv_iconst (v := 5) hx hb dX8_saves_3 (by decide) ?_
    refine lv_icmp_ge (tgt := 29) hx hb dX8_saves_4 (by decide) (fun hc => ?_) (fun hc => ?_)
    · have hf := ofpos hf hc
      exact hK29 i2 c3 c4 _ _ _ hP hD hS (lv_sub hl [0] rfl) hf
    · have hf := ofneg hf hc
      refine lv_aload_n hx hb dX8_saves_7 rfl (lv_at hl 0 rfl) ?_
      refine kget (v := .int c5) X hP ff_X8_53 0 rfl rfl dX8_saves_8 ?_
      refine lv_iconst (v := 5) hx hb dX8_saves_11 (by decide) ?_
      refine lv_icmp_ne (tgt := 29) hx hb dX8_saves_12 (by decide) (fun hc => ?_) (fun hc => ?_)
      · have hf := ofneg hf hc
        exact hK29 i2 c3 c4 _ _ _ hP hD hS (lv_sub hl [0] rfl) hf
      · have hf := ofpos hf hc
        refine lv_aload_n hx hb dX8_saves_15 rfl (lv_at hl 0 rfl) ?_
        refine lv_iload_n hx hb dX8_saves_16 rfl (lv_at hl 1 rfl) ?_
        refine lv_iconst (v := 1) hx hb dX8_saves_17 (by decide) ?_
        refine lv_iadd hx hb dX8_saves_18 ?_
        refine lv_iload_n hx hb dX8_saves_19 rfl (lv_at hl 1 rfl) ?_
        obtain ⟨r6, hg_r6, hf⟩ := ofbind hf
        refine kcV (bs := [W_Model k b0 o0 c3 c4 c5 v_place v_low v_high v_lowBefore v_highBefore v_least v_greatest v_things v_changing v_overLow v_overHigh v_text v_length v_at v_readKey v_readCount v_keys v_h]) (br := []) (bc := [W_Model k b0 o0 c3 c4 c5 v_place v_low v_high v_lowBefore v_highBefore v_least v_greatest v_things v_changing v_overLow v_overHigh v_text v_length v_at v_readKey v_readCount v_keys v_h]) (bc' := [W_Model k b0 o0 r6.1 r6.2 c5 v_place v_low v_high v_lowBefore v_highBefore v_least v_greatest v_things v_changing v_overLow v_overHigh v_text v_length v_at v_readKey v_readCount v_keys v_h]) X hP hD hS (c_Model_copies l D k t b0 o0 c3 c4 c5 v_place v_low v_high v_lowBefore v_highBefore v_least v_greatest v_things v_changing v_overLow v_overHigh v_text v_length v_at v_readKey v_readCount v_keys v_h (i2 + 1) i2 N r6 hg_r6) mv_X8_57 hl [] [0] 8 ⟨rfl, rfl⟩ ⟨Nat.le_of_ble_eq_true rfl, Nat.le_of_ble_eq_true rfl⟩ rfl rfl rfl rfl rfl rfl rfl (Nat.le_of_ble_eq_true rfl) dX8_saves_20 (fun H locs hP hD hS => ?_)
        have hP : va_P D vwCl [W_Model k b0 o0 r6.1 r6.2 c5 v_place v_low v_high v_lowBefore v_highBefore v_least v_greatest v_things v_changing v_overLow v_overHigh v_text v_length v_at v_readKey v_readCount v_keys v_h].flatten _ := hP
        have hD : va_D A [W_Model k b0 o0 r6.1 r6.2 c5 v_place v_low v_high v_lowBefore v_highBefore v_least v_greatest v_things v_changing v_overLow v_overHigh v_text v_length v_at v_readKey v_readCount v_keys v_h].flatten := hD
        refine lv_iinc (v := i2 + 1) (lv' := [(1, .int (i2 + 1)), (0, .ref (b0 o0))]) hx hb dX8_saves_23 hl (k := 1) rfl rfl (by decide) rfl (fun ls hl => ?_)
        refine lv_goto (tgt := 2) hx hb dX8_saves_26 (by decide) ?_
        exact ih (i2 + 1) r6.1 r6.2 _ _ _ hP hD hS (lv_sub hl [1, 0] rfl) hf
set_option maxRecDepth 100000 in
set_option maxHeartbeats 1000000 in
theorem w_Model_saves_J47 {p : Program} {l : Launch} {e : Env} {s : State} {m : MethodId} {below : List Frame} {meth : Method} {c : Code} {args : Array Value} {A : Nat → Prop} {D : va_G} {k : Nat → ClassId} {t : Nat → Nat} (X : BX l D k t p s m args meth c cX8_saves 2 RX8 none A) (b0 : Nat → Nat) (o0 : Nat) (v_row : FI) (v_number : FJ) (v_saved : Int32) (v_place : FI) (v_low : FJ) (v_high : FJ) (v_lowBefore : FJ) (v_highBefore : FJ) (v_least : FJ) (v_greatest : FJ) (v_things : Int32) (v_changing : Int32) (v_overLow : FJ) (v_overHigh : FJ) (v_text : FI) (v_length : Int32) (v_at : Int32) (v_readKey : FI) (v_readCount : FJ) (v_keys : Int32) (v_h : Int64) (N : Nat) (t13 : Int32) (t14 : Int32) (c15 : FI) (c16 : FJ) (c17 : Int32) (out : FI × FJ × Int32) : ∀ (H : Heap) (locs : List Loc) (ls : Array Slot), va_P D vwCl [W_Model k b0 o0 c15 c16 c17 v_place v_low v_high v_lowBefore v_highBefore v_least v_greatest v_things v_changing v_overLow v_overHigh v_text v_length v_at v_readKey v_readCount v_keys v_h].flatten H → va_D A [W_Model k b0 o0 c15 c16 c17 v_place v_low v_high v_lowBefore v_highBefore v_least v_greatest v_things v_changing v_overLow v_overHigh v_text v_length v_at v_readKey v_readCount v_keys v_h].flatten → va_S A s.heap H locs → lv_has ls 2 [(0, .ref (b0 o0))] → f_Model_saves_J47 N t13 t14 c15 c16 = some out → W p l e rm_Model_saves s m args below meth c H locs 0 0 (Q_Model_saves below D k A args s b0 o0 v_row v_number v_saved v_place v_low v_high v_lowBefore v_highBefore v_least v_greatest v_things v_changing v_overLow v_overHigh v_text v_length v_at v_readKey v_readCount v_keys v_h out) (F0 m 47 ls [.int t14, .int t13, .ref (b0 o0)]) := by
  have hx := X.1.1
  have hb := X.1.2.1
  have hml := X.1.2.2.1
  have hown := X.1.2.2.2.1
  have hts := X.1.2.2.2.2
  intro H locs ls hP hD hS hl hf
  rw [f_Model_saves_J47] at hf
  refine lv_isub hx hb dX8_saves_47 ?_
  generalize hy18 : t13 - t14 = y18 at hf ⊢
  refine kputi (v := y18) X hP hD hS fp_X8_53 0 rfl (Nat.le_of_ble_eq_true rfl) dX8_saves_48 (fun H locs hP hD hS => ?_)
  have hP : va_P D vwCl [W_Model k b0 o0 c15 c16 y18 v_place v_low v_high v_lowBefore v_highBefore v_least v_greatest v_things v_changing v_overLow v_overHigh v_text v_length v_at v_readKey v_readCount v_keys v_h].flatten _ := hP
  have hD : va_D A [W_Model k b0 o0 c15 c16 y18 v_place v_low v_high v_lowBefore v_highBefore v_least v_greatest v_things v_changing v_overLow v_overHigh v_text v_length v_at v_readKey v_readCount v_keys v_h].flatten := hD
  refine lv_aload_n hx hb dX8_saves_51 rfl (lv_at hl 0 rfl) ?_
  refine lv_dup hx hb dX8_saves_52 rfl ?_
  refine kget (v := .int y18) X hP ff_X8_53 0 rfl rfl dX8_saves_53 ?_
  refine lv_iconst (v := 1) hx hb dX8_saves_56 (by decide) ?_
  refine lv_iadd hx hb dX8_saves_57 ?_
  generalize hy19 : y18 + 1 = y19 at hf ⊢
  refine kputi (v := y19) X hP hD hS fp_X8_53 0 rfl (Nat.le_of_ble_eq_true rfl) dX8_saves_58 (fun H locs hP hD hS => ?_)
  have hP : va_P D vwCl [W_Model k b0 o0 c15 c16 y19 v_place v_low v_high v_lowBefore v_highBefore v_least v_greatest v_things v_changing v_overLow v_overHigh v_text v_length v_at v_readKey v_readCount v_keys v_h].flatten _ := hP
  have hD : va_D A [W_Model k b0 o0 c15 c16 y19 v_place v_low v_high v_lowBefore v_highBefore v_least v_greatest v_things v_changing v_overLow v_overHigh v_text v_length v_at v_readKey v_readCount v_keys v_h].flatten := hD
  refine lv_aload_n hx hb dX8_saves_61 rfl (lv_at hl 0 rfl) ?_
  refine lv_iconst (v := 0) hx hb dX8_saves_62 (by decide) ?_
  refine lv_aload_n hx hb dX8_saves_63 rfl (lv_at hl 0 rfl) ?_
  refine kget (v := .int y19) X hP ff_X8_53 0 rfl rfl dX8_saves_64 ?_
  obtain ⟨r20, hg_r20, hf⟩ := ofbind hf
  refine kcV (bs := [W_Model k b0 o0 c15 c16 y19 v_place v_low v_high v_lowBefore v_highBefore v_least v_greatest v_things v_changing v_overLow v_overHigh v_text v_length v_at v_readKey v_readCount v_keys v_h]) (br := []) (bc := [W_Model k b0 o0 c15 c16 y19 v_place v_low v_high v_lowBefore v_highBefore v_least v_greatest v_things v_changing v_overLow v_overHigh v_text v_length v_at v_readKey v_readCount v_keys v_h]) (bc' := [W_Model k b0 o0 r20.1 r20.2 y19 v_place v_low v_high v_lowBefore v_highBefore v_least v_greatest v_things v_changing v_overLow v_overHigh v_text v_length v_at v_readKey v_readCount v_keys v_h]) X hP hD hS (c_Model_copies l D k t b0 o0 c15 c16 y19 v_place v_low v_high v_lowBefore v_highBefore v_least v_greatest v_things v_changing v_overLow v_overHigh v_text v_length v_at v_readKey v_readCount v_keys v_h 0 y19 N r20 hg_r20) mv_X8_57 hl [] [0] 8 ⟨rfl, rfl⟩ ⟨Nat.le_of_ble_eq_true rfl, Nat.le_of_ble_eq_true rfl⟩ rfl rfl rfl rfl rfl rfl rfl (Nat.le_of_ble_eq_true rfl) dX8_saves_67 (fun H locs hP hD hS => ?_)
  have hP : va_P D vwCl [W_Model k b0 o0 r20.1 r20.2 y19 v_place v_low v_high v_lowBefore v_highBefore v_least v_greatest v_things v_changing v_overLow v_overHigh v_text v_length v_at v_readKey v_readCount v_keys v_h].flatten _ := hP
  have hD : va_D A [W_Model k b0 o0 r20.1 r20.2 y19 v_place v_low v_high v_lowBefore v_highBefore v_least v_greatest v_things v_changing v_overLow v_overHigh v_text v_length v_at v_readKey v_readCount v_keys v_h].flatten := hD
  have hf := Option.some.inj hf
  subst hf
  exact kvret X hP hD hS dX8_saves_70
set_option maxRecDepth 100000 in
set_option maxHeartbeats 1000000 in
theorem w_Model_saves_J29 {p : Program} {l : Launch} {e : Env} {s : State} {m : MethodId} {below : List Frame} {meth : Method} {c : Code} {args : Array Value} {A : Nat → Prop} {D : va_G} {k : Nat → ClassId} {t : Nat → Nat} (X : BX l D k t p s m args meth c cX8_saves 2 RX8 none A) (b0 : Nat → Nat) (o0 : Nat) (v_row : FI) (v_number : FJ) (v_saved : Int32) (v_place : FI) (v_low : FJ) (v_high : FJ) (v_lowBefore : FJ) (v_highBefore : FJ) (v_least : FJ) (v_greatest : FJ) (v_things : Int32) (v_changing : Int32) (v_overLow : FJ) (v_overHigh : FJ) (v_text : FI) (v_length : Int32) (v_at : Int32) (v_readKey : FI) (v_readCount : FJ) (v_keys : Int32) (v_h : Int64) (N : Nat) (c10 : FI) (c11 : FJ) (c12 : Int32) (out : FI × FJ × Int32) : ∀ (H : Heap) (locs : List Loc) (ls : Array Slot), va_P D vwCl [W_Model k b0 o0 c10 c11 c12 v_place v_low v_high v_lowBefore v_highBefore v_least v_greatest v_things v_changing v_overLow v_overHigh v_text v_length v_at v_readKey v_readCount v_keys v_h].flatten H → va_D A [W_Model k b0 o0 c10 c11 c12 v_place v_low v_high v_lowBefore v_highBefore v_least v_greatest v_things v_changing v_overLow v_overHigh v_text v_length v_at v_readKey v_readCount v_keys v_h].flatten → va_S A s.heap H locs → lv_has ls 2 [(0, .ref (b0 o0))] → f_Model_saves_J29 N c10 c11 c12 = some out → W p l e rm_Model_saves s m args below meth c H locs 0 0 (Q_Model_saves below D k A args s b0 o0 v_row v_number v_saved v_place v_low v_high v_lowBefore v_highBefore v_least v_greatest v_things v_changing v_overLow v_overHigh v_text v_length v_at v_readKey v_readCount v_keys v_h out) (F0 m 29 ls []) := by
  have hx := X.1.1
  have hb := X.1.2.1
  have hml := X.1.2.2.1
  have hown := X.1.2.2.2.1
  have hts := X.1.2.2.2.2
  intro H locs ls hP hD hS hl hf
  rw [f_Model_saves_J29] at hf
  refine lv_aload_n hx hb dX8_saves_29 rfl (lv_at hl 0 rfl) ?_
  refine lv_dup hx hb dX8_saves_30 rfl ?_
  refine kget (v := .int c12) X hP ff_X8_53 0 rfl rfl dX8_saves_31 ?_
  refine lv_aload_n hx hb dX8_saves_34 rfl (lv_at hl 0 rfl) ?_
  refine kget (v := .int c12) X hP ff_X8_53 0 rfl rfl dX8_saves_35 ?_
  refine lv_iconst (v := 5) hx hb dX8_saves_38 (by decide) ?_
  refine lv_icmp_ne (tgt := 46) hx hb dX8_saves_39 (by decide) (fun hc => ?_) (fun hc => ?_)
  · have hf := ofneg hf hc
    refine lv_iconst (v := 0) hx hb dX8_saves_46 (by decide) ?_
    exact w_Model_saves_J47 X b0 o0 v_row v_number v_saved v_place v_low v_high v_lowBefore v_highBefore v_least v_greatest v_things v_changing v_overLow v_overHigh v_text v_length v_at v_readKey v_readCount v_keys v_h N c12 0 c10 c11 c12 out _ _ _ hP hD hS (lv_sub hl [0] rfl) hf
  · have hf := ofpos hf hc
    refine lv_iconst (v := 1) hx hb dX8_saves_42 (by decide) ?_
    refine lv_goto (tgt := 47) hx hb dX8_saves_43 (by decide) ?_
    exact w_Model_saves_J47 X b0 o0 v_row v_number v_saved v_place v_low v_high v_lowBefore v_highBefore v_least v_greatest v_things v_changing v_overLow v_overHigh v_text v_length v_at v_readKey v_readCount v_keys v_h N c12 1 c10 c11 c12 out _ _ _ hP hD hS (lv_sub hl [0] rfl) hf
set_option maxRecDepth 100000 in
set_option maxHeartbeats 1000000 in
theorem c_Model_saves (l : Launch) (D : va_G) (k : Nat → ClassId) (t : Nat → Nat) (b0 : Nat → Nat) (o0 : Nat) (v_row : FI) (v_number : FJ) (v_saved : Int32) (v_place : FI) (v_low : FJ) (v_high : FJ) (v_lowBefore : FJ) (v_highBefore : FJ) (v_least : FJ) (v_greatest : FJ) (v_things : Int32) (v_changing : Int32) (v_overLow : FJ) (v_overHigh : FJ) (v_text : FI) (v_length : Int32) (v_at : Int32) (v_readKey : FI) (v_readCount : FJ) (v_keys : Int32) (v_h : Int64) (N : Nat) (out : FI × FJ × Int32) (hf : f_Model_saves N v_row v_number v_saved = some out) : CT l D k t yX8_saves cX8_saves 2 none rm_Model_saves [.ref (b0 o0)] [W_Model k b0 o0 v_row v_number v_saved v_place v_low v_high v_lowBefore v_highBefore v_least v_greatest v_things v_changing v_overLow v_overHigh v_text v_length v_at v_readKey v_readCount v_keys v_h].flatten none [W_Model k b0 o0 out.1 out.2.1 out.2.2 v_place v_low v_high v_lowBefore v_highBefore v_least v_greatest v_things v_changing v_overLow v_overHigh v_text v_length v_at v_readKey v_readCount v_keys v_h].flatten := by
  refine kofW (by decide) (Nat.le_of_ble_eq_true rfl) ?_
  intro p e s m below meth c A ls X hP hD hS hl
  have hx := X.1.1
  have hb := X.1.2.1
  have hml := X.1.2.2.1
  have hown := X.1.2.2.2.1
  have hts := X.1.2.2.2.2
  have hl : lv_has ls 2 [(0, .ref (b0 o0))] := hl
  rw [f_Model_saves] at hf
  refine lv_iconst (v := 1) hx hb dX8_saves_0 (by decide) ?_
  refine lv_istore_n (lv' := [(1, .int 1), (0, .ref (b0 o0))]) hx hb dX8_saves_1 rfl hl (by decide) rfl (fun ls hl => ?_)
  refine w_Model_saves_L2 X b0 o0 v_row v_number v_saved v_place v_low v_high v_lowBefore v_highBefore v_least v_greatest v_things v_changing v_overLow v_overHigh v_text v_length v_at v_readKey v_readCount v_keys v_h N v_saved out _ ?_ N 1 v_row v_number _ _ _ hP hD hS (lv_sub hl [1, 0] rfl) hf
  · intro i7 c8 c9 H locs ls hP hD hS hl hf
    exact w_Model_saves_J29 X b0 o0 v_row v_number v_saved v_place v_low v_high v_lowBefore v_highBefore v_least v_greatest v_things v_changing v_overLow v_overHigh v_text v_length v_at v_readKey v_readCount v_keys v_h N c8 c9 v_saved out _ _ _ hP hD hS (lv_sub hl [0] rfl) hf
/-! Model_isBraid: private static boolean isBraid(int); -/
abbrev rm_Model_isBraid : Room := ({ frames := 1, cells := 0, slots := 0, locals := 22 } : Room)
def f_Model_isBraid (x0 : Int32) : Option (Int32) := (f_Model_in x0 0 1).bind (fun r1 => if r1 = 0 ∨ r1 = 1 then some r1 else none)
abbrev Q_Model_isBraid (below : List Frame) (D : va_G) (k : Nat → ClassId) (A : Nat → Prop) (args : Array Value) (s : State) (out : Int32) : State → Prop := MQ below (QW D k A (some (.int out)) [].flatten) args s 0 0 A
set_option maxRecDepth 100000 in
set_option maxHeartbeats 1000000 in
theorem c_Model_isBraid (l : Launch) (D : va_G) (k : Nat → ClassId) (t : Nat → Nat) (x0 : Int32) (out : Int32) (hf : f_Model_isBraid x0 = some out) : CT l D k t yX8_isBraid cX8_isBraid 1 (some .boolean) rm_Model_isBraid [.int x0] [].flatten (some (.int out)) [].flatten := by
  refine kofW (by decide) (Nat.le_of_ble_eq_true rfl) ?_
  intro p e s m below meth c A ls X hP hD hS hl
  have N : Nat := 0
  have hx := X.1.1
  have hb := X.1.2.1
  have hml := X.1.2.2.1
  have hown := X.1.2.2.2.1
  have hts := X.1.2.2.2.2
  have hl : lv_has ls 1 [(0, .int x0)] := hl
  rw [f_Model_isBraid] at hf
  refine lv_iload_n hx hb dX8_isBraid_0 rfl (lv_at hl 0 rfl) ?_
  refine lv_iconst (v := 0) hx hb dX8_isBraid_1 (by decide) ?_
  refine lv_iconst (v := 1) hx hb dX8_isBraid_2 (by decide) ?_
  obtain ⟨r1, hg_r1, hf⟩ := ofbind hf
  refine kcS (bs := []) (br := []) (bc := []) (bc' := []) X hP hD hS (c_Model_in l D k t x0 0 1 r1 hg_r1) ms_X8_61 hl [] [] ⟨rfl, rfl⟩ ⟨Nat.le_of_ble_eq_true rfl, Nat.le_of_ble_eq_true rfl⟩ rfl rfl rfl rfl (Nat.le_of_ble_eq_true rfl) dX8_isBraid_3 (fun H locs hP hD hS => ?_)
  have hP : va_P D vwCl [].flatten _ := hP
  have hD : va_D A [].flatten := hD
  obtain ⟨hz, hf⟩ := ofif hf
  have hf := Option.some.inj hf
  subst hf
  exact kzret (v := r1) X hP hD hS (zck_n hz) dX8_isBraid_6
/-! Model_isFlow: private boolean isFlow(int); -/
abbrev rm_Model_isFlow : Room := ({ frames := 1, cells := 0, slots := 0, locals := 22 } : Room)
def f_Model_isFlow (x1 : Int32) (v_row : FI) : Option (Int32) := if ck 6 1002 = true then (f_Model_in x1 0 ((v_row (6 : Int32).toNatClampNeg) - 1)).bind (fun r1 => if r1 = 0 ∨ r1 = 1 then some r1 else none) else none
abbrev Q_Model_isFlow (below : List Frame) (D : va_G) (k : Nat → ClassId) (A : Nat → Prop) (args : Array Value) (s : State) (b0 : Nat → Nat) (o0 : Nat) (v_row : FI) (v_number : FJ) (v_saved : Int32) (v_place : FI) (v_low : FJ) (v_high : FJ) (v_lowBefore : FJ) (v_highBefore : FJ) (v_least : FJ) (v_greatest : FJ) (v_things : Int32) (v_changing : Int32) (v_overLow : FJ) (v_overHigh : FJ) (v_text : FI) (v_length : Int32) (v_at : Int32) (v_readKey : FI) (v_readCount : FJ) (v_keys : Int32) (v_h : Int64) (out : Int32) : State → Prop := MQ below (QW D k A (some (.int out)) [W_Model k b0 o0 v_row v_number v_saved v_place v_low v_high v_lowBefore v_highBefore v_least v_greatest v_things v_changing v_overLow v_overHigh v_text v_length v_at v_readKey v_readCount v_keys v_h].flatten) args s 0 0 A
set_option maxRecDepth 100000 in
set_option maxHeartbeats 1000000 in
theorem c_Model_isFlow (l : Launch) (D : va_G) (k : Nat → ClassId) (t : Nat → Nat) (b0 : Nat → Nat) (o0 : Nat) (v_row : FI) (v_number : FJ) (v_saved : Int32) (v_place : FI) (v_low : FJ) (v_high : FJ) (v_lowBefore : FJ) (v_highBefore : FJ) (v_least : FJ) (v_greatest : FJ) (v_things : Int32) (v_changing : Int32) (v_overLow : FJ) (v_overHigh : FJ) (v_text : FI) (v_length : Int32) (v_at : Int32) (v_readKey : FI) (v_readCount : FJ) (v_keys : Int32) (v_h : Int64) (x1 : Int32) (out : Int32) (hf : f_Model_isFlow x1 v_row = some out) : CT l D k t yX8_isFlow cX8_isFlow 2 (some .boolean) rm_Model_isFlow [.ref (b0 o0), .int x1] [W_Model k b0 o0 v_row v_number v_saved v_place v_low v_high v_lowBefore v_highBefore v_least v_greatest v_things v_changing v_overLow v_overHigh v_text v_length v_at v_readKey v_readCount v_keys v_h].flatten (some (.int out)) [W_Model k b0 o0 v_row v_number v_saved v_place v_low v_high v_lowBefore v_highBefore v_least v_greatest v_things v_changing v_overLow v_overHigh v_text v_length v_at v_readKey v_readCount v_keys v_h].flatten := by
  refine kofW (by decide) (Nat.le_of_ble_eq_true rfl) ?_
  intro p e s m below meth c A ls X hP hD hS hl
  have N : Nat := 0
  have hx := X.1.1
  have hb := X.1.2.1
  have hml := X.1.2.2.1
  have hown := X.1.2.2.2.1
  have hts := X.1.2.2.2.2
  have hl : lv_has ls 2 [(0, .ref (b0 o0)), (1, .int x1)] := hl
  rw [f_Model_isFlow] at hf
  refine lv_iload_n hx hb dX8_isFlow_0 rfl (lv_at hl 1 rfl) ?_
  refine lv_iconst (v := 0) hx hb dX8_isFlow_1 (by decide) ?_
  refine lv_aload_n hx hb dX8_isFlow_2 rfl (lv_at hl 0 rfl) ?_
  refine kget (v := .ref (b0 (o0+1))) X hP ff_X8_7 0 rfl rfl dX8_isFlow_3 ?_
  refine lv_bipush (v := 6) hx hb dX8_isFlow_6 (by decide) ?_
  obtain ⟨hc, hf⟩ := ofck hf
  refine kiald (f := v_row) (n := 1002) X hP 1 rfl hc dX8_isFlow_8 ?_
  refine lv_iconst (v := 1) hx hb dX8_isFlow_9 (by decide) ?_
  refine lv_isub hx hb dX8_isFlow_10 ?_
  obtain ⟨r1, hg_r1, hf⟩ := ofbind hf
  refine kcS (bs := [W_Model k b0 o0 v_row v_number v_saved v_place v_low v_high v_lowBefore v_highBefore v_least v_greatest v_things v_changing v_overLow v_overHigh v_text v_length v_at v_readKey v_readCount v_keys v_h]) (br := [W_Model k b0 o0 v_row v_number v_saved v_place v_low v_high v_lowBefore v_highBefore v_least v_greatest v_things v_changing v_overLow v_overHigh v_text v_length v_at v_readKey v_readCount v_keys v_h]) (bc := []) (bc' := []) X hP hD hS (c_Model_in l D k t x1 0 ((v_row (6 : Int32).toNatClampNeg) - 1) r1 hg_r1) ms_X8_61 hl [0] [] ⟨rfl, rfl⟩ ⟨Nat.le_of_ble_eq_true rfl, Nat.le_of_ble_eq_true rfl⟩ rfl rfl rfl rfl (Nat.le_of_ble_eq_true rfl) dX8_isFlow_11 (fun H locs hP hD hS => ?_)
  have hP : va_P D vwCl [W_Model k b0 o0 v_row v_number v_saved v_place v_low v_high v_lowBefore v_highBefore v_least v_greatest v_things v_changing v_overLow v_overHigh v_text v_length v_at v_readKey v_readCount v_keys v_h].flatten _ := hP
  have hD : va_D A [W_Model k b0 o0 v_row v_number v_saved v_place v_low v_high v_lowBefore v_highBefore v_least v_greatest v_things v_changing v_overLow v_overHigh v_text v_length v_at v_readKey v_readCount v_keys v_h].flatten := hD
  obtain ⟨hz, hf⟩ := ofif hf
  have hf := Option.some.inj hf
  subst hf
  exact kzret (v := r1) X hP hD hS (zck_n hz) dX8_isFlow_14
/-! Model_isCounter: private boolean isCounter(int); -/
abbrev rm_Model_isCounter : Room := ({ frames := 1, cells := 0, slots := 0, locals := 22 } : Room)
def f_Model_isCounter (x1 : Int32) (v_row : FI) : Option (Int32) := if ck 0 1002 = true then (f_Model_in x1 0 ((v_row (0 : Int32).toNatClampNeg) - 1)).bind (fun r1 => if r1 = 0 ∨ r1 = 1 then some r1 else none) else none
abbrev Q_Model_isCounter (below : List Frame) (D : va_G) (k : Nat → ClassId) (A : Nat → Prop) (args : Array Value) (s : State) (b0 : Nat → Nat) (o0 : Nat) (v_row : FI) (v_number : FJ) (v_saved : Int32) (v_place : FI) (v_low : FJ) (v_high : FJ) (v_lowBefore : FJ) (v_highBefore : FJ) (v_least : FJ) (v_greatest : FJ) (v_things : Int32) (v_changing : Int32) (v_overLow : FJ) (v_overHigh : FJ) (v_text : FI) (v_length : Int32) (v_at : Int32) (v_readKey : FI) (v_readCount : FJ) (v_keys : Int32) (v_h : Int64) (out : Int32) : State → Prop := MQ below (QW D k A (some (.int out)) [W_Model k b0 o0 v_row v_number v_saved v_place v_low v_high v_lowBefore v_highBefore v_least v_greatest v_things v_changing v_overLow v_overHigh v_text v_length v_at v_readKey v_readCount v_keys v_h].flatten) args s 0 0 A
set_option maxRecDepth 100000 in
set_option maxHeartbeats 1000000 in
theorem c_Model_isCounter (l : Launch) (D : va_G) (k : Nat → ClassId) (t : Nat → Nat) (b0 : Nat → Nat) (o0 : Nat) (v_row : FI) (v_number : FJ) (v_saved : Int32) (v_place : FI) (v_low : FJ) (v_high : FJ) (v_lowBefore : FJ) (v_highBefore : FJ) (v_least : FJ) (v_greatest : FJ) (v_things : Int32) (v_changing : Int32) (v_overLow : FJ) (v_overHigh : FJ) (v_text : FI) (v_length : Int32) (v_at : Int32) (v_readKey : FI) (v_readCount : FJ) (v_keys : Int32) (v_h : Int64) (x1 : Int32) (out : Int32) (hf : f_Model_isCounter x1 v_row = some out) : CT l D k t yX8_isCounter cX8_isCounter 2 (some .boolean) rm_Model_isCounter [.ref (b0 o0), .int x1] [W_Model k b0 o0 v_row v_number v_saved v_place v_low v_high v_lowBefore v_highBefore v_least v_greatest v_things v_changing v_overLow v_overHigh v_text v_length v_at v_readKey v_readCount v_keys v_h].flatten (some (.int out)) [W_Model k b0 o0 v_row v_number v_saved v_place v_low v_high v_lowBefore v_highBefore v_least v_greatest v_things v_changing v_overLow v_overHigh v_text v_length v_at v_readKey v_readCount v_keys v_h].flatten := by
  refine kofW (by decide) (Nat.le_of_ble_eq_true rfl) ?_
  intro p e s m below meth c A ls X hP hD hS hl
  have N : Nat := 0
  have hx := X.1.1
  have hb := X.1.2.1
  have hml := X.1.2.2.1
  have hown := X.1.2.2.2.1
  have hts := X.1.2.2.2.2
  have hl : lv_has ls 2 [(0, .ref (b0 o0)), (1, .int x1)] := hl
  rw [f_Model_isCounter] at hf
  refine lv_iload_n hx hb dX8_isCounter_0 rfl (lv_at hl 1 rfl) ?_
  refine lv_iconst (v := 0) hx hb dX8_isCounter_1 (by decide) ?_
  refine lv_aload_n hx hb dX8_isCounter_2 rfl (lv_at hl 0 rfl) ?_
  refine kget (v := .ref (b0 (o0+1))) X hP ff_X8_7 0 rfl rfl dX8_isCounter_3 ?_
  refine lv_iconst (v := 0) hx hb dX8_isCounter_6 (by decide) ?_
  obtain ⟨hc, hf⟩ := ofck hf
  refine kiald (f := v_row) (n := 1002) X hP 1 rfl hc dX8_isCounter_7 ?_
  refine lv_iconst (v := 1) hx hb dX8_isCounter_8 (by decide) ?_
  refine lv_isub hx hb dX8_isCounter_9 ?_
  obtain ⟨r1, hg_r1, hf⟩ := ofbind hf
  refine kcS (bs := [W_Model k b0 o0 v_row v_number v_saved v_place v_low v_high v_lowBefore v_highBefore v_least v_greatest v_things v_changing v_overLow v_overHigh v_text v_length v_at v_readKey v_readCount v_keys v_h]) (br := [W_Model k b0 o0 v_row v_number v_saved v_place v_low v_high v_lowBefore v_highBefore v_least v_greatest v_things v_changing v_overLow v_overHigh v_text v_length v_at v_readKey v_readCount v_keys v_h]) (bc := []) (bc' := []) X hP hD hS (c_Model_in l D k t x1 0 ((v_row (0 : Int32).toNatClampNeg) - 1) r1 hg_r1) ms_X8_61 hl [0] [] ⟨rfl, rfl⟩ ⟨Nat.le_of_ble_eq_true rfl, Nat.le_of_ble_eq_true rfl⟩ rfl rfl rfl rfl (Nat.le_of_ble_eq_true rfl) dX8_isCounter_10 (fun H locs hP hD hS => ?_)
  have hP : va_P D vwCl [W_Model k b0 o0 v_row v_number v_saved v_place v_low v_high v_lowBefore v_highBefore v_least v_greatest v_things v_changing v_overLow v_overHigh v_text v_length v_at v_readKey v_readCount v_keys v_h].flatten _ := hP
  have hD : va_D A [W_Model k b0 o0 v_row v_number v_saved v_place v_low v_high v_lowBefore v_highBefore v_least v_greatest v_things v_changing v_overLow v_overHigh v_text v_length v_at v_readKey v_readCount v_keys v_h].flatten := hD
  obtain ⟨hz, hf⟩ := ofif hf
  have hf := Option.some.inj hf
  subst hf
  exact kzret (v := r1) X hP hD hS (zck_n hz) dX8_isCounter_13
