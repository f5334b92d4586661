/-! Model_readAt: private int readAt(int); -/
abbrev rm_Model_readAt : Room := ({ frames := 0, cells := 0, slots := 0, locals := 0 } : Room)
def f_Model_readAt_L2 (i1 : Int32) (c3 : FI) (c4 : FJ) (c5 : Int32) (K28 : Int32 → Option (Int32 × FI × FJ × Int32)) : Nat → Int32 → Option (Int32 × FI × FJ × Int32)
  | 0, _ => none
  | n + 1, i2 => if c5 ≤ i2 then K28 i2 else if ck i2 16 = true then if (c3 i2.toNatClampNeg) = i1 then some (i2, c3, c4, c5) else f_Model_readAt_L2 i1 c3 c4 c5 K28 n (i2 + 1) else none
def f_Model_readAt (N : Nat) (x1 : Int32) (v_readKey : FI) (v_readCount : FJ) (v_keys : Int32) : Option (Int32 × FI × FJ × Int32) := f_Model_readAt_L2 x1 v_readKey v_readCount v_keys (fun i6 => if v_keys = 16 then some ((-1), v_readKey, v_readCount, v_keys) else if ck v_keys 16 = true then if ck v_keys 16 = true then some ((v_keys + 1) - 1, (upd v_readKey v_keys.toNatClampNeg x1), (vp_updL v_readCount v_keys.toNatClampNeg 0), (v_keys + 1)) else none else none) N 0
abbrev Q_Model_readAt (below : List Frame) (D : va_G) (k : Nat → ClassId) (A : Nat → Prop) (args : Array Value) (s : State) (b0 : Nat → Nat) (o0 : Nat) (v_row : FI) (v_number : FJ) (v_saved : Int32) (v_place : FI) (v_low : FJ) (v_high : FJ) (v_lowBefore : FJ) (v_highBefore : FJ) (v_least : FJ) (v_greatest : FJ) (v_things : Int32) (v_changing : Int32) (v_overLow : FJ) (v_overHigh : FJ) (v_text : FI) (v_length : Int32) (v_at : Int32) (v_readKey : FI) (v_readCount : FJ) (v_keys : Int32) (v_h : Int64) (out : Int32 × FI × FJ × Int32) : State → Prop := MQ below (QW D k A (some (.int out.1)) [W_Model k b0 o0 v_row v_number v_saved v_place v_low v_high v_lowBefore v_highBefore v_least v_greatest v_things v_changing v_overLow v_overHigh v_text v_length v_at out.2.1 out.2.2.1 out.2.2.2 v_h].flatten) args s 0 0 A
set_option maxRecDepth 100000 in
set_option maxHeartbeats 1000000 in
theorem w_Model_readAt_L2 {p : Program} {l : Launch} {e : Env} {s : State} {m : MethodId} {below : List Frame} {meth : Method} {c : Code} {args : Array Value} {A : Nat → Prop} {D : va_G} {k : Nat → ClassId} {t : Nat → Nat} (X : BX l D k t p s m args meth c cX8_readAt 3 RX8 (some .int) A) (b0 : Nat → Nat) (o0 : Nat) (v_row : FI) (v_number : FJ) (v_saved : Int32) (v_place : FI) (v_low : FJ) (v_high : FJ) (v_lowBefore : FJ) (v_highBefore : FJ) (v_least : FJ) (v_greatest : FJ) (v_things : Int32) (v_changing : Int32) (v_overLow : FJ) (v_overHigh : FJ) (v_text : FI) (v_length : Int32) (v_at : Int32) (v_readKey : FI) (v_readCount : FJ) (v_keys : Int32) (v_h : Int64) (N : Nat) (i1 : Int32) (c3 : FI) (c4 : FJ) (c5 : Int32) (out : Int32 × FI × FJ × Int32) (K28 : Int32 → Option (Int32 × FI × FJ × Int32)) (hK28 : ∀ (i2' : Int32) (H : Heap) (locs : List Loc) (ls : Array Slot), va_P D vwCl [W_Model k b0 o0 v_row v_number v_saved v_place v_low v_high v_lowBefore v_highBefore v_least v_greatest v_things v_changing v_overLow v_overHigh v_text v_length v_at c3 c4 c5 v_h].flatten H → va_D A [W_Model k b0 o0 v_row v_number v_saved v_place v_low v_high v_lowBefore v_highBefore v_least v_greatest v_things v_changing v_overLow v_overHigh v_text v_length v_at c3 c4 c5 v_h].flatten → va_S A s.heap H locs → lv_has ls 3 [(0, .ref (b0 o0)), (1, .int i1)] → K28 i2' = some out → W p l e rm_Model_readAt s m args below meth c H locs 0 0 (Q_Model_readAt below D k A args s b0 o0 v_row v_number v_saved v_place v_low v_high v_lowBefore v_highBefore v_least v_greatest v_things v_changing v_overLow v_overHigh v_text v_length v_at v_readKey v_readCount v_keys v_h out) (F0 m 28 ls [])) : ∀ (n : Nat) (i2 : Int32) (H : Heap) (locs : List Loc) (ls : Array Slot), va_P D vwCl [W_Model k b0 o0 v_row v_number v_saved v_place v_low v_high v_lowBefore v_highBefore v_least v_greatest v_things v_changing v_overLow v_overHigh v_text v_length v_at c3 c4 c5 v_h].flatten H → va_D A [W_Model k b0 o0 v_row v_number v_saved v_place v_low v_high v_lowBefore v_highBefore v_least v_greatest v_things v_changing v_overLow v_overHigh v_text v_length v_at c3 c4 c5 v_h].flatten → va_S A s.heap H locs → lv_has ls 3 [(0, .ref (b0 o0)), (1, .int i1), (2, .int i2)] → f_Model_readAt_L2 i1 c3 c4 c5 K28 n i2 = some out → W p l e rm_Model_readAt s m args below meth c H locs 0 0 (Q_Model_readAt below D k A args s b0 o0 v_row v_number v_saved v_place v_low v_high v_lowBefore v_highBefore v_least v_greatest v_things v_changing v_overLow v_overHigh v_text v_length v_at v_readKey v_readCount v_keys v_h out) (F0 m 2 ls []) := by
  have hx := X.1.1
  have hb := X.1.2.1
  have hml := X.1.2.2.1
  have hown := X.1.2.2.2.1
  have hts := X.1.2.2.2.2
  intro n
  induction n with
  | zero =>
    intro i2 H locs ls hP hD hS hl hf
    rw [f_Model_readAt_L2] at hf
    cases hf
  | succ n ih =>
    intro i2 H locs ls hP hD hS hl hf
    rw [f_Model_readAt_L2] at hf
    refine lv_iload_n hx hb dX8_readAt_2 rfl (lv_at hl 2 rfl) ?_
    refine lv_aload_n hx hb dX8_readAt_3 rfl (lv_at hl 0 rfl) ?_
    refine kget (v := .int c5) X hP ff_X8_184 0 rfl rfl dX8_readAt_4 ?_
    refine lv_icmp_ge (tgt := 28) hx hb dX8_readAt_7 (by decide) (fun hc => ?_) (fun hc => ?_)
    · have hf := ofpos hf hc
      exact hK28 i2 _ _ _ hP hD hS (lv_sub hl [0, 1] rfl) hf
    · have hf := ofneg hf hc
      refine lv_aload_n hx hb dX8_readAt_10 rfl (lv_at hl 0 rfl) ?_
      refine kget (v := .ref (b0 (o0+13))) X hP ff_X8_47 0 rfl rfl dX8_readAt_11 ?_
      refine lv_iload_n hx hb dX8_readAt_14 rfl (lv_at hl 2 rfl) ?_
      obtain ⟨hc, hf⟩ := ofck hf
      refine kiald (f := c3) (n := 16) X hP 13 rfl hc dX8_readAt_15 ?_
      refine lv_iload_n hx hb dX8_readAt_16 rfl (lv_at hl 1 rfl) ?_
      refine lv_icmp_ne (tgt := 22) hx hb dX8_readAt_17 (by decide) (fun hc => ?_) (fun hc => ?_)
      · have hf := ofneg hf hc
        refine lv_iinc (v := i2 + 1) (lv' := [(2, .int (i2 + 1)), (0, .ref (b0 o0)), (1, .int i1)]) hx hb dX8_readAt_22 hl (k := 2) rfl rfl (by decide) rfl (fun ls hl => ?_)
        refine lv_goto (tgt := 2) hx hb dX8_readAt_25 (by decide) ?_
        exact ih (i2 + 1) _ _ _ hP hD hS (lv_sub hl [1, 2, 0] rfl) hf
      · have hf := ofpos hf hc
        refine lv_iload_n hx hb dX8_readAt_20 rfl (lv_at hl 2 rfl) ?_
        have hf := Option.some.inj hf
        subst hf
        exact kiret (v := i2) X hP hD hS dX8_readAt_21
set_option maxRecDepth 100000 in
set_option maxHeartbeats 1000000 in
theorem c_Model_readAt (l : Launch) (D : va_G) (k : Nat → ClassId) (t : Nat → Nat) (b0 : Nat → Nat) (o0 : Nat) (v_row : FI) (v_number : FJ) (v_saved : Int32) (v_place : FI) (v_low : FJ) (v_high : FJ) (v_lowBefore : FJ) (v_highBefore : FJ) (v_least : FJ) (v_greatest : FJ) (v_things : Int32) (v_changing : Int32) (v_overLow : FJ) (v_overHigh : FJ) (v_text : FI) (v_length : Int32) (v_at : Int32) (v_readKey : FI) (v_readCount : FJ) (v_keys : Int32) (v_h : Int64) (x1 : Int32) (N : Nat) (out : Int32 × FI × FJ × Int32) (hf : f_Model_readAt N x1 v_readKey v_readCount v_keys = some out) : CT l D k t yX8_readAt cX8_readAt 3 (some .int) rm_Model_readAt [.ref (b0 o0), .int x1] [W_Model k b0 o0 v_row v_number v_saved v_place v_low v_high v_lowBefore v_highBefore v_least v_greatest v_things v_changing v_overLow v_overHigh v_text v_length v_at v_readKey v_readCount v_keys v_h].flatten (some (.int out.1)) [W_Model k b0 o0 v_row v_number v_saved v_place v_low v_high v_lowBefore v_highBefore v_least v_greatest v_things v_changing v_overLow v_overHigh v_text v_length v_at out.2.1 out.2.2.1 out.2.2.2 v_h].flatten := by
  refine kofW (by decide) (Nat.le_of_ble_eq_true rfl) ?_
  intro p e s m below meth c A ls X hP hD hS hl
  have hx := X.1.1
  have hb := X.1.2.1
  have hml := X.1.2.2.1
  have hown := X.1.2.2.2.1
  have hts := X.1.2.2.2.2
  have hl : lv_has ls 3 [(0, .ref (b0 o0)), (1, .int x1)] := hl
  rw [f_Model_readAt] at hf
  refine lv_iconst (v := 0) hx hb dX8_readAt_0 (by decide) ?_
  refine lv_istore_n (lv' := [(2, .int 0), (0, .ref (b0 o0)), (1, .int x1)]) hx hb dX8_readAt_1 rfl hl (by decide) rfl (fun ls hl => ?_)
  refine w_Model_readAt_L2 X b0 o0 v_row v_number v_saved v_place v_low v_high v_lowBefore v_highBefore v_least v_greatest v_things v_changing v_overLow v_overHigh v_text v_length v_at v_readKey v_readCount v_keys v_h N x1 v_readKey v_readCount v_keys out _ ?_ N 0 _ _ _ hP hD hS (lv_sub hl [1, 2, 0] rfl) hf
  · intro i6 H locs ls hP hD hS hl hf
    refine lv_aload_n hx hb dX8_readAt_28 rfl (lv_at hl 0 rfl) ?_
    refine kget (v := .int v_keys) X hP ff_X8_184 0 rfl rfl dX8_readAt_29 ?_
    refine lv_bipush (v := 16) hx hb dX8_readAt_32 (by decide) ?_
    refine lv_icmp_ne (tgt := 39) hx hb dX8_readAt_34 (by decide) (fun hc => ?_) (fun hc => ?_)
    · have hf := ofneg hf hc
      refine lv_aload_n hx hb dX8_readAt_39 rfl (lv_at hl 0 rfl) ?_
      refine kget (v := .ref (b0 (o0+13))) X hP ff_X8_47 0 rfl rfl dX8_readAt_40 ?_
      refine lv_aload_n hx hb dX8_readAt_43 rfl (lv_at hl 0 rfl) ?_
      refine kget (v := .int v_keys) X hP ff_X8_184 0 rfl rfl dX8_readAt_44 ?_
      refine lv_iload_n hx hb dX8_readAt_47 rfl (lv_at hl 1 rfl) ?_
      obtain ⟨hc, hf⟩ := ofck hf
      generalize hc7 : upd v_readKey v_keys.toNatClampNeg x1 = c7 at hf
      refine kiast2 (f := v_readKey) (n := 16) (g := c7) X hP hD hS 13 rfl hc hc7 dX8_readAt_48 (fun H locs hP hD hS => ?_)
      have hP : va_P D vwCl [W_Model k b0 o0 v_row v_number v_saved v_place v_low v_high v_lowBefore v_highBefore v_least v_greatest v_things v_changing v_overLow v_overHigh v_text v_length v_at c7 v_readCount v_keys v_h].flatten _ := hP
      have hD : va_D A [W_Model k b0 o0 v_row v_number v_saved v_place v_low v_high v_lowBefore v_highBefore v_least v_greatest v_things v_changing v_overLow v_overHigh v_text v_length v_at c7 v_readCount v_keys v_h].flatten := hD
      refine lv_aload_n hx hb dX8_readAt_49 rfl (lv_at hl 0 rfl) ?_
      refine kget (v := .ref (b0 (o0+14))) X hP ff_X8_50 0 rfl rfl dX8_readAt_50 ?_
      refine lv_aload_n hx hb dX8_readAt_53 rfl (lv_at hl 0 rfl) ?_
      refine kget (v := .int v_keys) X hP ff_X8_184 0 rfl rfl dX8_readAt_54 ?_
      refine lv_lconst (v := 0) hx hb dX8_readAt_57 (by decide) ?_
      obtain ⟨hc, hf⟩ := ofck hf
      generalize hc8 : vp_updL v_readCount v_keys.toNatClampNeg 0 = c8 at hf
      refine klast2 (f := v_readCount) (n := 16) (g := c8) X hP hD hS 14 rfl hc hc8 dX8_readAt_58 (fun H locs hP hD hS => ?_)
      have hP : va_P D vwCl [W_Model k b0 o0 v_row v_number v_saved v_place v_low v_high v_lowBefore v_highBefore v_least v_greatest v_things v_changing v_overLow v_overHigh v_text v_length v_at c7 c8 v_keys v_h].flatten _ := hP
      have hD : va_D A [W_Model k b0 o0 v_row v_number v_saved v_place v_low v_high v_lowBefore v_highBefore v_least v_greatest v_things v_changing v_overLow v_overHigh v_text v_length v_at c7 c8 v_keys v_h].flatten := hD
      refine lv_aload_n hx hb dX8_readAt_59 rfl (lv_at hl 0 rfl) ?_
      refine lv_dup hx hb dX8_readAt_60 rfl ?_
      refine kget (v := .int v_keys) X hP ff_X8_184 0 rfl rfl dX8_readAt_61 ?_
      refine lv_iconst (v := 1) hx hb dX8_readAt_64 (by decide) ?_
      refine lv_iadd hx hb dX8_readAt_65 ?_
      generalize hy9 : v_keys + 1 = y9 at hf ⊢
      refine kputi (v := y9) X hP hD hS fp_X8_184 0 rfl (Nat.le_of_ble_eq_true rfl) dX8_readAt_66 (fun H locs hP hD hS => ?_)
      have hP : va_P D vwCl [W_Model k b0 o0 v_row v_number v_saved v_place v_low v_high v_lowBefore v_highBefore v_least v_greatest v_things v_changing v_overLow v_overHigh v_text v_length v_at c7 c8 y9 v_h].flatten _ := hP
      have hD : va_D A [W_Model k b0 o0 v_row v_number v_saved v_place v_low v_high v_lowBefore v_highBefore v_least v_greatest v_things v_changing v_overLow v_overHigh v_text v_length v_at c7 c8 y9 v_h].flatten := hD
      refine lv_aload_n hx hb dX8_readAt_69 rfl (lv_at hl 0 rfl) ?_
      refine kget (v := .int y9) X hP ff_X8_184 0 rfl rfl dX8_readAt_70 ?_
      refine lv_iconst (v := 1) hx hb dX8_readAt_73 (by decide) ?_
      refine lv_isub hx hb dX8_readAt_74 ?_
      have hf := Option.some.inj hf
      subst hf
      exact kiret (v := y9 - 1) X hP hD hS dX8_readAt_75
    · have hf := ofpos hf hc
      refine lv_iconst (v := (-1)) hx hb dX8_readAt_37 (by decide) ?_
      have hf := Option.some.inj hf
      subst hf
      exact kiret (v := (-1)) X hP hD hS dX8_readAt_38
