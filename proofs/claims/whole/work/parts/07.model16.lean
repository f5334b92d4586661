/-! Model_textFault: public int textFault(); -/
abbrev rm_Model_textFault : Room := ({ frames := 5, cells := 0, slots := 0, locals := 130 } : Room)
def f_Model_textFault (N : Nat) (v_row : FI) (v_number : FJ) (v_text : FI) (v_length : Int32) (v_at : Int32) (v_readKey : FI) (v_readCount : FJ) (v_keys : Int32) : Option (Int32 × FI × FJ × Int32 × FI × FJ × Int32) := (f_Model_readsAll N 0 v_row v_number v_text v_length v_at v_readKey v_readCount v_keys).bind (fun r1 => if r1.1 = 0 then some (r1.2.2.2.1, r1.2.1, r1.2.2.1, r1.2.2.2.1, r1.2.2.2.2.1, r1.2.2.2.2.2.1, r1.2.2.2.2.2.2) else some ((-1), r1.2.1, r1.2.2.1, r1.2.2.2.1, r1.2.2.2.2.1, r1.2.2.2.2.2.1, r1.2.2.2.2.2.2))
abbrev Q_Model_textFault (below : List Frame) (D : va_G) (k : Nat → ClassId) (A : Nat → Prop) (args : Array Value) (s : State) (b0 : Nat → Nat) (o0 : Nat) (v_row : FI) (v_number : FJ) (v_saved : Int32) (v_place : FI) (v_low : FJ) (v_high : FJ) (v_lowBefore : FJ) (v_highBefore : FJ) (v_least : FJ) (v_greatest : FJ) (v_things : Int32) (v_changing : Int32) (v_overLow : FJ) (v_overHigh : FJ) (v_text : FI) (v_length : Int32) (v_at : Int32) (v_readKey : FI) (v_readCount : FJ) (v_keys : Int32) (v_h : Int64) (out : Int32 × FI × FJ × Int32 × FI × FJ × Int32) : State → Prop := MQ below (QW D k A (some (.int out.1)) [W_Model k b0 o0 out.2.1 out.2.2.1 v_saved v_place v_low v_high v_lowBefore v_highBefore v_least v_greatest v_things v_changing v_overLow v_overHigh v_text v_length out.2.2.2.1 out.2.2.2.2.1 out.2.2.2.2.2.1 out.2.2.2.2.2.2 v_h].flatten) args s 0 0 A
set_option maxRecDepth 100000 in
set_option maxHeartbeats 1000000 in
theorem c_Model_textFault (l : Launch) (D : va_G) (k : Nat → ClassId) (t : Nat → Nat) (b0 : Nat → Nat) (o0 : Nat) (v_row : FI) (v_number : FJ) (v_saved : Int32) (v_place : FI) (v_low : FJ) (v_high : FJ) (v_lowBefore : FJ) (v_highBefore : FJ) (v_least : FJ) (v_greatest : FJ) (v_things : Int32) (v_changing : Int32) (v_overLow : FJ) (v_overHigh : FJ) (v_text : FI) (v_length : Int32) (v_at : Int32) (v_readKey : FI) (v_readCount : FJ) (v_keys : Int32) (v_h : Int64) (N : Nat) (out : Int32 × FI × FJ × Int32 × FI × FJ × Int32) (hf : f_Model_textFault N v_row v_number v_text v_length v_at v_readKey v_readCount v_keys = some out) : CT l D k t yX8_textFault cX8_textFault 1 (some .int) rm_Model_textFault [.ref (b0 o0)] [W_Model k b0 o0 v_row v_number v_saved v_place v_low v_high v_lowBefore v_highBefore v_least v_greatest v_things v_changing v_overLow v_overHigh v_text v_length v_at v_readKey v_readCount v_keys v_h].flatten (some (.int out.1)) [W_Model k b0 o0 out.2.1 out.2.2.1 v_saved v_place v_low v_high v_lowBefore v_highBefore v_least v_greatest v_things v_changing v_overLow v_overHigh v_text v_length out.2.2.2.1 out.2.2.2.2.1 out.2.2.2.2.2.1 out.2.2.2.2.2.2 v_h].flatten := by
  refine kofW (by decide) (Nat.le_of_ble_eq_true rfl) ?_
  intro p e s m below meth c A ls X hP hD hS hl
  have hx := X.1.1
  have hb := X.1.2.1
  have hml := X.1.2.2.1
  have hown := X.1.2.2.2.1
  have hts := X.1.2.2.2.2
  have hl : lv_has ls 1 [(0, .ref (b0 o0))] := hl
  rw [f_Model_textFault] at hf
  refine lv_aload_n hx hb dX8_textFault_0 rfl (lv_at hl 0 rfl) ?_
  refine lv_iconst (v := 0) hx hb dX8_textFault_1 (by decide) ?_
  obtain ⟨r1, hg_r1, hf⟩ := ofbind hf
  refine kcV (bs := [W_Model k b0 o0 v_row v_number v_saved v_place v_low v_high v_lowBefore v_highBefore v_least v_greatest v_things v_changing v_overLow v_overHigh v_text v_length v_at v_readKey v_readCount v_keys v_h]) (br := []) (bc := [W_Model k b0 o0 v_row v_number v_saved v_place v_low v_high v_lowBefore v_highBefore v_least v_greatest v_things v_changing v_overLow v_overHigh v_text v_length v_at v_readKey v_readCount v_keys v_h]) (bc' := [W_Model k b0 o0 r1.2.1 r1.2.2.1 v_saved v_place v_low v_high v_lowBefore v_highBefore v_least v_greatest v_things v_changing v_overLow v_overHigh v_text v_length r1.2.2.2.1 r1.2.2.2.2.1 r1.2.2.2.2.2.1 r1.2.2.2.2.2.2 v_h]) X hP hD hS (c_Model_readsAll l D k t b0 o0 v_row v_number v_saved v_place v_low v_high v_lowBefore v_highBefore v_least v_greatest v_things v_changing v_overLow v_overHigh v_text v_length v_at v_readKey v_readCount v_keys v_h 0 N r1 hg_r1) mv_X8_200 hl [] [0] 8 ⟨rfl, rfl⟩ ⟨Nat.le_of_ble_eq_true rfl, Nat.le_of_ble_eq_true rfl⟩ rfl rfl rfl rfl rfl rfl rfl (Nat.le_of_ble_eq_true rfl) dX8_textFault_2 (fun H locs hP hD hS => ?_)
  have hP : va_P D vwCl [W_Model k b0 o0 r1.2.1 r1.2.2.1 v_saved v_place v_low v_high v_lowBefore v_highBefore v_least v_greatest v_things v_changing v_overLow v_overHigh v_text v_length r1.2.2.2.1 r1.2.2.2.2.1 r1.2.2.2.2.2.1 r1.2.2.2.2.2.2 v_h].flatten _ := hP
  have hD : va_D A [W_Model k b0 o0 r1.2.1 r1.2.2.1 v_saved v_place v_low v_high v_lowBefore v_highBefore v_least v_greatest v_things v_changing v_overLow v_overHigh v_text v_length r1.2.2.2.1 r1.2.2.2.2.1 r1.2.2.2.2.2.1 r1.2.2.2.2.2.2 v_h].flatten := hD
  refine lv_if_eq (tgt := 12) hx hb dX8_textFault_5 (by decide) (fun hc => ?_) (fun hc => ?_)
  · have hf := ofpos hf hc
    refine lv_aload_n hx hb dX8_textFault_12 rfl (lv_at hl 0 rfl) ?_
    refine kget (v := .int r1.2.2.2.1) X hP ff_X8_178 0 rfl rfl dX8_textFault_13 ?_
    have hf := Option.some.inj hf
    subst hf
    exact kiret (v := r1.2.2.2.1) X hP hD hS dX8_textFault_16
  · have hf := ofneg hf hc
    refine lv_iconst (v := (-1)) hx hb dX8_textFault_8 (by decide) ?_
    refine lv_goto (tgt := 16) hx hb dX8_textFault_9 (by decide) ?_
    have hf := Option.some.inj hf
    subst hf
    exact kiret (v := (-1)) X hP hD hS dX8_textFault_16
/-! Model_load: public int load(); -/
abbrev rm_Model_load : Room := ({ frames := 5, cells := 0, slots := 0, locals := 130 } : Room)
def f_Model_load_L13 (c3 : FI) (c4 : FJ) (c5 : Int32) (c6 : Int32) (c7 : FI) (c8 : FJ) (c9 : Int32) (K43 : Int32 → Option (Int32 × FI × FJ × Int32 × Int32 × FI × FJ × Int32)) : Nat → Int32 → Option (Int32 × FI × FJ × Int32 × Int32 × FI × FJ × Int32)
  | 0, _ => none
  | n + 1, i2 => if c9 ≤ i2 then K43 i2 else if ck i2 16 = true then if (c8 i2.toNatClampNeg) ≤ 1000000000 then f_Model_load_L13 c3 c4 c5 c6 c7 c8 c9 K43 n (i2 + 1) else some ((-5), c3, c4, c5, c6, c7, c8, c9) else none
def f_Model_load (N : Nat) (v_row : FI) (v_number : FJ) (v_saved : Int32) (v_text : FI) (v_length : Int32) (v_at : Int32) (v_readKey : FI) (v_readCount : FJ) (v_keys : Int32) : Option (Int32 × FI × FJ × Int32 × Int32 × FI × FJ × Int32) := (f_Model_readsAll N 0 v_row v_number v_text v_length v_at v_readKey v_readCount v_keys).bind (fun r1 => if r1.1 = 0 then some ((-4), r1.2.1, r1.2.2.1, v_saved, r1.2.2.2.1, r1.2.2.2.2.1, r1.2.2.2.2.2.1, r1.2.2.2.2.2.2) else f_Model_load_L13 r1.2.1 r1.2.2.1 v_saved r1.2.2.2.1 r1.2.2.2.2.1 r1.2.2.2.2.2.1 r1.2.2.2.2.2.2 (fun i10 => (f_Model_saves N r1.2.1 r1.2.2.1 v_saved).bind (fun r11 => (f_Model_readsAll N 1 r11.1 r11.2.1 v_text v_length r1.2.2.2.1 r1.2.2.2.2.1 r1.2.2.2.2.2.1 r1.2.2.2.2.2.2).bind (fun r12 => if ck 6 1002 = true then some (r12.2.1 (6 : Int32).toNatClampNeg, r12.2.1, r12.2.2.1, r11.2.2, r12.2.2.2.1, r12.2.2.2.2.1, r12.2.2.2.2.2.1, r12.2.2.2.2.2.2) else none))) N 0)
abbrev Q_Model_load (below : List Frame) (D : va_G) (k : Nat → ClassId) (A : Nat → Prop) (args : Array Value) (s : State) (b0 : Nat → Nat) (o0 : Nat) (v_row : FI) (v_number : FJ) (v_saved : Int32) (v_place : FI) (v_low : FJ) (v_high : FJ) (v_lowBefore : FJ) (v_highBefore : FJ) (v_least : FJ) (v_greatest : FJ) (v_things : Int32) (v_changing : Int32) (v_overLow : FJ) (v_overHigh : FJ) (v_text : FI) (v_length : Int32) (v_at : Int32) (v_readKey : FI) (v_readCount : FJ) (v_keys : Int32) (v_h : Int64) (out : Int32 × FI × FJ × Int32 × Int32 × FI × FJ × Int32) : State → Prop := MQ below (QW D k A (some (.int out.1)) [W_Model k b0 o0 out.2.1 out.2.2.1 out.2.2.2.1 v_place v_low v_high v_lowBefore v_highBefore v_least v_greatest v_things v_changing v_overLow v_overHigh v_text v_length out.2.2.2.2.1 out.2.2.2.2.2.1 out.2.2.2.2.2.2.1 out.2.2.2.2.2.2.2 v_h].flatten) args s 0 0 A
set_option maxRecDepth 100000 in
set_option maxHeartbeats 1000000 in
theorem w_Model_load_L13 {p : Program} {l : Launch} {e : Env} {s : State} {m : MethodId} {below : List Frame} {meth : Method} {c : Code} {args : Array Value} {A : Nat → Prop} {D : va_G} {k : Nat → ClassId} {t : Nat → Nat} (X : BX l D k t p s m args meth c cX8_load 2 RX8 (some .int) A) (b0 : Nat → Nat) (o0 : Nat) (v_row : FI) (v_number : FJ) (v_saved : Int32) (v_place : FI) (v_low : FJ) (v_high : FJ) (v_lowBefore : FJ) (v_highBefore : FJ) (v_least : FJ) (v_greatest : FJ) (v_things : Int32) (v_changing : Int32) (v_overLow : FJ) (v_overHigh : FJ) (v_text : FI) (v_length : Int32) (v_at : Int32) (v_readKey : FI) (v_readCount : FJ) (v_keys : Int32) (v_h : Int64) (N : Nat) (c3 : FI) (c4 : FJ) (c5 : Int32) (c6 : Int32) (c7 : FI) (c8 : FJ) (c9 : Int32) (out : Int32 × FI × FJ × Int32 × Int32 × FI × FJ × Int32) (K43 : Int32 → Option (Int32 × FI × FJ × Int32 × Int32 × FI × FJ × Int32)) (hK43 : ∀ (i2' : Int32) (H : Heap) (locs : List Loc) (ls : Array Slot), va_P D vwCl [W_Model k b0 o0 c3 c4 c5 v_place v_low v_high v_lowBefore v_highBefore v_least v_greatest v_things v_changing v_overLow v_overHigh v_text v_length c6 c7 c8 c9 v_h].flatten H → va_D A [W_Model k b0 o0 c3 c4 c5 v_place v_low v_high v_lowBefore v_highBefore v_least v_greatest v_things v_changing v_overLow v_overHigh v_text v_length c6 c7 c8 c9 v_h].flatten → va_S A s.heap H locs → lv_has ls 2 [(0, .ref (b0 o0))] → K43 i2' = some out → W p l e rm_Model_load s m args below meth c H locs 0 0 (Q_Model_load below D k A args s b0 o0 v_row v_number v_saved v_place v_low v_high v_lowBefore v_highBefore v_least v_greatest v_things v_changing v_overLow v_overHigh v_text v_length v_at v_readKey v_readCount v_keys v_h out) (F0 m 43 ls [])) : ∀ (n : Nat) (i2 : Int32) (H : Heap) (locs : List Loc) (ls : Array Slot), va_P D vwCl [W_Model k b0 o0 c3 c4 c5 v_place v_low v_high v_lowBefore v_highBefore v_least v_greatest v_things v_changing v_overLow v_overHigh v_text v_length c6 c7 c8 c9 v_h].flatten H → va_D A [W_Model k b0 o0 c3 c4 c5 v_place v_low v_high v_lowBefore v_highBefore v_least v_greatest v_things v_changing v_overLow v_overHigh v_text v_length c6 c7 c8 c9 v_h].flatten → va_S A s.heap H locs → lv_has ls 2 [(0, .ref (b0 o0)), (1, .int i2)] → f_Model_load_L13 c3 c4 c5 c6 c7 c8 c9 K43 n i2 = some out → W p l e rm_Model_load s m args below meth c H locs 0 0 (Q_Model_load below D k A args s b0 o0 v_row v_number v_saved v_place v_low v_high v_lowBefore v_highBefore v_least v_greatest v_things v_changing v_overLow v_overHigh v_text v_length v_at v_readKey v_readCount v_keys v_h out) (F0 m 13 ls []) := by
  have hx := X.1.1
  have hb := X.1.2.1
  have hml := X.1.2.2.1
  have hown := X.1.2.2.2.1
  have hts := X.1.2.2.2.2
  intro n
  induction n with
  | zero =>
    intro i2 H locs ls hP hD hS hl hf
    rw [f_Model_load_L13] at hf
    cases hf
  | succ n ih =>
    intro i2 H locs ls hP hD hS hl hf
    rw [f_Model_load_L13] at hf
    refine lv_iload_n hx hb dX8_load_13 rfl (lv_at hl 1 rfl) ?_
    refine lv_aload_n hx hb dX8_load_14 rfl (lv_at hl 0 rfl) ?_
    refine kget (v := .int c9) X hP ff_X8_184 0 rfl rfl dX8_load_15 ?_
    refine lv_icmp_ge (tgt := 43) hx hb dX8_load_18 (by decide) (fun hc => ?_) (fun hc => ?_)
    · have hf := ofpos hf hc
      exact hK43 i2 _ _ _ hP hD hS (lv_sub hl [0] rfl) hf
    · have hf := ofneg hf hc
      refine lv_aload_n hx hb dX8_load_21 rfl (lv_at hl 0 rfl) ?_
      refine kget (v := .ref (b0 (o0+14))) X hP ff_X8_50 0 rfl rfl dX8_load_22 ?_
      refine lv_iload_n hx hb dX8_load_25 rfl (lv_at hl 1 rfl) ?_
      obtain ⟨hc, hf⟩ := ofck hf
      refine klald (f := c8) (n := 16) X hP 14 rfl hc dX8_load_26 ?_
      refine lv_ldc2 (v := 1000000000) hx hb hown (hts _ kc_X8_112) dX8_load_27 ?_
      refine W.lcmp hx hb dX8_load_30 ?_
      refine lv_if_le (tgt := 37) hx hb dX8_load_31 (by decide) (fun hc => ?_) (fun hc => ?_)
      · have hc := lgm.mp hc
        have hf := ofpos hf hc
        refine lv_iinc (v := i2 + 1) (lv' := [(1, .int (i2 + 1)), (0, .ref (b0 o0))]) hx hb dX8_load_37 hl (k := 1) rfl rfl (by decide) rfl (fun ls hl => ?_)
        refine lv_goto (tgt := 13) hx hb dX8_load_40 (by decide) ?_
        exact ih (i2 + 1) _ _ _ hP hD hS (lv_sub hl [1, 0] rfl) hf
      · have hc := fun z => hc (lgm.mpr z)
        have hf := ofneg hf hc
        refine lv_bipush (v := (-5)) hx hb dX8_load_34 (by decide) ?_
        have hf := Option.some.inj hf
        subst hf
        exact kiret (v := (-5)) X hP hD hS dX8_load_36
set_option maxRecDepth 100000 in
set_option maxHeartbeats 1000000 in
theorem c_Model_load (l : Launch) (D : va_G) (k : Nat → ClassId) (t : Nat → Nat) (b0 : Nat → Nat) (o0 : Nat) (v_row : FI) (v_number : FJ) (v_saved : Int32) (v_place : FI) (v_low : FJ) (v_high : FJ) (v_lowBefore : FJ) (v_highBefore : FJ) (v_least : FJ) (v_greatest : FJ) (v_things : Int32) (v_changing : Int32) (v_overLow : FJ) (v_overHigh : FJ) (v_text : FI) (v_length : Int32) (v_at : Int32) (v_readKey : FI) (v_readCount : FJ) (v_keys : Int32) (v_h : Int64) (N : Nat) (out : Int32 × FI × FJ × Int32 × Int32 × FI × FJ × Int32) (hf : f_Model_load N v_row v_number v_saved v_text v_length v_at v_readKey v_readCount v_keys = some out) : CT l D k t yX8_load cX8_load 2 (some .int) rm_Model_load [.ref (b0 o0)] [W_Model k b0 o0 v_row v_number v_saved v_place v_low v_high v_lowBefore v_highBefore v_least v_greatest v_things v_changing v_overLow v_overHigh v_text v_length v_at v_readKey v_readCount v_keys v_h].flatten (some (.int out.1)) [W_Model k b0 o0 out.2.1 out.2.2.1 out.2.2.2.1 v_place v_low v_high v_lowBefore v_highBefore v_least v_greatest v_things v_changing v_overLow v_overHigh v_text v_length out.2.2.2.2.1 out.2.2.2.2.2.1 out.2.2.2.2.2.2.1 out.2.2.2.2.2.2.2 v_h].flatten := by
  refine kofW (by decide) (Nat.le_of_ble_eq_true rfl) ?_
  intro p e s m below meth c A ls X hP hD hS hl
  have hx := X.1.1
  have hb := X.1.2.1
  have hml := X.1.2.2.1
  have hown := X.1.2.2.2.1
  have hts := X.1.2.2.2.2
  have hl : lv_has ls 2 [(0, .ref (b0 o0))] := hl
  rw [f_Model_load] at hf
  refine lv_aload_n hx hb dX8_load_0 rfl (lv_at hl 0 rfl) ?_
  refine lv_iconst (v := 0) hx hb dX8_load_1 (by decide) ?_
  obtain ⟨r1, hg_r1, hf⟩ := ofbind hf
  refine kcV (bs := [W_Model k b0 o0 v_row v_number v_saved v_place v_low v_high v_lowBefore v_highBefore v_least v_greatest v_things v_changing v_overLow v_overHigh v_text v_length v_at v_readKey v_readCount v_keys v_h]) (br := []) (bc := [W_Model k b0 o0 v_row v_number v_saved v_place v_low v_high v_lowBefore v_highBefore v_least v_greatest v_things v_changing v_overLow v_overHigh v_text v_length v_at v_readKey v_readCount v_keys v_h]) (bc' := [W_Model k b0 o0 r1.2.1 r1.2.2.1 v_saved v_place v_low v_high v_lowBefore v_highBefore v_least v_greatest v_things v_changing v_overLow v_overHigh v_text v_length r1.2.2.2.1 r1.2.2.2.2.1 r1.2.2.2.2.2.1 r1.2.2.2.2.2.2 v_h]) X hP hD hS (c_Model_readsAll l D k t b0 o0 v_row v_number v_saved v_place v_low v_high v_lowBefore v_highBefore v_least v_greatest v_things v_changing v_overLow v_overHigh v_text v_length v_at v_readKey v_readCount v_keys v_h 0 N r1 hg_r1) mv_X8_200 hl [] [0] 8 ⟨rfl, rfl⟩ ⟨Nat.le_of_ble_eq_true rfl, Nat.le_of_ble_eq_true rfl⟩ rfl rfl rfl rfl rfl rfl rfl (Nat.le_of_ble_eq_true rfl) dX8_load_2 (fun H locs hP hD hS => ?_)
  have hP : va_P D vwCl [W_Model k b0 o0 r1.2.1 r1.2.2.1 v_saved v_place v_low v_high v_lowBefore v_highBefore v_least v_greatest v_things v_changing v_overLow v_overHigh v_text v_length r1.2.2.2.1 r1.2.2.2.2.1 r1.2.2.2.2.2.1 r1.2.2.2.2.2.2 v_h].flatten _ := hP
  have hD : va_D A [W_Model k b0 o0 r1.2.1 r1.2.2.1 v_saved v_place v_low v_high v_lowBefore v_highBefore v_least v_greatest v_things v_changing v_overLow v_overHigh v_text v_length r1.2.2.2.1 r1.2.2.2.2.1 r1.2.2.2.2.2.1 r1.2.2.2.2.2.2 v_h].flatten := hD
  refine lv_if_ne (tgt := 11) hx hb dX8_load_5 (by decide) (fun hc => ?_) (fun hc => ?_)
  · have hf := ofneg hf hc
    refine lv_iconst (v := 0) hx hb dX8_load_11 (by decide) ?_
    refine lv_istore_n (lv' := [(1, .int 0), (0, .ref (b0 o0))]) hx hb dX8_load_12 rfl hl (by decide) rfl (fun ls hl => ?_)
    refine w_Model_load_L13 X b0 o0 v_row v_number v_saved v_place v_low v_high v_lowBefore v_highBefore v_least v_greatest v_things v_changing v_overLow v_overHigh v_text v_length v_at v_readKey v_readCount v_keys v_h N r1.2.1 r1.2.2.1 v_saved r1.2.2.2.1 r1.2.2.2.2.1 r1.2.2.2.2.2.1 r1.2.2.2.2.2.2 out _ ?_ N 0 _ _ _ hP hD hS (lv_sub hl [1, 0] rfl) hf
    · intro i10 H locs ls hP hD hS hl hf
      refine lv_aload_n hx hb dX8_load_43 rfl (lv_at hl 0 rfl) ?_
      obtain ⟨r11, hg_r11, hf⟩ := ofbind hf
      refine kcV (bs := [W_Model k b0 o0 r1.2.1 r1.2.2.1 v_saved v_place v_low v_high v_lowBefore v_highBefore v_least v_greatest v_things v_changing v_overLow v_overHigh v_text v_length r1.2.2.2.1 r1.2.2.2.2.1 r1.2.2.2.2.2.1 r1.2.2.2.2.2.2 v_h]) (br := []) (bc := [W_Model k b0 o0 r1.2.1 r1.2.2.1 v_saved v_place v_low v_high v_lowBefore v_highBefore v_least v_greatest v_things v_changing v_overLow v_overHigh v_text v_length r1.2.2.2.1 r1.2.2.2.2.1 r1.2.2.2.2.2.1 r1.2.2.2.2.2.2 v_h]) (bc' := [W_Model k b0 o0 r11.1 r11.2.1 r11.2.2 v_place v_low v_high v_lowBefore v_highBefore v_least v_greatest v_things v_changing v_overLow v_overHigh v_text v_length r1.2.2.2.1 r1.2.2.2.2.1 r1.2.2.2.2.2.1 r1.2.2.2.2.2.2 v_h]) X hP hD hS (c_Model_saves l D k t b0 o0 r1.2.1 r1.2.2.1 v_saved v_place v_low v_high v_lowBefore v_highBefore v_least v_greatest v_things v_changing v_overLow v_overHigh v_text v_length r1.2.2.2.1 r1.2.2.2.2.1 r1.2.2.2.2.2.1 r1.2.2.2.2.2.2 v_h N r11 hg_r11) mv_X8_65 hl [] [0] 8 ⟨rfl, rfl⟩ ⟨Nat.le_of_ble_eq_true rfl, Nat.le_of_ble_eq_true rfl⟩ rfl rfl rfl rfl rfl rfl rfl (Nat.le_of_ble_eq_true rfl) dX8_load_44 (fun H locs hP hD hS => ?_)
      have hP : va_P D vwCl [W_Model k b0 o0 r11.1 r11.2.1 r11.2.2 v_place v_low v_high v_lowBefore v_highBefore v_least v_greatest v_things v_changing v_overLow v_overHigh v_text v_length r1.2.2.2.1 r1.2.2.2.2.1 r1.2.2.2.2.2.1 r1.2.2.2.2.2.2 v_h].flatten _ := hP
      have hD : va_D A [W_Model k b0 o0 r11.1 r11.2.1 r11.2.2 v_place v_low v_high v_lowBefore v_highBefore v_least v_greatest v_things v_changing v_overLow v_overHigh v_text v_length r1.2.2.2.1 r1.2.2.2.2.1 r1.2.2.2.2.2.1 r1.2.2.2.2.2.2 v_h].flatten := hD
      refine lv_aload_n hx hb dX8_load_47 rfl (lv_at hl 0 rfl) ?_
      refine lv_iconst (v := 1) hx hb dX8_load_48 (by decide) ?_
      obtain ⟨r12, hg_r12, hf⟩ := ofbind hf
      refine kcV (bs := [W_Model k b0 o0 r11.1 r11.2.1 r11.2.2 v_place v_low v_high v_lowBefore v_highBefore v_least v_greatest v_things v_changing v_overLow v_overHigh v_text v_length r1.2.2.2.1 r1.2.2.2.2.1 r1.2.2.2.2.2.1 r1.2.2.2.2.2.2 v_h]) (br := []) (bc := [W_Model k b0 o0 r11.1 r11.2.1 r11.2.2 v_place v_low v_high v_lowBefore v_highBefore v_least v_greatest v_things v_changing v_overLow v_overHigh v_text v_length r1.2.2.2.1 r1.2.2.2.2.1 r1.2.2.2.2.2.1 r1.2.2.2.2.2.2 v_h]) (bc' := [W_Model k b0 o0 r12.2.1 r12.2.2.1 r11.2.2 v_place v_low v_high v_lowBefore v_highBefore v_least v_greatest v_things v_changing v_overLow v_overHigh v_text v_length r12.2.2.2.1 r12.2.2.2.2.1 r12.2.2.2.2.2.1 r12.2.2.2.2.2.2 v_h]) X hP hD hS (c_Model_readsAll l D k t b0 o0 r11.1 r11.2.1 r11.2.2 v_place v_low v_high v_lowBefore v_highBefore v_least v_greatest v_things v_changing v_overLow v_overHigh v_text v_length r1.2.2.2.1 r1.2.2.2.2.1 r1.2.2.2.2.2.1 r1.2.2.2.2.2.2 v_h 1 N r12 hg_r12) mv_X8_200 hl [] [0] 8 ⟨rfl, rfl⟩ ⟨Nat.le_of_ble_eq_true rfl, Nat.le_of_ble_eq_true rfl⟩ rfl rfl rfl rfl rfl rfl rfl (Nat.le_of_ble_eq_true rfl) dX8_load_49 (fun H locs hP hD hS => ?_)
      have hP : va_P D vwCl [W_Model k b0 o0 r12.2.1 r12.2.2.1 r11.2.2 v_place v_low v_high v_lowBefore v_highBefore v_least v_greatest v_things v_changing v_overLow v_overHigh v_text v_length r12.2.2.2.1 r12.2.2.2.2.1 r12.2.2.2.2.2.1 r12.2.2.2.2.2.2 v_h].flatten _ := hP
      have hD : va_D A [W_Model k b0 o0 r12.2.1 r12.2.2.1 r11.2.2 v_place v_low v_high v_lowBefore v_highBefore v_least v_greatest v_things v_changing v_overLow v_overHigh v_text v_length r12.2.2.2.1 r12.2.2.2.2.1 r12.2.2.2.2.2.1 r12.2.2.2.2.2.2 v_h].flatten := hD
      refine lv_istore_n (lv' := [(1, .int r12.1), (0, .ref (b0 o0))]) hx hb dX8_load_52 rfl hl (by decide) rfl (fun ls hl => ?_)
      refine lv_aload_n hx hb dX8_load_53 rfl (lv_at hl 1 rfl) ?_
      refine kget (v := .ref (b0 (o0+1))) X hP ff_X8_7 0 rfl rfl dX8_load_54 ?_
      refine lv_bipush (v := 6) hx hb dX8_load_57 (by decide) ?_
      obtain ⟨hc, hf⟩ := ofck hf
      refine kiald (f := r12.2.1) (n := 1002) X hP 1 rfl hc dX8_load_59 ?_
      have hf := Option.some.inj hf
      subst hf
      exact kiret (v := r12.2.1 (6 : Int32).toNatClampNeg) X hP hD hS dX8_load_60
  · have hf := ofpos hf hc
    refine lv_bipush (v := (-4)) hx hb dX8_load_8 (by decide) ?_
    have hf := Option.some.inj hf
    subst hf
    exact kiret (v := (-4)) X hP hD hS dX8_load_10
/-! Model_note: private void note(long); -/
abbrev rm_Model_note : Room := ({ frames := 0, cells := 0, slots := 0, locals := 0 } : Room)
def f_Model_note (x1 : Int64) (v_h : Int64) : Option (Int64) := some ((31 * v_h) + x1)
abbrev Q_Model_note (below : List Frame) (D : va_G) (k : Nat → ClassId) (A : Nat → Prop) (args : Array Value) (s : State) (b0 : Nat → Nat) (o0 : Nat) (v_row : FI) (v_number : FJ) (v_saved : Int32) (v_place : FI) (v_low : FJ) (v_high : FJ) (v_lowBefore : FJ) (v_highBefore : FJ) (v_least : FJ) (v_greatest : FJ) (v_things : Int32) (v_changing : Int32) (v_overLow : FJ) (v_overHigh : FJ) (v_text : FI) (v_length : Int32) (v_at : Int32) (v_readKey : FI) (v_readCount : FJ) (v_keys : Int32) (v_h : Int64) (out : Int64) : State → Prop := MQ below (QW D k A none [W_Model k b0 o0 v_row v_number v_saved v_place v_low v_high v_lowBefore v_highBefore v_least v_greatest v_things v_changing v_overLow v_overHigh v_text v_length v_at v_readKey v_readCount v_keys out].flatten) args s 0 0 A
set_option maxRecDepth 100000 in
set_option maxHeartbeats 1000000 in
theorem c_Model_note (l : Launch) (D : va_G) (k : Nat → ClassId) (t : Nat → Nat) (b0 : Nat → Nat) (o0 : Nat) (v_row : FI) (v_number : FJ) (v_saved : Int32) (v_place : FI) (v_low : FJ) (v_high : FJ) (v_lowBefore : FJ) (v_highBefore : FJ) (v_least : FJ) (v_greatest : FJ) (v_things : Int32) (v_changing : Int32) (v_overLow : FJ) (v_overHigh : FJ) (v_text : FI) (v_length : Int32) (v_at : Int32) (v_readKey : FI) (v_readCount : FJ) (v_keys : Int32) (v_h : Int64) (x1 : Int64) (out : Int64) (hf : f_Model_note x1 v_h = some out) : CT l D k t yX8_note cX8_note 3 none rm_Model_note [.ref (b0 o0), .long x1] [W_Model k b0 o0 v_row v_number v_saved v_place v_low v_high v_lowBefore v_highBefore v_least v_greatest v_things v_changing v_overLow v_overHigh v_text v_length v_at v_readKey v_readCount v_keys v_h].flatten none [W_Model k b0 o0 v_row v_number v_saved v_place v_low v_high v_lowBefore v_highBefore v_least v_greatest v_things v_changing v_overLow v_overHigh v_text v_length v_at v_readKey v_readCount v_keys out].flatten := by
  refine kofW (by decide) (Nat.le_of_ble_eq_true rfl) ?_
  intro p e s m below meth c A ls X hP hD hS hl
  have N : Nat := 0
  have hx := X.1.1
  have hb := X.1.2.1
  have hml := X.1.2.2.1
  have hown := X.1.2.2.2.1
  have hts := X.1.2.2.2.2
  have hl : lv_has ls 3 [(0, .ref (b0 o0)), (1, .long x1)] := hl
  rw [f_Model_note] at hf
  refine lv_aload_n hx hb dX8_note_0 rfl (lv_at hl 0 rfl) ?_
  refine lv_ldc2 (v := 31) hx hb hown (hts _ kc_X8_203) dX8_note_1 ?_
  refine lv_aload_n hx hb dX8_note_4 rfl (lv_at hl 0 rfl) ?_
  refine kget (v := .long v_h) X hP ff_X8_205 0 rfl rfl dX8_note_5 ?_
  refine lv_lmul hx hb dX8_note_8 ?_
  refine lv_lload_n hx hb dX8_note_9 rfl (lv_at hl 1 rfl) ?_
  refine lv_ladd hx hb dX8_note_10 ?_
  generalize hy1 : (31 * v_h) + x1 = y1 at hf ⊢
  refine kputl (v := y1) X hP hD hS fp_X8_205 0 rfl (Nat.le_of_ble_eq_true rfl) dX8_note_11 (fun H locs hP hD hS => ?_)
  have hP : va_P D vwCl [W_Model k b0 o0 v_row v_number v_saved v_place v_low v_high v_lowBefore v_highBefore v_least v_greatest v_things v_changing v_overLow v_overHigh v_text v_length v_at v_readKey v_readCount v_keys y1].flatten _ := hP
  have hD : va_D A [W_Model k b0 o0 v_row v_number v_saved v_place v_low v_high v_lowBefore v_highBefore v_least v_greatest v_things v_changing v_overLow v_overHigh v_text v_length v_at v_readKey v_readCount v_keys y1].flatten := hD
  have hf := Option.some.inj hf
  subst hf
  exact kvret X hP hD hS dX8_note_14
/-! Model_digest: public long digest(); -/
abbrev rm_Model_digest : Room := ({ frames := 1, cells := 0, slots := 0, locals := 22 } : Room)
def f_Model_digest_L9 (v_row : FI) (K40 : Int32 → Int64 → Option (Int64 × Int64)) : Nat → Int32 → Int64 → Option (Int64 × Int64)
  | 0, _, _ => none
  | n + 1, i2, c3 => if ck 6 1002 = true then if (7 + (v_row (6 : Int32).toNatClampNeg)) ≤ i2 then K40 i2 c3 else if ck i2 1002 = true then (f_Model_note ((v_row i2.toNatClampNeg).toInt64) c3).bind (fun r4 => f_Model_digest_L9 v_row K40 n (i2 + 1) r4) else none else none
def f_Model_digest_L49 (i19 : Int32) (v_row : FI) (v_number : FJ) (K76 : Int32 → Int64 → Option (Int64 × Int64)) : Nat → Int32 → Int64 → Option (Int64 × Int64)
  | 0, _, _ => none
  | n + 1, i20, c21 => if ck 6 1002 = true then if (v_row (6 : Int32).toNatClampNeg) ≤ i20 then K76 i20 c21 else (f_Model_truthAt i19 i20 v_number).bind (fun r22 => (f_Model_note r22 c21).bind (fun r23 => f_Model_digest_L49 i19 v_row v_number K76 n (i20 + 1) r23)) else none
def f_Model_digest_L78 (i30 : Int32) (v_row : FI) (K123 : Int32 → Int64 → Option (Int64 × Int64)) : Nat → Int32 → Int64 → Option (Int64 × Int64)
  | 0, _, _ => none
  | n + 1, i31, c32 => if ck 0 1002 = true then if (v_row (0 : Int32).toNatClampNeg) ≤ i31 then K123 i31 c32 else (f_Model_restAt i30 i31 v_row).bind (fun r33 => (f_Model_note r33.toInt64 c32).bind (fun r34 => (f_Model_marked i30 i31 v_row).bind (fun r35 => if r35 = 0 then (f_Model_note 0 r34).bind (fun r36 => f_Model_digest_L78 i30 v_row K123 n (i31 + 1) r36) else (f_Model_note 1 r34).bind (fun r37 => f_Model_digest_L78 i30 v_row K123 n (i31 + 1) r37)))) else none
def f_Model_digest_L125 (i42 : Int32) (v_row : FI) (v_number : FJ) (K151 : Int32 → Int64 → Option (Int64 × Int64)) : Nat → Int32 → Int64 → Option (Int64 × Int64)
  | 0, _, _ => none
  | n + 1, i43, c44 => if ck 3 1002 = true then if (v_row (3 : Int32).toNatClampNeg) ≤ i43 then K151 i43 c44 else (f_Model_aboveAt i42 i43 v_number).bind (fun r45 => (f_Model_note r45 c44).bind (fun r46 => f_Model_digest_L125 i42 v_row v_number K151 n (i43 + 1) r46)) else none
def f_Model_digest_L42 (N : Nat) (v_row : FI) (v_number : FJ) (K157 : Int32 → Int64 → Option (Int64 × Int64)) : Nat → Int32 → Int64 → Option (Int64 × Int64)
  | 0, _, _ => none
  | n + 1, i15, c16 => if 2 ≤ i15 then K157 i15 c16 else f_Model_digest_L49 i15 v_row v_number (fun i24 c25 => f_Model_digest_L78 i15 v_row (fun i38 c39 => f_Model_digest_L125 i15 v_row v_number (fun i47 c48 => f_Model_digest_L42 N v_row v_number K157 n (i15 + 1) c48) N 0 c39) N 0 c25) N 0 c16
def f_Model_digest (N : Nat) (v_row : FI) (v_number : FJ) (v_h : Int64) : Option (Int64 × Int64) := f_Model_digest_L9 v_row (fun i5 c6 => f_Model_digest_L42 N v_row v_number (fun i49 c50 => some (c50, c50)) N 0 c6) N 0 17
abbrev Q_Model_digest (below : List Frame) (D : va_G) (k : Nat → ClassId) (A : Nat → Prop) (args : Array Value) (s : State) (b0 : Nat → Nat) (o0 : Nat) (v_row : FI) (v_number : FJ) (v_saved : Int32) (v_place : FI) (v_low : FJ) (v_high : FJ) (v_lowBefore : FJ) (v_highBefore : FJ) (v_least : FJ) (v_greatest : FJ) (v_things : Int32) (v_changing : Int32) (v_overLow : FJ) (v_overHigh : FJ) (v_text : FI) (v_length : Int32) (v_at : Int32) (v_readKey : FI) (v_readCount : FJ) (v_keys : Int32) (v_h : Int64) (out : Int64 × Int64) : State → Prop := MQ below (QW D k A (some (.long out.1)) [W_Model k b0 o0 v_row v_number v_saved v_place v_low v_high v_lowBefore v_highBefore v_least v_greatest v_things v_changing v_overLow v_overHigh v_text v_length v_at v_readKey v_readCount v_keys out.2].flatten) args s 0 0 A
set_option maxRecDepth 100000 in
set_option maxHeartbeats 1000000 in
theorem w_Model_digest_L9 {p : Program} {l : Launch} {e : Env} {s : State} {m : MethodId} {below : List Frame} {meth : Method} {c : Code} {args : Array Value} {A : Nat → Prop} {D : va_G} {k : Nat → ClassId} {t : Nat → Nat} (X : BX l D k t p s m args meth c cX8_digest 3 RX8 (some .long) A) (b0 : Nat → Nat) (o0 : Nat) (v_row : FI) (v_number : FJ) (v_saved : Int32) (v_place : FI) (v_low : FJ) (v_high : FJ) (v_lowBefore : FJ) (v_highBefore : FJ) (v_least : FJ) (v_greatest : FJ) (v_things : Int32) (v_changing : Int32) (v_overLow : FJ) (v_overHigh : FJ) (v_text : FI) (v_length : Int32) (v_at : Int32) (v_readKey : FI) (v_readCount : FJ) (v_keys : Int32) (v_h : Int64) (N : Nat) (out : Int64 × Int64) (K40 : Int32 → Int64 → Option (Int64 × Int64)) (hK40 : ∀ (i2' : Int32) (c3' : Int64) (H : Heap) (locs : List Loc) (ls : Array Slot), va_P D vwCl [W_Model k b0 o0 v_row v_number v_saved v_place v_low v_high v_lowBefore v_highBefore v_least v_greatest v_things v_changing v_overLow v_overHigh v_text v_length v_at v_readKey v_readCount v_keys c3'].flatten H → va_D A [W_Model k b0 o0 v_row v_number v_saved v_place v_low v_high v_lowBefore v_highBefore v_least v_greatest v_things v_changing v_overLow v_overHigh v_text v_length v_at v_readKey v_readCount v_keys c3'].flatten → va_S A s.heap H locs → lv_has ls 3 [(0, .ref (b0 o0))] → K40 i2' c3' = some out → W p l e rm_Model_digest s m args below meth c H locs 0 0 (Q_Model_digest below D k A args s b0 o0 v_row v_number v_saved v_place v_low v_high v_lowBefore v_highBefore v_least v_greatest v_things v_changing v_overLow v_overHigh v_text v_length v_at v_readKey v_readCount v_keys v_h out) (F0 m 40 ls [])) : ∀ (n : Nat) (i2 : Int32) (c3 : Int64) (H : Heap) (locs : List Loc) (ls : Array Slot), va_P D vwCl [W_Model k b0 o0 v_row v_number v_saved v_place v_low v_high v_lowBefore v_highBefore v_least v_greatest v_things v_changing v_overLow v_overHigh v_text v_length v_at v_readKey v_readCount v_keys c3].flatten H → va_D A [W_Model k b0 o0 v_row v_number v_saved v_place v_low v_high v_lowBefore v_highBefore v_least v_greatest v_things v_changing v_overLow v_overHigh v_text v_length v_at v_readKey v_readCount v_keys c3].flatten → va_S A s.heap H locs → lv_has ls 3 [(0, .ref (b0 o0)), (1, .int i2)] → f_Model_digest_L9 v_row K40 n i2 c3 = some out → W p l e rm_Model_digest s m args below meth c H locs 0 0 (Q_Model_digest below D k A args s b0 o0 v_row v_number v_saved v_place v_low v_high v_lowBefore v_highBefore v_least v_greatest v_things v_changing v_overLow v_overHigh v_text v_length v_at v_readKey v_readCount v_keys v_h out) (F0 m 9 ls []) := by
  have hx := X.1.1
  have hb := X.1.2.1
  have hml := X.1.2.2.1
  have hown := X.1.2.2.2.1
  have hts := X.1.2.2.2.2
  intro n
  induction n with
  | zero =>
    intro i2 c3 H locs ls hP hD hS hl hf
    rw [f_Model_digest_L9] at hf
    cases hf
  | succ n ih =>
    intro i2 c3 H locs ls hP hD hS hl hf
    rw [f_Model_digest_L9] at hf
    refine lv_iload_n hx hb dX8_digest_9 rfl (lv_at hl 1 rfl) ?_
    refine lv_bipush (v := 7) hx hb dX8_digest_10 (by decide) ?_
    refine lv_aload_n hx hb dX8_digest_12 rfl (lv_at hl 0 rfl) ?_
    refine kget (v := .ref (b0 (o0+1))) X hP ff_X8_7 0 rfl rfl dX8_digest_13 ?_
    refine lv_bipush (v := 6) hx hb dX8_digest_16 (by decide) ?_
    obtain ⟨hc, hf⟩ := ofck hf
    refine kiald (f := v_row) (n := 1002) X hP 1 rfl hc dX8_digest_18 ?_
    refine lv_iadd hx hb dX8_digest_19 ?_
    refine lv_icmp_ge (tgt := 40) hx hb dX8_digest_20 (by decide) (fun hc => ?_) (fun hc => ?_)
    · have hf := ofpos hf hc
      exact hK40 i2 c3 _ _ _ hP hD hS (lv_sub hl [0] rfl) hf
    · have hf := ofneg hf hc
      refine lv_aload_n hx hb dX8_digest_23 rfl (lv_at hl 0 rfl) ?_
      refine lv_aload_n hx hb dX8_digest_24 rfl (lv_at hl 0 rfl) ?_
      refine kget (v := .ref (b0 (o0+1))) X hP ff_X8_7 0 rfl rfl dX8_digest_25 ?_
      refine lv_iload_n hx hb dX8_digest_28 rfl (lv_at hl 1 rfl) ?_
      obtain ⟨hc, hf⟩ := ofck hf
      refine kiald (f := v_row) (n := 1002) X hP 1 rfl hc dX8_digest_29 ?_
      refine lv_i2l (v := (v_row i2.toNatClampNeg).toInt64) hx hb dX8_digest_30 rfl ?_
      obtain ⟨r4, hg_r4, hf⟩ := ofbind hf
      refine kcV (bs := [W_Model k b0 o0 v_row v_number v_saved v_place v_low v_high v_lowBefore v_highBefore v_least v_greatest v_things v_changing v_overLow v_overHigh v_text v_length v_at v_readKey v_readCount v_keys c3]) (br := []) (bc := [W_Model k b0 o0 v_row v_number v_saved v_place v_low v_high v_lowBefore v_highBefore v_least v_greatest v_things v_changing v_overLow v_overHigh v_text v_length v_at v_readKey v_readCount v_keys c3]) (bc' := [W_Model k b0 o0 v_row v_number v_saved v_place v_low v_high v_lowBefore v_highBefore v_least v_greatest v_things v_changing v_overLow v_overHigh v_text v_length v_at v_readKey v_readCount v_keys r4]) X hP hD hS (c_Model_note l D k t b0 o0 v_row v_number v_saved v_place v_low v_high v_lowBefore v_highBefore v_least v_greatest v_things v_changing v_overLow v_overHigh v_text v_length v_at v_readKey v_readCount v_keys c3 ((v_row i2.toNatClampNeg).toInt64) r4 hg_r4) mv_X8_211 hl [] [0] 8 ⟨rfl, rfl⟩ ⟨Nat.le_of_ble_eq_true rfl, Nat.le_of_ble_eq_true rfl⟩ rfl rfl rfl rfl rfl rfl rfl (Nat.le_of_ble_eq_true rfl) dX8_digest_31 (fun H locs hP hD hS => ?_)
      have hP : va_P D vwCl [W_Model k b0 o0 v_row v_number v_saved v_place v_low v_high v_lowBefore v_highBefore v_least v_greatest v_things v_changing v_overLow v_overHigh v_text v_length v_at v_readKey v_readCount v_keys r4].flatten _ := hP
      have hD : va_D A [W_Model k b0 o0 v_row v_number v_saved v_place v_low v_high v_lowBefore v_highBefore v_least v_greatest v_things v_changing v_overLow v_overHigh v_text v_length v_at v_readKey v_readCount v_keys r4].flatten := hD
      refine lv_iinc (v := i2 + 1) (lv' := [(1, .int (i2 + 1)), (0, .ref (b0 o0))]) hx hb dX8_digest_34 hl (k := 1) rfl rfl (by decide) rfl (fun ls hl => ?_)
      refine lv_goto (tgt := 9) hx hb dX8_digest_37 (by decide) ?_
      exact ih (i2 + 1) r4 _ _ _ hP hD hS (lv_sub hl [1, 0] rfl) hf
set_option maxRecDepth 100000 in
set_option maxHeartbeats 1000000 in
theorem w_Model_digest_L49 {p : Program} {l : Launch} {e : Env} {s : State} {m : MethodId} {below : List Frame} {meth : Method} {c : Code} {args : Array Value} {A : Nat → Prop} {D : va_G} {k : Nat → ClassId} {t : Nat → Nat} (X : BX l D k t p s m args meth c cX8_digest 3 RX8 (some .long) A) (b0 : Nat → Nat) (o0 : Nat) (v_row : FI) (v_number : FJ) (v_saved : Int32) (v_place : FI) (v_low : FJ) (v_high : FJ) (v_lowBefore : FJ) (v_highBefore : FJ) (v_least : FJ) (v_greatest : FJ) (v_things : Int32) (v_changing : Int32) (v_overLow : FJ) (v_overHigh : FJ) (v_text : FI) (v_length : Int32) (v_at : Int32) (v_readKey : FI) (v_readCount : FJ) (v_keys : Int32) (v_h : Int64) (N : Nat) (i19 : Int32) (out : Int64 × Int64) (K76 : Int32 → Int64 → Option (Int64 × Int64)) (hK76 : ∀ (i20' : Int32) (c21' : Int64) (H : Heap) (locs : List Loc) (ls : Array Slot), va_P D vwCl [W_Model k b0 o0 v_row v_number v_saved v_place v_low v_high v_lowBefore v_highBefore v_least v_greatest v_things v_changing v_overLow v_overHigh v_text v_length v_at v_readKey v_readCount v_keys c21'].flatten H → va_D A [W_Model k b0 o0 v_row v_number v_saved v_place v_low v_high v_lowBefore v_highBefore v_least v_greatest v_things v_changing v_overLow v_overHigh v_text v_length v_at v_readKey v_readCount v_keys c21'].flatten → va_S A s.heap H locs → lv_has ls 3 [(0, .ref (b0 o0)), (1, .int i19)] → K76 i20' c21' = some out → W p l e rm_Model_digest s m args below meth c H locs 0 0 (Q_Model_digest below D k A args s b0 o0 v_row v_number v_saved v_place v_low v_high v_lowBefore v_highBefore v_least v_greatest v_things v_changing v_overLow v_overHigh v_text v_length v_at v_readKey v_readCount v_keys v_h out) (F0 m 76 ls [])) : ∀ (n : Nat) (i20 : Int32) (c21 : Int64) (H : Heap) (locs : List Loc) (ls : Array Slot), va_P D vwCl [W_Model k b0 o0 v_row v_number v_saved v_place v_low v_high v_lowBefore v_highBefore v_least v_greatest v_things v_changing v_overLow v_overHigh v_text v_length v_at v_readKey v_readCount v_keys c21].flatten H → va_D A [W_Model k b0 o0 v_row v_number v_saved v_place v_low v_high v_lowBefore v_highBefore v_least v_greatest v_things v_changing v_overLow v_overHigh v_text v_length v_at v_readKey v_readCount v_keys c21].flatten → va_S A s.heap H locs → lv_has ls 3 [(0, .ref (b0 o0)), (1, .int i19), (2, .int i20)] → f_Model_digest_L49 i19 v_row v_number K76 n i20 c21 = some out → W p l e rm_Model_digest s m args below meth c H locs 0 0 (Q_Model_digest below D k A args s b0 o0 v_row v_number v_saved v_place v_low v_high v_lowBefore v_highBefore v_least v_greatest v_things v_changing v_overLow v_overHigh v_text v_length v_at v_readKey v_readCount v_keys v_h out) (F0 m 49 ls []) := by
  have hx := X.1.1
  have hb := X.1.2.1
  have hml := X.1.2.2.1
  have hown := X.1.2.2.2.1
  have hts := X.1.2.2.2.2
  intro n
  induction n with
  | zero =>
    intro i20 c21 H locs ls hP hD hS hl hf
    rw [f_Model_digest_L49] at hf
    cases hf
  | succ n ih =>
    intro i20 c21 H locs ls hP hD hS hl hf
    rw [f_Model_digest_L49] at hf
    refine lv_iload_n hx hb dX8_digest_49 rfl (lv_at hl 2 rfl) ?_
    refine lv_aload_n hx hb dX8_digest_50 rfl (lv_at hl 0 rfl) ?_
    refine kget (v := .ref (b0 (o0+1))) X hP ff_X8_7 0 rfl rfl dX8_digest_51 ?_
    refine lv_bipush (v := 6) hx hb dX8_digest_54 (by decide) ?_
    obtain ⟨hc, hf⟩ := ofck hf
    refine kiald (f := v_row) (n := 1002) X hP 1 rfl hc dX8_digest_56 ?_
    refine lv_icmp_ge (tgt := 76) hx hb dX8_digest_57 (by decide) (fun hc => ?_) (fun hc => ?_)
    · have hf := ofpos hf hc
      exact hK76 i20 c21 _ _ _ hP hD hS (lv_sub hl [0, 1] rfl) hf
    · have hf := ofneg hf hc
      refine lv_aload_n hx hb dX8_digest_60 rfl (lv_at hl 0 rfl) ?_
      refine lv_aload_n hx hb dX8_digest_61 rfl (lv_at hl 0 rfl) ?_
      refine lv_iload_n hx hb dX8_digest_62 rfl (lv_at hl 1 rfl) ?_
      refine lv_iload_n hx hb dX8_digest_63 rfl (lv_at hl 2 rfl) ?_
      obtain ⟨r22, hg_r22, hf⟩ := ofbind hf
      refine kcV (bs := [W_Model k b0 o0 v_row v_number v_saved v_place v_low v_high v_lowBefore v_highBefore v_least v_greatest v_things v_changing v_overLow v_overHigh v_text v_length v_at v_readKey v_readCount v_keys c21]) (br := []) (bc := [W_Model k b0 o0 v_row v_number v_saved v_place v_low v_high v_lowBefore v_highBefore v_least v_greatest v_things v_changing v_overLow v_overHigh v_text v_length v_at v_readKey v_readCount v_keys c21]) (bc' := [W_Model k b0 o0 v_row v_number v_saved v_place v_low v_high v_lowBefore v_highBefore v_least v_greatest v_things v_changing v_overLow v_overHigh v_text v_length v_at v_readKey v_readCount v_keys c21]) X hP hD hS (c_Model_truthAt l D k t b0 o0 v_row v_number v_saved v_place v_low v_high v_lowBefore v_highBefore v_least v_greatest v_things v_changing v_overLow v_overHigh v_text v_length v_at v_readKey v_readCount v_keys c21 i19 i20 r22 hg_r22) mv_X8_108 hl [] [0] 8 ⟨rfl, rfl⟩ ⟨Nat.le_of_ble_eq_true rfl, Nat.le_of_ble_eq_true rfl⟩ rfl rfl rfl rfl rfl rfl rfl (Nat.le_of_ble_eq_true rfl) dX8_digest_64 (fun H locs hP hD hS => ?_)
      have hP : va_P D vwCl [W_Model k b0 o0 v_row v_number v_saved v_place v_low v_high v_lowBefore v_highBefore v_least v_greatest v_things v_changing v_overLow v_overHigh v_text v_length v_at v_readKey v_readCount v_keys c21].flatten _ := hP
      have hD : va_D A [W_Model k b0 o0 v_row v_number v_saved v_place v_low v_high v_lowBefore v_highBefore v_least v_greatest v_things v_changing v_overLow v_overHigh v_text v_length v_at v_readKey v_readCount v_keys c21].flatten := hD
      obtain ⟨r23, hg_r23, hf⟩ := ofbind hf
      refine kcV (bs := [W_Model k b0 o0 v_row v_number v_saved v_place v_low v_high v_lowBefore v_highBefore v_least v_greatest v_things v_changing v_overLow v_overHigh v_text v_length v_at v_readKey v_readCount v_keys c21]) (br := []) (bc := [W_Model k b0 o0 v_row v_number v_saved v_place v_low v_high v_lowBefore v_highBefore v_least v_greatest v_things v_changing v_overLow v_overHigh v_text v_length v_at v_readKey v_readCount v_keys c21]) (bc' := [W_Model k b0 o0 v_row v_number v_saved v_place v_low v_high v_lowBefore v_highBefore v_least v_greatest v_things v_changing v_overLow v_overHigh v_text v_length v_at v_readKey v_readCount v_keys r23]) X hP hD hS (c_Model_note l D k t b0 o0 v_row v_number v_saved v_place v_low v_high v_lowBefore v_highBefore v_least v_greatest v_things v_changing v_overLow v_overHigh v_text v_length v_at v_readKey v_readCount v_keys c21 r22 r23 hg_r23) mv_X8_211 hl [] [0] 8 ⟨rfl, rfl⟩ ⟨Nat.le_of_ble_eq_true rfl, Nat.le_of_ble_eq_true rfl⟩ rfl rfl rfl rfl rfl rfl rfl (Nat.le_of_ble_eq_true rfl) dX8_digest_67 (fun H locs hP hD hS => ?_)
      have hP : va_P D vwCl [W_Model k b0 o0 v_row v_number v_saved v_place v_low v_high v_lowBefore v_highBefore v_least v_greatest v_things v_changing v_overLow v_overHigh v_text v_length v_at v_readKey v_readCount v_keys r23].flatten _ := hP
      have hD : va_D A [W_Model k b0 o0 v_row v_number v_saved v_place v_low v_high v_lowBefore v_highBefore v_least v_greatest v_things v_changing v_overLow v_overHigh v_text v_length v_at v_readKey v_readCount v_keys r23].flatten := hD
      refine lv_iinc (v := i20 + 1) (lv' := [(2, .int (i20 + 1)), (0, .ref (b0 o0)), (1, .int i19)]) hx hb dX8_digest_70 hl (k := 2) rfl rfl (by decide) rfl (fun ls hl => ?_)
      refine lv_goto (tgt := 49) hx hb dX8_digest_73 (by decide) ?_
      exact ih (i20 + 1) r23 _ _ _ hP hD hS (lv_sub hl [1, 2, 0] rfl) hf
set_option maxRecDepth 100000 in
set_option maxHeartbeats 1000000 in
theorem w_Model_digest_L78 {p : Program} {l : Launch} {e : Env} {s : State} {m : MethodId} {below : List Frame} {meth : Method} {c : Code} {args : Array Value} {A : Nat → Prop} {D : va_G} {k : Nat → ClassId} {t : Nat → Nat} (X : BX l D k t p s m args meth c cX8_digest 3 RX8 (some .long) A) (b0 : Nat → Nat) (o0 : Nat) (v_row : FI) (v_number : FJ) (v_saved : Int32) (v_place : FI) (v_low : FJ) (v_high : FJ) (v_lowBefore : FJ) (v_highBefore : FJ) (v_least : FJ) (v_greatest : FJ) (v_things : Int32) (v_changing : Int32) (v_overLow : FJ) (v_overHigh : FJ) (v_text : FI) (v_length : Int32) (v_at : Int32) (v_readKey : FI) (v_readCount : FJ) (v_keys : Int32) (v_h : Int64) (N : Nat) (i30 : Int32) (out : Int64 × Int64) (K123 : Int32 → Int64 → Option (Int64 × Int64)) (hK123 : ∀ (i31' : Int32) (c32' : Int64) (H : Heap) (locs : List Loc) (ls : Array Slot), va_P D vwCl [W_Model k b0 o0 v_row v_number v_saved v_place v_low v_high v_lowBefore v_highBefore v_least v_greatest v_things v_changing v_overLow v_overHigh v_text v_length v_at v_readKey v_readCount v_keys c32'].flatten H → va_D A [W_Model k b0 o0 v_row v_number v_saved v_place v_low v_high v_lowBefore v_highBefore v_least v_greatest v_things v_changing v_overLow v_overHigh v_text v_length v_at v_readKey v_readCount v_keys c32'].flatten → va_S A s.heap H locs → lv_has ls 3 [(0, .ref (b0 o0)), (1, .int i30)] → K123 i31' c32' = some out → W p l e rm_Model_digest s m args below meth c H locs 0 0 (Q_Model_digest below D k A args s b0 o0 v_row v_number v_saved v_place v_low v_high v_lowBefore v_highBefore v_least v_greatest v_things v_changing v_overLow v_overHigh v_text v_length v_at v_readKey v_readCount v_keys v_h out) (F0 m 123 ls [])) : ∀ (n : Nat) (i31 : Int32) (c32 : Int64) (H : Heap) (locs : List Loc) (ls : Array Slot), va_P D vwCl [W_Model k b0 o0 v_row v_number v_saved v_place v_low v_high v_lowBefore v_highBefore v_least v_greatest v_things v_changing v_overLow v_overHigh v_text v_length v_at v_readKey v_readCount v_keys c32].flatten H → va_D A [W_Model k b0 o0 v_row v_number v_saved v_place v_low v_high v_lowBefore v_highBefore v_least v_greatest v_things v_changing v_overLow v_overHigh v_text v_length v_at v_readKey v_readCount v_keys c32].flatten → va_S A s.heap H locs → lv_has ls 3 [(0, .ref (b0 o0)), (1, .int i30), (2, .int i31)] → f_Model_digest_L78 i30 v_row K123 n i31 c32 = some out → W p l e rm_Model_digest s m args below meth c H locs 0 0 (Q_Model_digest below D k A args s b0 o0 v_row v_number v_saved v_place v_low v_high v_lowBefore v_highBefore v_least v_greatest v_things v_changing v_overLow v_overHigh v_text v_length v_at v_readKey v_readCount v_keys v_h out) (F0 m 78 ls []) := by
  have hx := X.1.1
  have hb := X.1.2.1
  have hml := X.1.2.2.1
  have hown := X.1.2.2.2.1
  have hts := X.1.2.2.2.2
  intro n
  induction n with
  | zero =>
    intro i31 c32 H locs ls hP hD hS hl hf
    rw [f_Model_digest_L78] at hf
    cases hf
  | succ n ih =>
    intro i31 c32 H locs ls hP hD hS hl hf
    rw [f_Model_digest_L78] at hf
    refine lv_iload_n hx hb dX8_digest_78 rfl (lv_at hl 2 rfl) ?_
    refine lv_aload_n hx hb dX8_digest_79 rfl (lv_at hl 0 rfl) ?_
    refine kget (v := .ref (b0 (o0+1))) X hP ff_X8_7 0 rfl rfl dX8_digest_80 ?_
    refine lv_iconst (v := 0) hx hb dX8_digest_83 (by decide) ?_
    obtain ⟨hc, hf⟩ := ofck hf
    refine kiald (f := v_row) (n := 1002) X hP 1 rfl hc dX8_digest_84 ?_
    refine lv_icmp_ge (tgt := 123) hx hb dX8_digest_85 (by decide) (fun hc => ?_) (fun hc => ?_)
    · have hf := ofpos hf hc
      exact hK123 i31 c32 _ _ _ hP hD hS (lv_sub hl [0, 1] rfl) hf
    · have hf := ofneg hf hc
      refine lv_aload_n hx hb dX8_digest_88 rfl (lv_at hl 0 rfl) ?_
      refine lv_aload_n hx hb dX8_digest_89 rfl (lv_at hl 0 rfl) ?_
      refine lv_iload_n hx hb dX8_digest_90 rfl (lv_at hl 1 rfl) ?_
      refine lv_iload_n hx hb dX8_digest_91 rfl (lv_at hl 2 rfl) ?_
      obtain ⟨r33, hg_r33, hf⟩ := ofbind hf
      refine kcV (bs := [W_Model k b0 o0 v_row v_number v_saved v_place v_low v_high v_lowBefore v_highBefore v_least v_greatest v_things v_changing v_overLow v_overHigh v_text v_length v_at v_readKey v_readCount v_keys c32]) (br := []) (bc := [W_Model k b0 o0 v_row v_number v_saved v_place v_low v_high v_lowBefore v_highBefore v_least v_greatest v_things v_changing v_overLow v_overHigh v_text v_length v_at v_readKey v_readCount v_keys c32]) (bc' := [W_Model k b0 o0 v_row v_number v_saved v_place v_low v_high v_lowBefore v_highBefore v_least v_greatest v_things v_changing v_overLow v_overHigh v_text v_length v_at v_readKey v_readCount v_keys c32]) X hP hD hS (c_Model_restAt l D k t b0 o0 v_row v_number v_saved v_place v_low v_high v_lowBefore v_highBefore v_least v_greatest v_things v_changing v_overLow v_overHigh v_text v_length v_at v_readKey v_readCount v_keys c32 i30 i31 r33 hg_r33) mv_X8_92 hl [] [0] 8 ⟨rfl, rfl⟩ ⟨Nat.le_of_ble_eq_true rfl, Nat.le_of_ble_eq_true rfl⟩ rfl rfl rfl rfl rfl rfl rfl (Nat.le_of_ble_eq_true rfl) dX8_digest_92 (fun H locs hP hD hS => ?_)
      have hP : va_P D vwCl [W_Model k b0 o0 v_row v_number v_saved v_place v_low v_high v_lowBefore v_highBefore v_least v_greatest v_things v_changing v_overLow v_overHigh v_text v_length v_at v_readKey v_readCount v_keys c32].flatten _ := hP
      have hD : va_D A [W_Model k b0 o0 v_row v_number v_saved v_place v_low v_high v_lowBefore v_highBefore v_least v_greatest v_things v_changing v_overLow v_overHigh v_text v_length v_at v_readKey v_readCount v_keys c32].flatten := hD
      refine lv_i2l (v := r33.toInt64) hx hb dX8_digest_95 rfl ?_
      obtain ⟨r34, hg_r34, hf⟩ := ofbind hf
      refine kcV (bs := [W_Model k b0 o0 v_row v_number v_saved v_place v_low v_high v_lowBefore v_highBefore v_least v_greatest v_things v_changing v_overLow v_overHigh v_text v_length v_at v_readKey v_readCount v_keys c32]) (br := []) (bc := [W_Model k b0 o0 v_row v_number v_saved v_place v_low v_high v_lowBefore v_highBefore v_least v_greatest v_things v_changing v_overLow v_overHigh v_text v_length v_at v_readKey v_readCount v_keys c32]) (bc' := [W_Model k b0 o0 v_row v_number v_saved v_place v_low v_high v_lowBefore v_highBefore v_least v_greatest v_things v_changing v_overLow v_overHigh v_text v_length v_at v_readKey v_readCount v_keys r34]) X hP hD hS (c_Model_note l D k t b0 o0 v_row v_number v_saved v_place v_low v_high v_lowBefore v_highBefore v_least v_greatest v_things v_changing v_overLow v_overHigh v_text v_length v_at v_readKey v_readCount v_keys c32 r33.toInt64 r34 hg_r34) mv_X8_211 hl [] [0] 8 ⟨rfl, rfl⟩ ⟨Nat.le_of_ble_eq_true rfl, Nat.le_of_ble_eq_true rfl⟩ rfl rfl rfl rfl rfl rfl rfl (Nat.le_of_ble_eq_true rfl) dX8_digest_96 (fun H locs hP hD hS => ?_)
      have hP : va_P D vwCl [W_Model k b0 o0 v_row v_number v_saved v_place v_low v_high v_lowBefore v_highBefore v_least v_greatest v_things v_changing v_overLow v_overHigh v_text v_length v_at v_readKey v_readCount v_keys r34].flatten _ := hP
      have hD : va_D A [W_Model k b0 o0 v_row v_number v_saved v_place v_low v_high v_lowBefore v_highBefore v_least v_greatest v_things v_changing v_overLow v_overHigh v_text v_length v_at v_readKey v_readCount v_keys r34].flatten := hD
      refine lv_aload_n hx hb dX8_digest_99 rfl (lv_at hl 0 rfl) ?_
      refine lv_aload_n hx hb dX8_digest_100 rfl (lv_at hl 0 rfl) ?_
      refine lv_iload_n hx hb dX8_digest_101 rfl (lv_at hl 1 rfl) ?_
      refine lv_iload_n hx hb dX8_digest_102 rfl (lv_at hl 2 rfl) ?_
      obtain ⟨r35, hg_r35, hf⟩ := ofbind hf
      refine kcV (bs := [W_Model k b0 o0 v_row v_number v_saved v_place v_low v_high v_lowBefore v_highBefore v_least v_greatest v_things v_changing v_overLow v_overHigh v_text v_length v_at v_readKey v_readCount v_keys r34]) (br := []) (bc := [W_Model k b0 o0 v_row v_number v_saved v_place v_low v_high v_lowBefore v_highBefore v_least v_greatest v_things v_changing v_overLow v_overHigh v_text v_length v_at v_readKey v_readCount v_keys r34]) (bc' := [W_Model k b0 o0 v_row v_number v_saved v_place v_low v_high v_lowBefore v_highBefore v_least v_greatest v_things v_changing v_overLow v_overHigh v_text v_length v_at v_readKey v_readCount v_keys r34]) X hP hD hS (c_Model_marked l D k t b0 o0 v_row v_number v_saved v_place v_low v_high v_lowBefore v_highBefore v_least v_greatest v_things v_changing v_overLow v_overHigh v_text v_length v_at v_readKey v_readCount v_keys r34 i30 i31 r35 hg_r35) mv_X8_120 hl [] [0] 8 ⟨rfl, rfl⟩ ⟨Nat.le_of_ble_eq_true rfl, Nat.le_of_ble_eq_true rfl⟩ rfl rfl rfl rfl rfl rfl rfl (Nat.le_of_ble_eq_true rfl) dX8_digest_103 (fun H locs hP hD hS => ?_)
      have hP : va_P D vwCl [W_Model k b0 o0 v_row v_number v_saved v_place v_low v_high v_lowBefore v_highBefore v_least v_greatest v_things v_changing v_overLow v_overHigh v_text v_length v_at v_readKey v_readCount v_keys r34].flatten _ := hP
      have hD : va_D A [W_Model k b0 o0 v_row v_number v_saved v_place v_low v_high v_lowBefore v_highBefore v_least v_greatest v_things v_changing v_overLow v_overHigh v_text v_length v_at v_readKey v_readCount v_keys r34].flatten := hD
      refine lv_if_eq (tgt := 113) hx hb dX8_digest_106 (by decide) (fun hc => ?_) (fun hc => ?_)
      · have hf := ofpos hf hc
        refine lv_lconst (v := 0) hx hb dX8_digest_113 (by decide) ?_
        obtain ⟨r36, hg_r36, hf⟩ := ofbind hf
        refine kcV (bs := [W_Model k b0 o0 v_row v_number v_saved v_place v_low v_high v_lowBefore v_highBefore v_least v_greatest v_things v_changing v_overLow v_overHigh v_text v_length v_at v_readKey v_readCount v_keys r34]) (br := []) (bc := [W_Model k b0 o0 v_row v_number v_saved v_place v_low v_high v_lowBefore v_highBefore v_least v_greatest v_things v_changing v_overLow v_overHigh v_text v_length v_at v_readKey v_readCount v_keys r34]) (bc' := [W_Model k b0 o0 v_row v_number v_saved v_place v_low v_high v_lowBefore v_highBefore v_least v_greatest v_things v_changing v_overLow v_overHigh v_text v_length v_at v_readKey v_readCount v_keys r36]) X hP hD hS (c_Model_note l D k t b0 o0 v_row v_number v_saved v_place v_low v_high v_lowBefore v_highBefore v_least v_greatest v_things v_changing v_overLow v_overHigh v_text v_length v_at v_readKey v_readCount v_keys r34 0 r36 hg_r36) mv_X8_211 hl [] [0] 8 ⟨rfl, rfl⟩ ⟨Nat.le_of_ble_eq_true rfl, Nat.le_of_ble_eq_true rfl⟩ rfl rfl rfl rfl rfl rfl rfl (Nat.le_of_ble_eq_true rfl) dX8_digest_114 (fun H locs hP hD hS => ?_)
        have hP : va_P D vwCl [W_Model k b0 o0 v_row v_number v_saved v_place v_low v_high v_lowBefore v_highBefore v_least v_greatest v_things v_changing v_overLow v_overHigh v_text v_length v_at v_readKey v_readCount v_keys r36].flatten _ := hP
        have hD : va_D A [W_Model k b0 o0 v_row v_number v_saved v_place v_low v_high v_lowBefore v_highBefore v_least v_greatest v_things v_changing v_overLow v_overHigh v_text v_length v_at v_readKey v_readCount v_keys r36].flatten := hD
        refine lv_iinc (v := i31 + 1) (lv' := [(2, .int (i31 + 1)), (0, .ref (b0 o0)), (1, .int i30)]) hx hb dX8_digest_117 hl (k := 2) rfl rfl (by decide) rfl (fun ls hl => ?_)
        refine lv_goto (tgt := 78) hx hb dX8_digest_120 (by decide) ?_
        exact ih (i31 + 1) r36 _ _ _ hP hD hS (lv_sub hl [1, 2, 0] rfl) hf
      · have hf := ofneg hf hc
        refine lv_lconst (v := 1) hx hb dX8_digest_109 (by decide) ?_
        refine lv_goto (tgt := 114) hx hb dX8_digest_110 (by decide) ?_
        obtain ⟨r37, hg_r37, hf⟩ := ofbind hf
        refine kcV (bs := [W_Model k b0 o0 v_row v_number v_saved v_place v_low v_high v_lowBefore v_highBefore v_least v_greatest v_things v_changing v_overLow v_overHigh v_text v_length v_at v_readKey v_readCount v_keys r34]) (br := []) (bc := [W_Model k b0 o0 v_row v_number v_saved v_place v_low v_high v_lowBefore v_highBefore v_least v_greatest v_things v_changing v_overLow v_overHigh v_text v_length v_at v_readKey v_readCount v_keys r34]) (bc' := [W_Model k b0 o0 v_row v_number v_saved v_place v_low v_high v_lowBefore v_highBefore v_least v_greatest v_things v_changing v_overLow v_overHigh v_text v_length v_at v_readKey v_readCount v_keys r37]) X hP hD hS (c_Model_note l D k t b0 o0 v_row v_number v_saved v_place v_low v_high v_lowBefore v_highBefore v_least v_greatest v_things v_changing v_overLow v_overHigh v_text v_length v_at v_readKey v_readCount v_keys r34 1 r37 hg_r37) mv_X8_211 hl [] [0] 8 ⟨rfl, rfl⟩ ⟨Nat.le_of_ble_eq_true rfl, Nat.le_of_ble_eq_true rfl⟩ rfl rfl rfl rfl rfl rfl rfl (Nat.le_of_ble_eq_true rfl) dX8_digest_114 (fun H locs hP hD hS => ?_)
        have hP : va_P D vwCl [W_Model k b0 o0 v_row v_number v_saved v_place v_low v_high v_lowBefore v_highBefore v_least v_greatest v_things v_changing v_overLow v_overHigh v_text v_length v_at v_readKey v_readCount v_keys r37].flatten _ := hP
        have hD : va_D A [W_Model k b0 o0 v_row v_number v_saved v_place v_low v_high v_lowBefore v_highBefore v_least v_greatest v_things v_changing v_overLow v_overHigh v_text v_length v_at v_readKey v_readCount v_keys r37].flatten := hD
        refine lv_iinc (v := i31 + 1) (lv' := [(2, .int (i31 + 1)), (0, .ref (b0 o0)), (1, .int i30)]) hx hb dX8_digest_117 hl (k := 2) rfl rfl (by decide) rfl (fun ls hl => ?_)
        refine lv_goto (tgt := 78) hx hb dX8_digest_120 (by decide) ?_
        exact ih (i31 + 1) r37 _ _ _ hP hD hS (lv_sub hl [1, 2, 0] rfl) hf
set_option maxRecDepth 100000 in
set_option maxHeartbeats 1000000 in
theorem w_Model_digest_L125 {p : Program} {l : Launch} {e : Env} {s : State} {m : MethodId} {below : List Frame} {meth : Method} {c : Code} {args : Array Value} {A : Nat → Prop} {D : va_G} {k : Nat → ClassId} {t : Nat → Nat} (X : BX l D k t p s m args meth c cX8_digest 3 RX8 (some .long) A) (b0 : Nat → Nat) (o0 : Nat) (v_row : FI) (v_number : FJ) (v_saved : Int32) (v_place : FI) (v_low : FJ) (v_high : FJ) (v_lowBefore : FJ) (v_highBefore : FJ) (v_least : FJ) (v_greatest : FJ) (v_things : Int32) (v_changing : Int32) (v_overLow : FJ) (v_overHigh : FJ) (v_text : FI) (v_length : Int32) (v_at : Int32) (v_readKey : FI) (v_readCount : FJ) (v_keys : Int32) (v_h : Int64) (N : Nat) (i42 : Int32) (out : Int64 × Int64) (K151 : Int32 → Int64 → Option (Int64 × Int64)) (hK151 : ∀ (i43' : Int32) (c44' : Int64) (H : Heap) (locs : List Loc) (ls : Array Slot), va_P D vwCl [W_Model k b0 o0 v_row v_number v_saved v_place v_low v_high v_lowBefore v_highBefore v_least v_greatest v_things v_changing v_overLow v_overHigh v_text v_length v_at v_readKey v_readCount v_keys c44'].flatten H → va_D A [W_Model k b0 o0 v_row v_number v_saved v_place v_low v_high v_lowBefore v_highBefore v_least v_greatest v_things v_changing v_overLow v_overHigh v_text v_length v_at v_readKey v_readCount v_keys c44'].flatten → va_S A s.heap H locs → lv_has ls 3 [(0, .ref (b0 o0)), (1, .int i42)] → K151 i43' c44' = some out → W p l e rm_Model_digest s m args below meth c H locs 0 0 (Q_Model_digest below D k A args s b0 o0 v_row v_number v_saved v_place v_low v_high v_lowBefore v_highBefore v_least v_greatest v_things v_changing v_overLow v_overHigh v_text v_length v_at v_readKey v_readCount v_keys v_h out) (F0 m 151 ls [])) : ∀ (n : Nat) (i43 : Int32) (c44 : Int64) (H : Heap) (locs : List Loc) (ls : Array Slot), va_P D vwCl [W_Model k b0 o0 v_row v_number v_saved v_place v_low v_high v_lowBefore v_highBefore v_least v_greatest v_things v_changing v_overLow v_overHigh v_text v_length v_at v_readKey v_readCount v_keys c44].flatten H → va_D A [W_Model k b0 o0 v_row v_number v_saved v_place v_low v_high v_lowBefore v_highBefore v_least v_greatest v_things v_changing v_overLow v_overHigh v_text v_length v_at v_readKey v_readCount v_keys c44].flatten → va_S A s.heap H locs → lv_has ls 3 [(0, .ref (b0 o0)), (1, .int i42), (2, .int i43)] → f_Model_digest_L125 i42 v_row v_number K151 n i43 c44 = some out → W p l e rm_Model_digest s m args below meth c H locs 0 0 (Q_Model_digest below D k A args s b0 o0 v_row v_number v_saved v_place v_low v_high v_lowBefore v_highBefore v_least v_greatest v_things v_changing v_overLow v_overHigh v_text v_length v_at v_readKey v_readCount v_keys v_h out) (F0 m 125 ls []) := by
  have hx := X.1.1
  have hb := X.1.2.1
  have hml := X.1.2.2.1
  have hown := X.1.2.2.2.1
  have hts := X.1.2.2.2.2
  intro n
  induction n with
  | zero =>
    intro i43 c44 H locs ls hP hD hS hl hf
    rw [f_Model_digest_L125] at hf
    cases hf
  | succ n ih =>
    intro i43 c44 H locs ls hP hD hS hl hf
    rw [f_Model_digest_L125] at hf
    refine lv_iload_n hx hb dX8_digest_125 rfl (lv_at hl 2 rfl) ?_
    refine lv_aload_n hx hb dX8_digest_126 rfl (lv_at hl 0 rfl) ?_
    refine kget (v := .ref (b0 (o0+1))) X hP ff_X8_7 0 rfl rfl dX8_digest_127 ?_
    refine lv_iconst (v := 3) hx hb dX8_digest_130 (by decide) ?_
    obtain ⟨hc, hf⟩ := ofck hf
    refine kiald (f := v_row) (n := 1002) X hP 1 rfl hc dX8_digest_131 ?_
    refine lv_icmp_ge (tgt := 151) hx hb dX8_digest_132 (by decide) (fun hc => ?_) (fun hc => ?_)
    · have hf := ofpos hf hc
      exact hK151 i43 c44 _ _ _ hP hD hS (lv_sub hl [0, 1] rfl) hf
    · have hf := ofneg hf hc
      refine lv_aload_n hx hb dX8_digest_135 rfl (lv_at hl 0 rfl) ?_
      refine lv_aload_n hx hb dX8_digest_136 rfl (lv_at hl 0 rfl) ?_
      refine lv_iload_n hx hb dX8_digest_137 rfl (lv_at hl 1 rfl) ?_
      refine lv_iload_n hx hb dX8_digest_138 rfl (lv_at hl 2 rfl) ?_
      obtain ⟨r45, hg_r45, hf⟩ := ofbind hf
      refine kcV (bs := [W_Model k b0 o0 v_row v_number v_saved v_place v_low v_high v_lowBefore v_highBefore v_least v_greatest v_things v_changing v_overLow v_overHigh v_text v_length v_at v_readKey v_readCount v_keys c44]) (br := []) (bc := [W_Model k b0 o0 v_row v_number v_saved v_place v_low v_high v_lowBefore v_highBefore v_least v_greatest v_things v_changing v_overLow v_overHigh v_text v_length v_at v_readKey v_readCount v_keys c44]) (bc' := [W_Model k b0 o0 v_row v_number v_saved v_place v_low v_high v_lowBefore v_highBefore v_least v_greatest v_things v_changing v_overLow v_overHigh v_text v_length v_at v_readKey v_readCount v_keys c44]) X hP hD hS (c_Model_aboveAt l D k t b0 o0 v_row v_number v_saved v_place v_low v_high v_lowBefore v_highBefore v_least v_greatest v_things v_changing v_overLow v_overHigh v_text v_length v_at v_readKey v_readCount v_keys c44 i42 i43 r45 hg_r45) mv_X8_124 hl [] [0] 8 ⟨rfl, rfl⟩ ⟨Nat.le_of_ble_eq_true rfl, Nat.le_of_ble_eq_true rfl⟩ rfl rfl rfl rfl rfl rfl rfl (Nat.le_of_ble_eq_true rfl) dX8_digest_139 (fun H locs hP hD hS => ?_)
      have hP : va_P D vwCl [W_Model k b0 o0 v_row v_number v_saved v_place v_low v_high v_lowBefore v_highBefore v_least v_greatest v_things v_changing v_overLow v_overHigh v_text v_length v_at v_readKey v_readCount v_keys c44].flatten _ := hP
      have hD : va_D A [W_Model k b0 o0 v_row v_number v_saved v_place v_low v_high v_lowBefore v_highBefore v_least v_greatest v_things v_changing v_overLow v_overHigh v_text v_length v_at v_readKey v_readCount v_keys c44].flatten := hD
      obtain ⟨r46, hg_r46, hf⟩ := ofbind hf
      refine kcV (bs := [W_Model k b0 o0 v_row v_number v_saved v_place v_low v_high v_lowBefore v_highBefore v_least v_greatest v_things v_changing v_overLow v_overHigh v_text v_length v_at v_readKey v_readCount v_keys c44]) (br := []) (bc := [W_Model k b0 o0 v_row v_number v_saved v_place v_low v_high v_lowBefore v_highBefore v_least v_greatest v_things v_changing v_overLow v_overHigh v_text v_length v_at v_readKey v_readCount v_keys c44]) (bc' := [W_Model k b0 o0 v_row v_number v_saved v_place v_low v_high v_lowBefore v_highBefore v_least v_greatest v_things v_changing v_overLow v_overHigh v_text v_length v_at v_readKey v_readCount v_keys r46]) X hP hD hS (c_Model_note l D k t b0 o0 v_row v_number v_saved v_place v_low v_high v_lowBefore v_highBefore v_least v_greatest v_things v_changing v_overLow v_overHigh v_text v_length v_at v_readKey v_readCount v_keys c44 r45 r46 hg_r46) mv_X8_211 hl [] [0] 8 ⟨rfl, rfl⟩ ⟨Nat.le_of_ble_eq_true rfl, Nat.le_of_ble_eq_true rfl⟩ rfl rfl rfl rfl rfl rfl rfl (Nat.le_of_ble_eq_true rfl) dX8_digest_142 (fun H locs hP hD hS => ?_)
      have hP : va_P D vwCl [W_Model k b0 o0 v_row v_number v_saved v_place v_low v_high v_lowBefore v_highBefore v_least v_greatest v_things v_changing v_overLow v_overHigh v_text v_length v_at v_readKey v_readCount v_keys r46].flatten _ := hP
      have hD : va_D A [W_Model k b0 o0 v_row v_number v_saved v_place v_low v_high v_lowBefore v_highBefore v_least v_greatest v_things v_changing v_overLow v_overHigh v_text v_length v_at v_readKey v_readCount v_keys r46].flatten := hD
      refine lv_iinc (v := i43 + 1) (lv' := [(2, .int (i43 + 1)), (0, .ref (b0 o0)), (1, .int i42)]) hx hb dX8_digest_145 hl (k := 2) rfl rfl (by decide) rfl (fun ls hl => ?_)
      refine lv_goto (tgt := 125) hx hb dX8_digest_148 (by decide) ?_
      exact ih (i43 + 1) r46 _ _ _ hP hD hS (lv_sub hl [1, 2, 0] rfl) hf
set_option maxRecDepth 100000 in
set_option maxHeartbeats 1000000 in
theorem w_Model_digest_L42 {p : Program} {l : Launch} {e : Env} {s : State} {m : MethodId} {below : List Frame} {meth : Method} {c : Code} {args : Array Value} {A : Nat → Prop} {D : va_G} {k : Nat → ClassId} {t : Nat → Nat} (X : BX l D k t p s m args meth c cX8_digest 3 RX8 (some .long) A) (b0 : Nat → Nat) (o0 : Nat) (v_row : FI) (v_number : FJ) (v_saved : Int32) (v_place : FI) (v_low : FJ) (v_high : FJ) (v_lowBefore : FJ) (v_highBefore : FJ) (v_least : FJ) (v_greatest : FJ) (v_things : Int32) (v_changing : Int32) (v_overLow : FJ) (v_overHigh : FJ) (v_text : FI) (v_length : Int32) (v_at : Int32) (v_readKey : FI) (v_readCount : FJ) (v_keys : Int32) (v_h : Int64) (N : Nat) (out : Int64 × Int64) (K157 : Int32 → Int64 → Option (Int64 × Int64)) (hK157 : ∀ (i15' : Int32) (c16' : Int64) (H : Heap) (locs : List Loc) (ls : Array Slot), va_P D vwCl [W_Model k b0 o0 v_row v_number v_saved v_place v_low v_high v_lowBefore v_highBefore v_least v_greatest v_things v_changing v_overLow v_overHigh v_text v_length v_at v_readKey v_readCount v_keys c16'].flatten H → va_D A [W_Model k b0 o0 v_row v_number v_saved v_place v_low v_high v_lowBefore v_highBefore v_least v_greatest v_things v_changing v_overLow v_overHigh v_text v_length v_at v_readKey v_readCount v_keys c16'].flatten → va_S A s.heap H locs → lv_has ls 3 [(0, .ref (b0 o0))] → K157 i15' c16' = some out → W p l e rm_Model_digest s m args below meth c H locs 0 0 (Q_Model_digest below D k A args s b0 o0 v_row v_number v_saved v_place v_low v_high v_lowBefore v_highBefore v_least v_greatest v_things v_changing v_overLow v_overHigh v_text v_length v_at v_readKey v_readCount v_keys v_h out) (F0 m 157 ls [])) : ∀ (n : Nat) (i15 : Int32) (c16 : Int64) (H : Heap) (locs : List Loc) (ls : Array Slot), va_P D vwCl [W_Model k b0 o0 v_row v_number v_saved v_place v_low v_high v_lowBefore v_highBefore v_least v_greatest v_things v_changing v_overLow v_overHigh v_text v_length v_at v_readKey v_readCount v_keys c16].flatten H → va_D A [W_Model k b0 o0 v_row v_number v_saved v_place v_low v_high v_lowBefore v_highBefore v_least v_greatest v_things v_changing v_overLow v_overHigh v_text v_length v_at v_readKey v_readCount v_keys c16].flatten → va_S A s.heap H locs → lv_has ls 3 [(0, .ref (b0 o0)), (1, .int i15)] → f_Model_digest_L42 N v_row v_number K157 n i15 c16 = some out → W p l e rm_Model_digest s m args below meth c H locs 0 0 (Q_Model_digest below D k A args s b0 o0 v_row v_number v_saved v_place v_low v_high v_lowBefore v_highBefore v_least v_greatest v_things v_changing v_overLow v_overHigh v_text v_length v_at v_readKey v_readCount v_keys v_h out) (F0 m 42 ls []) := by
  have hx := X.1.1
  have hb := X.1.2.1
  have hml := X.1.2.2.1
  have hown := X.1.2.2.2.1
  have hts := X.1.2.2.2.2
  intro n
  induction n with
  | zero =>
    intro i15 c16 H locs ls hP hD hS hl hf
    rw [f_Model_digest_L42] at hf
    cases hf
  | succ n ih =>
    intro i15 c16 H locs ls hP hD hS hl hf
    rw [f_Model_digest_L42] at hf
    refine lv_iload_n hx hb dX8_digest_42 rfl (lv_at hl 1 rfl) ?_
    refine lv_iconst (v := 2) hx hb dX8_digest_43 (by decide) ?_
    refine lv_icmp_ge (tgt := 157) hx hb dX8_digest_44 (by decide) (fun hc => ?_) (fun hc => ?_)
    · have hf := ofpos hf hc
      exact hK157 i15 c16 _ _ _ hP hD hS (lv_sub hl [0] rfl) hf
    · have hf := ofneg hf hc
      refine lv_iconst (v := 0) hx hb dX8_digest_47 (by decide) ?_
      refine lv_istore_n (lv' := [(2, .int 0), (0, .ref (b0 o0)), (1, .int i15)]) hx hb dX8_digest_48 rfl hl (by decide) rfl (fun ls hl => ?_)
      refine w_Model_digest_L49 X b0 o0 v_row v_number v_saved v_place v_low v_high v_lowBefore v_highBefore v_least v_greatest v_things v_changing v_overLow v_overHigh v_text v_length v_at v_readKey v_readCount v_keys v_h N i15 out _ ?_ N 0 c16 _ _ _ hP hD hS (lv_sub hl [1, 2, 0] rfl) hf
      · intro i24 c25 H locs ls hP hD hS hl hf
        refine lv_iconst (v := 0) hx hb dX8_digest_76 (by decide) ?_
        refine lv_istore_n (lv' := [(2, .int 0), (0, .ref (b0 o0)), (1, .int i15)]) hx hb dX8_digest_77 rfl hl (by decide) rfl (fun ls hl => ?_)
        refine w_Model_digest_L78 X b0 o0 v_row v_number v_saved v_place v_low v_high v_lowBefore v_highBefore v_least v_greatest v_things v_changing v_overLow v_overHigh v_text v_length v_at v_readKey v_readCount v_keys v_h N i15 out _ ?_ N 0 c25 _ _ _ hP hD hS (lv_sub hl [1, 2, 0] rfl) hf
        · intro i38 c39 H locs ls hP hD hS hl hf
          refine lv_iconst (v := 0) hx hb dX8_digest_123 (by decide) ?_
          refine lv_istore_n (lv' := [(2, .int 0), (0, .ref (b0 o0)), (1, .int i15)]) hx hb dX8_digest_124 rfl hl (by decide) rfl (fun ls hl => ?_)
          refine w_Model_digest_L125 X b0 o0 v_row v_number v_saved v_place v_low v_high v_lowBefore v_highBefore v_least v_greatest v_things v_changing v_overLow v_overHigh v_text v_length v_at v_readKey v_readCount v_keys v_h N i15 out _ ?_ N 0 c39 _ _ _ hP hD hS (lv_sub hl [1, 2, 0] rfl) hf
          · intro i47 c48 H locs ls hP hD hS hl hf
            refine lv_iinc (v := i15 + 1) (lv' := [(1, .int (i15 + 1)), (0, .ref (b0 o0))]) hx hb dX8_digest_151 hl (k := 1) rfl rfl (by decide) rfl (fun ls hl => ?_)
            refine lv_goto (tgt := 42) hx hb dX8_digest_154 (by decide) ?_
            exact ih (i15 + 1) c48 _ _ _ hP hD hS (lv_sub hl [1, 0] rfl) hf
set_option maxRecDepth 100000 in
set_option maxHeartbeats 1000000 in
theorem c_Model_digest (l : Launch) (D : va_G) (k : Nat → ClassId) (t : Nat → Nat) (b0 : Nat → Nat) (o0 : Nat) (v_row : FI) (v_number : FJ) (v_saved : Int32) (v_place : FI) (v_low : FJ) (v_high : FJ) (v_lowBefore : FJ) (v_highBefore : FJ) (v_least : FJ) (v_greatest : FJ) (v_things : Int32) (v_changing : Int32) (v_overLow : FJ) (v_overHigh : FJ) (v_text : FI) (v_length : Int32) (v_at : Int32) (v_readKey : FI) (v_readCount : FJ) (v_keys : Int32) (v_h : Int64) (N : Nat) (out : Int64 × Int64) (hf : f_Model_digest N v_row v_number v_h = some out) : CT l D k t yX8_digest cX8_digest 3 (some .long) rm_Model_digest [.ref (b0 o0)] [W_Model k b0 o0 v_row v_number v_saved v_place v_low v_high v_lowBefore v_highBefore v_least v_greatest v_things v_changing v_overLow v_overHigh v_text v_length v_at v_readKey v_readCount v_keys v_h].flatten (some (.long out.1)) [W_Model k b0 o0 v_row v_number v_saved v_place v_low v_high v_lowBefore v_highBefore v_least v_greatest v_things v_changing v_overLow v_overHigh v_text v_length v_at v_readKey v_readCount v_keys out.2].flatten := by
  refine kofW (by decide) (Nat.le_of_ble_eq_true rfl) ?_
  intro p e s m below meth c A ls X hP hD hS hl
  have hx := X.1.1
  have hb := X.1.2.1
  have hml := X.1.2.2.1
  have hown := X.1.2.2.2.1
  have hts := X.1.2.2.2.2
  have hl : lv_has ls 3 [(0, .ref (b0 o0))] := hl
  rw [f_Model_digest] at hf
  refine lv_aload_n hx hb dX8_digest_0 rfl (lv_at hl 0 rfl) ?_
  refine lv_ldc2 (v := 17) hx hb hown (hts _ kc_X8_209) dX8_digest_1 ?_
  refine kputl (v := 17) X hP hD hS fp_X8_205 0 rfl (Nat.le_of_ble_eq_true rfl) dX8_digest_4 (fun H locs hP hD hS => ?_)
  have hP : va_P D vwCl [W_Model k b0 o0 v_row v_number v_saved v_place v_low v_high v_lowBefore v_highBefore v_least v_greatest v_things v_changing v_overLow v_overHigh v_text v_length v_at v_readKey v_readCount v_keys 17].flatten _ := hP
  have hD : va_D A [W_Model k b0 o0 v_row v_number v_saved v_place v_low v_high v_lowBefore v_highBefore v_least v_greatest v_things v_changing v_overLow v_overHigh v_text v_length v_at v_readKey v_readCount v_keys 17].flatten := hD
  refine lv_iconst (v := 0) hx hb dX8_digest_7 (by decide) ?_
  refine lv_istore_n (lv' := [(1, .int 0), (0, .ref (b0 o0))]) hx hb dX8_digest_8 rfl hl (by decide) rfl (fun ls hl => ?_)
  refine w_Model_digest_L9 X b0 o0 v_row v_number v_saved v_place v_low v_high v_lowBefore v_highBefore v_least v_greatest v_things v_changing v_overLow v_overHigh v_text v_length v_at v_readKey v_readCount v_keys v_h N out _ ?_ N 0 17 _ _ _ hP hD hS (lv_sub hl [1, 0] rfl) hf
  · intro i5 c6 H locs ls hP hD hS hl hf
    refine lv_iconst (v := 0) hx hb dX8_digest_40 (by decide) ?_
    refine lv_istore_n (lv' := [(1, .int 0), (0, .ref (b0 o0))]) hx hb dX8_digest_41 rfl hl (by decide) rfl (fun ls hl => ?_)
    refine w_Model_digest_L42 X b0 o0 v_row v_number v_saved v_place v_low v_high v_lowBefore v_highBefore v_least v_greatest v_things v_changing v_overLow v_overHigh v_text v_length v_at v_readKey v_readCount v_keys v_h N out _ ?_ N 0 c6 _ _ _ hP hD hS (lv_sub hl [1, 0] rfl) hf
    · intro i49 c50 H locs ls hP hD hS hl hf
      refine lv_aload_n hx hb dX8_digest_157 rfl (lv_at hl 0 rfl) ?_
      refine kget (v := .long c50) X hP ff_X8_205 0 rfl rfl dX8_digest_158 ?_
      have hf := Option.some.inj hf
      subst hf
      exact klret (v := c50) X hP hD hS dX8_digest_161
