/-! Model_estimate: public long estimate(int, int); -/
abbrev rm_Model_estimate : Room := ({ frames := 5, cells := 0, slots := 0, locals := 123 } : Room)
def f_Model_estimate (N : Nat) (x1 : Int32) (x2 : Int32) (v_row : FI) (v_number : FJ) (v_place : FI) (v_low : FJ) (v_high : FJ) (v_lowBefore : FJ) (v_highBefore : FJ) (v_least : FJ) (v_greatest : FJ) (v_things : Int32) (v_changing : Int32) (v_overLow : FJ) (v_overHigh : FJ) : Option (Int64 × FI × FJ × FJ × FJ × FJ × FJ × FJ × Int32 × Int32 × FJ × FJ) := (f_Model_isBraid x1).bind (fun r1 => if r1 = 0 then some ((-2), v_place, v_low, v_high, v_lowBefore, v_highBefore, v_least, v_greatest, v_things, v_changing, v_overLow, v_overHigh) else (f_Model_isFlow x2 v_row).bind (fun r2 => if r2 = 0 then some ((-2), v_place, v_low, v_high, v_lowBefore, v_highBefore, v_least, v_greatest, v_things, v_changing, v_overLow, v_overHigh) else if ck 5 1002 = true then (f_Model_findsFlows N x1 (v_row (5 : Int32).toNatClampNeg) v_row v_number v_place v_low v_high v_lowBefore v_highBefore v_least v_greatest v_things v_changing v_overLow v_overHigh).bind (fun r3 => if ck x2 24 = true then if ck x2 24 = true then some (((r3.2.1 x2.toNatClampNeg) + (r3.2.2.1 x2.toNatClampNeg)) / 2, r3.1, r3.2.1, r3.2.2.1, r3.2.2.2.1, r3.2.2.2.2.1, r3.2.2.2.2.2.1, r3.2.2.2.2.2.2.1, r3.2.2.2.2.2.2.2.1, r3.2.2.2.2.2.2.2.2.1, r3.2.2.2.2.2.2.2.2.2.1, r3.2.2.2.2.2.2.2.2.2.2) else none else none) else none))
abbrev Q_Model_estimate (below : List Frame) (D : va_G) (k : Nat → ClassId) (A : Nat → Prop) (args : Array Value) (s : State) (b0 : Nat → Nat) (o0 : Nat) (v_row : FI) (v_number : FJ) (v_saved : Int32) (v_place : FI) (v_low : FJ) (v_high : FJ) (v_lowBefore : FJ) (v_highBefore : FJ) (v_least : FJ) (v_greatest : FJ) (v_things : Int32) (v_changing : Int32) (v_overLow : FJ) (v_overHigh : FJ) (v_text : FI) (v_length : Int32) (v_at : Int32) (v_readKey : FI) (v_readCount : FJ) (v_keys : Int32) (v_h : Int64) (out : Int64 × FI × FJ × FJ × FJ × FJ × FJ × FJ × Int32 × Int32 × FJ × FJ) : State → Prop := MQ below (QW D k A (some (.long out.1)) [W_Model k b0 o0 v_row v_number v_saved out.2.1 out.2.2.1 out.2.2.2.1 out.2.2.2.2.1 out.2.2.2.2.2.1 out.2.2.2.2.2.2.1 out.2.2.2.2.2.2.2.1 out.2.2.2.2.2.2.2.2.1 out.2.2.2.2.2.2.2.2.2.1 out.2.2.2.2.2.2.2.2.2.2.1 out.2.2.2.2.2.2.2.2.2.2.2 v_text v_length v_at v_readKey v_readCount v_keys v_h].flatten) args s 0 0 A
set_option maxRecDepth 100000 in
set_option maxHeartbeats 1000000 in
theorem c_Model_estimate (l : Launch) (D : va_G) (k : Nat → ClassId) (t : Nat → Nat) (b0 : Nat → Nat) (o0 : Nat) (v_row : FI) (v_number : FJ) (v_saved : Int32) (v_place : FI) (v_low : FJ) (v_high : FJ) (v_lowBefore : FJ) (v_highBefore : FJ) (v_least : FJ) (v_greatest : FJ) (v_things : Int32) (v_changing : Int32) (v_overLow : FJ) (v_overHigh : FJ) (v_text : FI) (v_length : Int32) (v_at : Int32) (v_readKey : FI) (v_readCount : FJ) (v_keys : Int32) (v_h : Int64) (x1 : Int32) (x2 : Int32) (N : Nat) (out : Int64 × FI × FJ × FJ × FJ × FJ × FJ × FJ × Int32 × Int32 × FJ × FJ) (hf : f_Model_estimate N x1 x2 v_row v_number v_place v_low v_high v_lowBefore v_highBefore v_least v_greatest v_things v_changing v_overLow v_overHigh = some out) : CT l D k t yX8_estimate cX8_estimate 3 (some .long) rm_Model_estimate [.ref (b0 o0), .int x1, .int x2] [W_Model k b0 o0 v_row v_number v_saved v_place v_low v_high v_lowBefore v_highBefore v_least v_greatest v_things v_changing v_overLow v_overHigh v_text v_length v_at v_readKey v_readCount v_keys v_h].flatten (some (.long out.1)) [W_Model k b0 o0 v_row v_number v_saved out.2.1 out.2.2.1 out.2.2.2.1 out.2.2.2.2.1 out.2.2.2.2.2.1 out.2.2.2.2.2.2.1 out.2.2.2.2.2.2.2.1 out.2.2.2.2.2.2.2.2.1 out.2.2.2.2.2.2.2.2.2.1 out.2.2.2.2.2.2.2.2.2.2.1 out.2.2.2.2.2.2.2.2.2.2.2 v_text v_length v_at v_readKey v_readCount v_keys v_h].flatten := by
  refine kofW (by decide) (Nat.le_of_ble_eq_true rfl) ?_
  intro p e s m below meth c A ls X hP hD hS hl
  have hx := X.1.1
  have hb := X.1.2.1
  have hml := X.1.2.2.1
  have hown := X.1.2.2.2.1
  have hts := X.1.2.2.2.2
  have hl : lv_has ls 3 [(0, .ref (b0 o0)), (1, .int x1), (2, .int x2)] := hl
  rw [f_Model_estimate] at hf
  refine lv_iload_n hx hb dX8_estimate_0 rfl (lv_at hl 1 rfl) ?_
  obtain ⟨r1, hg_r1, hf⟩ := ofbind hf
  refine kcS (bs := [W_Model k b0 o0 v_row v_number v_saved v_place v_low v_high v_lowBefore v_highBefore v_least v_greatest v_things v_changing v_overLow v_overHigh v_text v_length v_at v_readKey v_readCount v_keys v_h]) (br := [W_Model k b0 o0 v_row v_number v_saved v_place v_low v_high v_lowBefore v_highBefore v_least v_greatest v_things v_changing v_overLow v_overHigh v_text v_length v_at v_readKey v_readCount v_keys v_h]) (bc := []) (bc' := []) X hP hD hS (c_Model_isBraid l D k t x1 r1 hg_r1) ms_X8_100 hl [0] [] ⟨rfl, rfl⟩ ⟨Nat.le_of_ble_eq_true rfl, Nat.le_of_ble_eq_true rfl⟩ rfl rfl rfl rfl (Nat.le_of_ble_eq_true rfl) dX8_estimate_1 (fun H locs hP hD hS => ?_)
  have hP : va_P D vwCl [W_Model k b0 o0 v_row v_number v_saved v_place v_low v_high v_lowBefore v_highBefore v_least v_greatest v_things v_changing v_overLow v_overHigh v_text v_length v_at v_readKey v_readCount v_keys v_h].flatten _ := hP
  have hD : va_D A [W_Model k b0 o0 v_row v_number v_saved v_place v_low v_high v_lowBefore v_highBefore v_least v_greatest v_things v_changing v_overLow v_overHigh v_text v_length v_at v_readKey v_readCount v_keys v_h].flatten := hD
  refine lv_if_eq (tgt := 15) hx hb dX8_estimate_4 (by decide) (fun hc => ?_) (fun hc => ?_)
  · have hf := ofpos hf hc
    refine lv_ldc2 (v := (-2)) hx hb hown (hts _ kc_X8_103) dX8_estimate_15 ?_
    have hf := Option.some.inj hf
    subst hf
    exact klret (v := (-2)) X hP hD hS dX8_estimate_18
  · have hf := ofneg hf hc
    refine lv_aload_n hx hb dX8_estimate_7 rfl (lv_at hl 0 rfl) ?_
    refine lv_iload_n hx hb dX8_estimate_8 rfl (lv_at hl 2 rfl) ?_
    obtain ⟨r2, hg_r2, hf⟩ := ofbind hf
    refine kcV (bs := [W_Model k b0 o0 v_row v_number v_saved v_place v_low v_high v_lowBefore v_highBefore v_least v_greatest v_things v_changing v_overLow v_overHigh v_text v_length v_at v_readKey v_readCount v_keys v_h]) (br := []) (bc := [W_Model k b0 o0 v_row v_number v_saved v_place v_low v_high v_lowBefore v_highBefore v_least v_greatest v_things v_changing v_overLow v_overHigh v_text v_length v_at v_readKey v_readCount v_keys v_h]) (bc' := [W_Model k b0 o0 v_row v_number v_saved v_place v_low v_high v_lowBefore v_highBefore v_least v_greatest v_things v_changing v_overLow v_overHigh v_text v_length v_at v_readKey v_readCount v_keys v_h]) X hP hD hS (c_Model_isFlow l D k t b0 o0 v_row v_number v_saved v_place v_low v_high v_lowBefore v_highBefore v_least v_greatest v_things v_changing v_overLow v_overHigh v_text v_length v_at v_readKey v_readCount v_keys v_h x2 r2 hg_r2) mv_X8_79 hl [] [0] 8 ⟨rfl, rfl⟩ ⟨Nat.le_of_ble_eq_true rfl, Nat.le_of_ble_eq_true rfl⟩ rfl rfl rfl rfl rfl rfl rfl (Nat.le_of_ble_eq_true rfl) dX8_estimate_9 (fun H locs hP hD hS => ?_)
    have hP : va_P D vwCl [W_Model k b0 o0 v_row v_number v_saved v_place v_low v_high v_lowBefore v_highBefore v_least v_greatest v_things v_changing v_overLow v_overHigh v_text v_length v_at v_readKey v_readCount v_keys v_h].flatten _ := hP
    have hD : va_D A [W_Model k b0 o0 v_row v_number v_saved v_place v_low v_high v_lowBefore v_highBefore v_least v_greatest v_things v_changing v_overLow v_overHigh v_text v_length v_at v_readKey v_readCount v_keys v_h].flatten := hD
    refine lv_if_ne (tgt := 19) hx hb dX8_estimate_12 (by decide) (fun hc => ?_) (fun hc => ?_)
    · have hf := ofneg hf hc
      refine lv_aload_n hx hb dX8_estimate_19 rfl (lv_at hl 0 rfl) ?_
      refine lv_iload_n hx hb dX8_estimate_20 rfl (lv_at hl 1 rfl) ?_
      refine lv_aload_n hx hb dX8_estimate_21 rfl (lv_at hl 0 rfl) ?_
      refine kget (v := .ref (b0 (o0+1))) X hP ff_X8_7 0 rfl rfl dX8_estimate_22 ?_
      refine lv_iconst (v := 5) hx hb dX8_estimate_25 (by decide) ?_
      obtain ⟨hc, hf⟩ := ofck hf
      refine kiald (f := v_row) (n := 1002) X hP 1 rfl hc dX8_estimate_26 ?_
      obtain ⟨r3, hg_r3, hf⟩ := ofbind hf
      refine kcV (bs := [W_Model k b0 o0 v_row v_number v_saved v_place v_low v_high v_lowBefore v_highBefore v_least v_greatest v_things v_changing v_overLow v_overHigh v_text v_length v_at v_readKey v_readCount v_keys v_h]) (br := []) (bc := [W_Model k b0 o0 v_row v_number v_saved v_place v_low v_high v_lowBefore v_highBefore v_least v_greatest v_things v_changing v_overLow v_overHigh v_text v_length v_at v_readKey v_readCount v_keys v_h]) (bc' := [W_Model k b0 o0 v_row v_number v_saved r3.1 r3.2.1 r3.2.2.1 r3.2.2.2.1 r3.2.2.2.2.1 r3.2.2.2.2.2.1 r3.2.2.2.2.2.2.1 r3.2.2.2.2.2.2.2.1 r3.2.2.2.2.2.2.2.2.1 r3.2.2.2.2.2.2.2.2.2.1 r3.2.2.2.2.2.2.2.2.2.2 v_text v_length v_at v_readKey v_readCount v_keys v_h]) X hP hD hS (c_Model_findsFlows l D k t b0 o0 v_row v_number v_saved v_place v_low v_high v_lowBefore v_highBefore v_least v_greatest v_things v_changing v_overLow v_overHigh v_text v_length v_at v_readKey v_readCount v_keys v_h x1 (v_row (5 : Int32).toNatClampNeg) N r3 hg_r3) mv_X8_153 hl [] [0] 8 ⟨rfl, rfl⟩ ⟨Nat.le_of_ble_eq_true rfl, Nat.le_of_ble_eq_true rfl⟩ rfl rfl rfl rfl rfl rfl rfl (Nat.le_of_ble_eq_true rfl) dX8_estimate_27 (fun H locs hP hD hS => ?_)
      have hP : va_P D vwCl [W_Model k b0 o0 v_row v_number v_saved r3.1 r3.2.1 r3.2.2.1 r3.2.2.2.1 r3.2.2.2.2.1 r3.2.2.2.2.2.1 r3.2.2.2.2.2.2.1 r3.2.2.2.2.2.2.2.1 r3.2.2.2.2.2.2.2.2.1 r3.2.2.2.2.2.2.2.2.2.1 r3.2.2.2.2.2.2.2.2.2.2 v_text v_length v_at v_readKey v_readCount v_keys v_h].flatten _ := hP
      have hD : va_D A [W_Model k b0 o0 v_row v_number v_saved r3.1 r3.2.1 r3.2.2.1 r3.2.2.2.1 r3.2.2.2.2.1 r3.2.2.2.2.2.1 r3.2.2.2.2.2.2.1 r3.2.2.2.2.2.2.2.1 r3.2.2.2.2.2.2.2.2.1 r3.2.2.2.2.2.2.2.2.2.1 r3.2.2.2.2.2.2.2.2.2.2 v_text v_length v_at v_readKey v_readCount v_keys v_h].flatten := hD
      refine lv_aload_n hx hb dX8_estimate_30 rfl (lv_at hl 0 rfl) ?_
      refine kget (v := .ref (b0 (o0+4))) X hP ff_X8_20 0 rfl rfl dX8_estimate_31 ?_
      refine lv_iload_n hx hb dX8_estimate_34 rfl (lv_at hl 2 rfl) ?_
      obtain ⟨hc, hf⟩ := ofck hf
      refine klald (f := r3.2.1) (n := 24) X hP 4 rfl hc dX8_estimate_35 ?_
      refine lv_aload_n hx hb dX8_estimate_36 rfl (lv_at hl 0 rfl) ?_
      refine kget (v := .ref (b0 (o0+5))) X hP ff_X8_23 0 rfl rfl dX8_estimate_37 ?_
      refine lv_iload_n hx hb dX8_estimate_40 rfl (lv_at hl 2 rfl) ?_
      obtain ⟨hc, hf⟩ := ofck hf
      refine klald (f := r3.2.2.1) (n := 24) X hP 5 rfl hc dX8_estimate_41 ?_
      refine lv_ladd hx hb dX8_estimate_42 ?_
      refine lv_ldc2 (v := 2) hx hb hown (hts _ kc_X8_163) dX8_estimate_43 ?_
      refine lv_ldiv hx hb dX8_estimate_46 (by decide) ?_
      have hf := Option.some.inj hf
      subst hf
      exact klret (v := ((r3.2.1 x2.toNatClampNeg) + (r3.2.2.1 x2.toNatClampNeg)) / 2) X hP hD hS dX8_estimate_47
    · have hf := ofpos hf hc
      refine lv_ldc2 (v := (-2)) hx hb hown (hts _ kc_X8_103) dX8_estimate_15 ?_
      have hf := Option.some.inj hf
      subst hf
      exact klret (v := (-2)) X hP hD hS dX8_estimate_18
/-! Model_leastPlace: public long leastPlace(int, int); -/
abbrev rm_Model_leastPlace : Room := ({ frames := 6, cells := 0, slots := 0, locals := 147 } : Room)
def f_Model_leastPlace (N : Nat) (x1 : Int32) (x2 : Int32) (v_row : FI) (v_number : FJ) (v_place : FI) (v_low : FJ) (v_high : FJ) (v_lowBefore : FJ) (v_highBefore : FJ) (v_least : FJ) (v_greatest : FJ) (v_things : Int32) (v_changing : Int32) (v_overLow : FJ) (v_overHigh : FJ) : Option (Int64 × FI × FJ × FJ × FJ × FJ × FJ × FJ × Int32 × Int32 × FJ × FJ) := (f_Model_isBraid x1).bind (fun r1 => if r1 = 0 then some ((-2), v_place, v_low, v_high, v_lowBefore, v_highBefore, v_least, v_greatest, v_things, v_changing, v_overLow, v_overHigh) else (f_Model_isFlow x2 v_row).bind (fun r2 => if r2 = 0 then some ((-2), v_place, v_low, v_high, v_lowBefore, v_highBefore, v_least, v_greatest, v_things, v_changing, v_overLow, v_overHigh) else (f_Model_boundOf N x1 x2 1 0 v_row v_number v_place v_low v_high v_lowBefore v_highBefore v_least v_greatest v_things v_changing v_overLow v_overHigh).bind (fun r3 => some (r3.1, r3.2.1, r3.2.2.1, r3.2.2.2.1, r3.2.2.2.2.1, r3.2.2.2.2.2.1, r3.2.2.2.2.2.2.1, r3.2.2.2.2.2.2.2.1, r3.2.2.2.2.2.2.2.2.1, r3.2.2.2.2.2.2.2.2.2.1, r3.2.2.2.2.2.2.2.2.2.2.1, r3.2.2.2.2.2.2.2.2.2.2.2))))
abbrev Q_Model_leastPlace (below : List Frame) (D : va_G) (k : Nat → ClassId) (A : Nat → Prop) (args : Array Value) (s : State) (b0 : Nat → Nat) (o0 : Nat) (v_row : FI) (v_number : FJ) (v_saved : Int32) (v_place : FI) (v_low : FJ) (v_high : FJ) (v_lowBefore : FJ) (v_highBefore : FJ) (v_least : FJ) (v_greatest : FJ) (v_things : Int32) (v_changing : Int32) (v_overLow : FJ) (v_overHigh : FJ) (v_text : FI) (v_length : Int32) (v_at : Int32) (v_readKey : FI) (v_readCount : FJ) (v_keys : Int32) (v_h : Int64) (out : Int64 × FI × FJ × FJ × FJ × FJ × FJ × FJ × Int32 × Int32 × FJ × FJ) : State → Prop := MQ below (QW D k A (some (.long out.1)) [W_Model k b0 o0 v_row v_number v_saved out.2.1 out.2.2.1 out.2.2.2.1 out.2.2.2.2.1 out.2.2.2.2.2.1 out.2.2.2.2.2.2.1 out.2.2.2.2.2.2.2.1 out.2.2.2.2.2.2.2.2.1 out.2.2.2.2.2.2.2.2.2.1 out.2.2.2.2.2.2.2.2.2.2.1 out.2.2.2.2.2.2.2.2.2.2.2 v_text v_length v_at v_readKey v_readCount v_keys v_h].flatten) args s 0 0 A
set_option maxRecDepth 100000 in
set_option maxHeartbeats 1000000 in
theorem c_Model_leastPlace (l : Launch) (D : va_G) (k : Nat → ClassId) (t : Nat → Nat) (b0 : Nat → Nat) (o0 : Nat) (v_row : FI) (v_number : FJ) (v_saved : Int32) (v_place : FI) (v_low : FJ) (v_high : FJ) (v_lowBefore : FJ) (v_highBefore : FJ) (v_least : FJ) (v_greatest : FJ) (v_things : Int32) (v_changing : Int32) (v_overLow : FJ) (v_overHigh : FJ) (v_text : FI) (v_length : Int32) (v_at : Int32) (v_readKey : FI) (v_readCount : FJ) (v_keys : Int32) (v_h : Int64) (x1 : Int32) (x2 : Int32) (N : Nat) (out : Int64 × FI × FJ × FJ × FJ × FJ × FJ × FJ × Int32 × Int32 × FJ × FJ) (hf : f_Model_leastPlace N x1 x2 v_row v_number v_place v_low v_high v_lowBefore v_highBefore v_least v_greatest v_things v_changing v_overLow v_overHigh = some out) : CT l D k t yX8_leastPlace cX8_leastPlace 3 (some .long) rm_Model_leastPlace [.ref (b0 o0), .int x1, .int x2] [W_Model k b0 o0 v_row v_number v_saved v_place v_low v_high v_lowBefore v_highBefore v_least v_greatest v_things v_changing v_overLow v_overHigh v_text v_length v_at v_readKey v_readCount v_keys v_h].flatten (some (.long out.1)) [W_Model k b0 o0 v_row v_number v_saved out.2.1 out.2.2.1 out.2.2.2.1 out.2.2.2.2.1 out.2.2.2.2.2.1 out.2.2.2.2.2.2.1 out.2.2.2.2.2.2.2.1 out.2.2.2.2.2.2.2.2.1 out.2.2.2.2.2.2.2.2.2.1 out.2.2.2.2.2.2.2.2.2.2.1 out.2.2.2.2.2.2.2.2.2.2.2 v_text v_length v_at v_readKey v_readCount v_keys v_h].flatten := by
  refine kofW (by decide) (Nat.le_of_ble_eq_true rfl) ?_
  intro p e s m below meth c A ls X hP hD hS hl
  have hx := X.1.1
  have hb := X.1.2.1
  have hml := X.1.2.2.1
  have hown := X.1.2.2.2.1
  have hts := X.1.2.2.2.2
  have hl : lv_has ls 3 [(0, .ref (b0 o0)), (1, .int x1), (2, .int x2)] := hl
  rw [f_Model_leastPlace] at hf
  refine lv_iload_n hx hb dX8_leastPlace_0 rfl (lv_at hl 1 rfl) ?_
  obtain ⟨r1, hg_r1, hf⟩ := ofbind hf
  refine kcS (bs := [W_Model k b0 o0 v_row v_number v_saved v_place v_low v_high v_lowBefore v_highBefore v_least v_greatest v_things v_changing v_overLow v_overHigh v_text v_length v_at v_readKey v_readCount v_keys v_h]) (br := [W_Model k b0 o0 v_row v_number v_saved v_place v_low v_high v_lowBefore v_highBefore v_least v_greatest v_things v_changing v_overLow v_overHigh v_text v_length v_at v_readKey v_readCount v_keys v_h]) (bc := []) (bc' := []) X hP hD hS (c_Model_isBraid l D k t x1 r1 hg_r1) ms_X8_100 hl [0] [] ⟨rfl, rfl⟩ ⟨Nat.le_of_ble_eq_true rfl, Nat.le_of_ble_eq_true rfl⟩ rfl rfl rfl rfl (Nat.le_of_ble_eq_true rfl) dX8_leastPlace_1 (fun H locs hP hD hS => ?_)
  have hP : va_P D vwCl [W_Model k b0 o0 v_row v_number v_saved v_place v_low v_high v_lowBefore v_highBefore v_least v_greatest v_things v_changing v_overLow v_overHigh v_text v_length v_at v_readKey v_readCount v_keys v_h].flatten _ := hP
  have hD : va_D A [W_Model k b0 o0 v_row v_number v_saved v_place v_low v_high v_lowBefore v_highBefore v_least v_greatest v_things v_changing v_overLow v_overHigh v_text v_length v_at v_readKey v_readCount v_keys v_h].flatten := hD
  refine lv_if_eq (tgt := 26) hx hb dX8_leastPlace_4 (by decide) (fun hc => ?_) (fun hc => ?_)
  · have hf := ofpos hf hc
    refine lv_ldc2 (v := (-2)) hx hb hown (hts _ kc_X8_103) dX8_leastPlace_26 ?_
    have hf := Option.some.inj hf
    subst hf
    exact klret (v := (-2)) X hP hD hS dX8_leastPlace_29
  · have hf := ofneg hf hc
    refine lv_aload_n hx hb dX8_leastPlace_7 rfl (lv_at hl 0 rfl) ?_
    refine lv_iload_n hx hb dX8_leastPlace_8 rfl (lv_at hl 2 rfl) ?_
    obtain ⟨r2, hg_r2, hf⟩ := ofbind hf
    refine kcV (bs := [W_Model k b0 o0 v_row v_number v_saved v_place v_low v_high v_lowBefore v_highBefore v_least v_greatest v_things v_changing v_overLow v_overHigh v_text v_length v_at v_readKey v_readCount v_keys v_h]) (br := []) (bc := [W_Model k b0 o0 v_row v_number v_saved v_place v_low v_high v_lowBefore v_highBefore v_least v_greatest v_things v_changing v_overLow v_overHigh v_text v_length v_at v_readKey v_readCount v_keys v_h]) (bc' := [W_Model k b0 o0 v_row v_number v_saved v_place v_low v_high v_lowBefore v_highBefore v_least v_greatest v_things v_changing v_overLow v_overHigh v_text v_length v_at v_readKey v_readCount v_keys v_h]) X hP hD hS (c_Model_isFlow l D k t b0 o0 v_row v_number v_saved v_place v_low v_high v_lowBefore v_highBefore v_least v_greatest v_things v_changing v_overLow v_overHigh v_text v_length v_at v_readKey v_readCount v_keys v_h x2 r2 hg_r2) mv_X8_79 hl [] [0] 8 ⟨rfl, rfl⟩ ⟨Nat.le_of_ble_eq_true rfl, Nat.le_of_ble_eq_true rfl⟩ rfl rfl rfl rfl rfl rfl rfl (Nat.le_of_ble_eq_true rfl) dX8_leastPlace_9 (fun H locs hP hD hS => ?_)
    have hP : va_P D vwCl [W_Model k b0 o0 v_row v_number v_saved v_place v_low v_high v_lowBefore v_highBefore v_least v_greatest v_things v_changing v_overLow v_overHigh v_text v_length v_at v_readKey v_readCount v_keys v_h].flatten _ := hP
    have hD : va_D A [W_Model k b0 o0 v_row v_number v_saved v_place v_low v_high v_lowBefore v_highBefore v_least v_greatest v_things v_changing v_overLow v_overHigh v_text v_length v_at v_readKey v_readCount v_keys v_h].flatten := hD
    refine lv_if_eq (tgt := 26) hx hb dX8_leastPlace_12 (by decide) (fun hc => ?_) (fun hc => ?_)
    · have hf := ofpos hf hc
      refine lv_ldc2 (v := (-2)) hx hb hown (hts _ kc_X8_103) dX8_leastPlace_26 ?_
      have hf := Option.some.inj hf
      subst hf
      exact klret (v := (-2)) X hP hD hS dX8_leastPlace_29
    · have hf := ofneg hf hc
      refine lv_aload_n hx hb dX8_leastPlace_15 rfl (lv_at hl 0 rfl) ?_
      refine lv_iload_n hx hb dX8_leastPlace_16 rfl (lv_at hl 1 rfl) ?_
      refine lv_iload_n hx hb dX8_leastPlace_17 rfl (lv_at hl 2 rfl) ?_
      refine lv_iconst (v := 1) hx hb dX8_leastPlace_18 (by decide) ?_
      refine lv_iconst (v := 0) hx hb dX8_leastPlace_19 (by decide) ?_
      obtain ⟨r3, hg_r3, hf⟩ := ofbind hf
      refine kcV (bs := [W_Model k b0 o0 v_row v_number v_saved v_place v_low v_high v_lowBefore v_highBefore v_least v_greatest v_things v_changing v_overLow v_overHigh v_text v_length v_at v_readKey v_readCount v_keys v_h]) (br := []) (bc := [W_Model k b0 o0 v_row v_number v_saved v_place v_low v_high v_lowBefore v_highBefore v_least v_greatest v_things v_changing v_overLow v_overHigh v_text v_length v_at v_readKey v_readCount v_keys v_h]) (bc' := [W_Model k b0 o0 v_row v_number v_saved r3.2.1 r3.2.2.1 r3.2.2.2.1 r3.2.2.2.2.1 r3.2.2.2.2.2.1 r3.2.2.2.2.2.2.1 r3.2.2.2.2.2.2.2.1 r3.2.2.2.2.2.2.2.2.1 r3.2.2.2.2.2.2.2.2.2.1 r3.2.2.2.2.2.2.2.2.2.2.1 r3.2.2.2.2.2.2.2.2.2.2.2 v_text v_length v_at v_readKey v_readCount v_keys v_h]) X hP hD hS (c_Model_boundOf l D k t b0 o0 v_row v_number v_saved v_place v_low v_high v_lowBefore v_highBefore v_least v_greatest v_things v_changing v_overLow v_overHigh v_text v_length v_at v_readKey v_readCount v_keys v_h x1 x2 1 0 N r3 hg_r3) mv_X8_156 hl [] [0] 8 ⟨rfl, rfl⟩ ⟨Nat.le_of_ble_eq_true rfl, Nat.le_of_ble_eq_true rfl⟩ rfl rfl rfl rfl rfl rfl rfl (Nat.le_of_ble_eq_true rfl) dX8_leastPlace_20 (fun H locs hP hD hS => ?_)
      have hP : va_P D vwCl [W_Model k b0 o0 v_row v_number v_saved r3.2.1 r3.2.2.1 r3.2.2.2.1 r3.2.2.2.2.1 r3.2.2.2.2.2.1 r3.2.2.2.2.2.2.1 r3.2.2.2.2.2.2.2.1 r3.2.2.2.2.2.2.2.2.1 r3.2.2.2.2.2.2.2.2.2.1 r3.2.2.2.2.2.2.2.2.2.2.1 r3.2.2.2.2.2.2.2.2.2.2.2 v_text v_length v_at v_readKey v_readCount v_keys v_h].flatten _ := hP
      have hD : va_D A [W_Model k b0 o0 v_row v_number v_saved r3.2.1 r3.2.2.1 r3.2.2.2.1 r3.2.2.2.2.1 r3.2.2.2.2.2.1 r3.2.2.2.2.2.2.1 r3.2.2.2.2.2.2.2.1 r3.2.2.2.2.2.2.2.2.1 r3.2.2.2.2.2.2.2.2.2.1 r3.2.2.2.2.2.2.2.2.2.2.1 r3.2.2.2.2.2.2.2.2.2.2.2 v_text v_length v_at v_readKey v_readCount v_keys v_h].flatten := hD
      refine lv_goto (tgt := 29) hx hb dX8_leastPlace_23 (by decide) ?_
      have hf := Option.some.inj hf
      subst hf
      exact klret (v := r3.1) X hP hD hS dX8_leastPlace_29
/-! Model_widest: public int widest(int); -/
abbrev rm_Model_widest : Room := ({ frames := 5, cells := 0, slots := 0, locals := 123 } : Room)
def f_Model_widest_J66 (j17 : Int64) (j18 : Int32) (t19 : Int32) (c21 : FJ) (c22 : FJ) (B28 : Int32 → Int64 → Int32 → Option (Int32 × FI × FJ × FJ × FJ × FJ × FJ × FJ × Int32 × Int32 × FJ × FJ)) : Option (Int32 × FI × FJ × FJ × FJ × FJ × FJ × FJ × Int32 × Int32 × FJ × FJ) := if ck j18 24 = true then if ck j18 24 = true then if ((c22 j18.toNatClampNeg) - (c21 j18.toNatClampNeg)) ≤ j17 then B28 t19 j17 (j18 + 1) else if ck j18 24 = true then if ck j18 24 = true then B28 t19 ((c22 j18.toNatClampNeg) - (c21 j18.toNatClampNeg)) (j18 + 1) else none else none else none else none
def f_Model_widest_L28 (c7 : FJ) (c8 : FJ) (v_row : FI) (K113 : Int32 → Int64 → Int32 → Option (Int32 × FI × FJ × FJ × FJ × FJ × FJ × FJ × Int32 × Int32 × FJ × FJ)) : Nat → Int32 → Int64 → Int32 → Option (Int32 × FI × FJ × FJ × FJ × FJ × FJ × FJ × Int32 × Int32 × FJ × FJ)
  | 0, _, _, _ => none
  | n + 1, i3, i4, i5 => if ck 6 1002 = true then if (v_row (6 : Int32).toNatClampNeg) ≤ i5 then K113 i3 i4 i5 else if ck i5 24 = true then if ck i5 24 = true then if ((c8 i5.toNatClampNeg) - (c7 i5.toNatClampNeg)) ≤ i4 then f_Model_widest_J66 i4 i5 i3 c7 c8 (f_Model_widest_L28 c7 c8 v_row K113 n) else f_Model_widest_J66 i4 i5 i5 c7 c8 (f_Model_widest_L28 c7 c8 v_row K113 n) else none else none else none
def f_Model_widest (N : Nat) (x1 : Int32) (v_row : FI) (v_number : FJ) (v_place : FI) (v_low : FJ) (v_high : FJ) (v_lowBefore : FJ) (v_highBefore : FJ) (v_least : FJ) (v_greatest : FJ) (v_things : Int32) (v_changing : Int32) (v_overLow : FJ) (v_overHigh : FJ) : Option (Int32 × FI × FJ × FJ × FJ × FJ × FJ × FJ × Int32 × Int32 × FJ × FJ) := (f_Model_isBraid x1).bind (fun r1 => if r1 = 0 then some ((-2), v_place, v_low, v_high, v_lowBefore, v_highBefore, v_least, v_greatest, v_things, v_changing, v_overLow, v_overHigh) else if ck 5 1002 = true then (f_Model_findsFlows N x1 (v_row (5 : Int32).toNatClampNeg) v_row v_number v_place v_low v_high v_lowBefore v_highBefore v_least v_greatest v_things v_changing v_overLow v_overHigh).bind (fun r2 => f_Model_widest_L28 r2.2.1 r2.2.2.1 v_row (fun i31 i32 i33 => some (i31, r2.1, r2.2.1, r2.2.2.1, r2.2.2.2.1, r2.2.2.2.2.1, r2.2.2.2.2.2.1, r2.2.2.2.2.2.2.1, r2.2.2.2.2.2.2.2.1, r2.2.2.2.2.2.2.2.2.1, r2.2.2.2.2.2.2.2.2.2.1, r2.2.2.2.2.2.2.2.2.2.2)) N (-1) 0 0) else none)
abbrev Q_Model_widest (below : List Frame) (D : va_G) (k : Nat → ClassId) (A : Nat → Prop) (args : Array Value) (s : State) (b0 : Nat → Nat) (o0 : Nat) (v_row : FI) (v_number : FJ) (v_saved : Int32) (v_place : FI) (v_low : FJ) (v_high : FJ) (v_lowBefore : FJ) (v_highBefore : FJ) (v_least : FJ) (v_greatest : FJ) (v_things : Int32) (v_changing : Int32) (v_overLow : FJ) (v_overHigh : FJ) (v_text : FI) (v_length : Int32) (v_at : Int32) (v_readKey : FI) (v_readCount : FJ) (v_keys : Int32) (v_h : Int64) (out : Int32 × FI × FJ × FJ × FJ × FJ × FJ × FJ × Int32 × Int32 × FJ × FJ) : State → Prop := MQ below (QW D k A (some (.int out.1)) [W_Model k b0 o0 v_row v_number v_saved out.2.1 out.2.2.1 out.2.2.2.1 out.2.2.2.2.1 out.2.2.2.2.2.1 out.2.2.2.2.2.2.1 out.2.2.2.2.2.2.2.1 out.2.2.2.2.2.2.2.2.1 out.2.2.2.2.2.2.2.2.2.1 out.2.2.2.2.2.2.2.2.2.2.1 out.2.2.2.2.2.2.2.2.2.2.2 v_text v_length v_at v_readKey v_readCount v_keys v_h].flatten) args s 0 0 A
set_option maxRecDepth 100000 in
set_option maxHeartbeats 1000000 in
theorem w_Model_widest_J66 {p : Program} {l : Launch} {e : Env} {s : State} {m : MethodId} {below : List Frame} {meth : Method} {c : Code} {args : Array Value} {A : Nat → Prop} {D : va_G} {k : Nat → ClassId} {t : Nat → Nat} (X : BX l D k t p s m args meth c cX8_widest 6 RX8 (some .int) A) (b0 : Nat → Nat) (o0 : Nat) (v_row : FI) (v_number : FJ) (v_saved : Int32) (v_place : FI) (v_low : FJ) (v_high : FJ) (v_lowBefore : FJ) (v_highBefore : FJ) (v_least : FJ) (v_greatest : FJ) (v_things : Int32) (v_changing : Int32) (v_overLow : FJ) (v_overHigh : FJ) (v_text : FI) (v_length : Int32) (v_at : Int32) (v_readKey : FI) (v_readCount : FJ) (v_keys : Int32) (v_h : Int64) (N : Nat) (j17 : Int64) (j18 : Int32) (t19 : Int32) (c20 : FI) (c21 : FJ) (c22 : FJ) (c23 : FJ) (c24 : FJ) (c25 : FJ) (c26 : FJ) (c27 : Int32) (c28 : Int32) (c29 : FJ) (c30 : FJ) (out : Int32 × FI × FJ × FJ × FJ × FJ × FJ × FJ × Int32 × Int32 × FJ × FJ) (B28 : Int32 → Int64 → Int32 → Option (Int32 × FI × FJ × FJ × FJ × FJ × FJ × FJ × Int32 × Int32 × FJ × FJ)) (hB28 : ∀ (i3' : Int32) (i4' : Int64) (i5' : Int32) (H : Heap) (locs : List Loc) (ls : Array Slot), va_P D vwCl [W_Model k b0 o0 v_row v_number v_saved c20 c21 c22 c23 c24 c25 c26 c27 c28 c29 c30 v_text v_length v_at v_readKey v_readCount v_keys v_h].flatten H → va_D A [W_Model k b0 o0 v_row v_number v_saved c20 c21 c22 c23 c24 c25 c26 c27 c28 c29 c30 v_text v_length v_at v_readKey v_readCount v_keys v_h].flatten → va_S A s.heap H locs → lv_has ls 6 [(0, .ref (b0 o0)), (2, .int i3'), (3, .long i4'), (5, .int i5')] → B28 i3' i4' i5' = some out → W p l e rm_Model_widest s m args below meth c H locs 0 0 (Q_Model_widest below D k A args s b0 o0 v_row v_number v_saved v_place v_low v_high v_lowBefore v_highBefore v_least v_greatest v_things v_changing v_overLow v_overHigh v_text v_length v_at v_readKey v_readCount v_keys v_h out) (F0 m 28 ls [])) : ∀ (H : Heap) (locs : List Loc) (ls : Array Slot), va_P D vwCl [W_Model k b0 o0 v_row v_number v_saved c20 c21 c22 c23 c24 c25 c26 c27 c28 c29 c30 v_text v_length v_at v_readKey v_readCount v_keys v_h].flatten H → va_D A [W_Model k b0 o0 v_row v_number v_saved c20 c21 c22 c23 c24 c25 c26 c27 c28 c29 c30 v_text v_length v_at v_readKey v_readCount v_keys v_h].flatten → va_S A s.heap H locs → lv_has ls 6 [(0, .ref (b0 o0)), (3, .long j17), (5, .int j18)] → f_Model_widest_J66 j17 j18 t19 c21 c22 B28 = some out → W p l e rm_Model_widest s m args below meth c H locs 0 0 (Q_Model_widest below D k A args s b0 o0 v_row v_number v_saved v_place v_low v_high v_lowBefore v_highBefore v_least v_greatest v_things v_changing v_overLow v_overHigh v_text v_length v_at v_readKey v_readCount v_keys v_h out) (F0 m 66 ls [.int t19]) := by
  have hx := X.1.1
  have hb := X.1.2.1
  have hml := X.1.2.2.1
  have hown := X.1.2.2.2.1
  have hts := X.1.2.2.2.2
  intro H locs ls hP hD hS hl hf
  rw [f_Model_widest_J66] at hf
  refine lv_istore_n (lv' := [(2, .int t19), (0, .ref (b0 o0)), (3, .long j17), (5, .int j18)]) hx hb dX8_widest_66 rfl hl (by decide) rfl (fun ls hl => ?_)
  refine lv_aload_n hx hb dX8_widest_67 rfl (lv_at hl 1 rfl) ?_
  refine kget (v := .ref (b0 (o0+5))) X hP ff_X8_23 0 rfl rfl dX8_widest_68 ?_
  refine lv_iload hx hb dX8_widest_71 (lv_at hl 3 rfl) ?_
  obtain ⟨hc, hf⟩ := ofck hf
  refine klald (f := c22) (n := 24) X hP 5 rfl hc dX8_widest_73 ?_
  refine lv_aload_n hx hb dX8_widest_74 rfl (lv_at hl 1 rfl) ?_
  refine kget (v := .ref (b0 (o0+4))) X hP ff_X8_20 0 rfl rfl dX8_widest_75 ?_
  refine lv_iload hx hb dX8_widest_78 (lv_at hl 3 rfl) ?_
  obtain ⟨hc, hf⟩ := ofck hf
  refine klald (f := c21) (n := 24) X hP 4 rfl hc dX8_widest_80 ?_
  refine lv_lsub hx hb dX8_widest_81 ?_
  refine lv_lload_n hx hb dX8_widest_82 rfl (lv_at hl 2 rfl) ?_
  refine W.lcmp hx hb dX8_widest_83 ?_
  refine lv_if_le (tgt := 105) hx hb dX8_widest_84 (by decide) (fun hc => ?_) (fun hc => ?_)
  · have hc := lgm.mp hc
    have hf := ofpos hf hc
    refine lv_lload_n hx hb dX8_widest_105 rfl (lv_at hl 2 rfl) ?_
    refine lv_lstore_n (lv' := [(3, .long j17), (2, .int t19), (0, .ref (b0 o0)), (5, .int j18)]) hx hb dX8_widest_106 rfl hl (by decide) rfl (fun ls hl => ?_)
    refine lv_iinc (v := j18 + 1) (lv' := [(5, .int (j18 + 1)), (3, .long j17), (2, .int t19), (0, .ref (b0 o0))]) hx hb dX8_widest_107 hl (k := 3) rfl rfl (by decide) rfl (fun ls hl => ?_)
    refine lv_goto (tgt := 28) hx hb dX8_widest_110 (by decide) ?_
    exact hB28 t19 j17 (j18 + 1) _ _ _ hP hD hS (lv_sub hl [3, 2, 1, 0] rfl) hf
  · have hc := fun z => hc (lgm.mpr z)
    have hf := ofneg hf hc
    refine lv_aload_n hx hb dX8_widest_87 rfl (lv_at hl 1 rfl) ?_
    refine kget (v := .ref (b0 (o0+5))) X hP ff_X8_23 0 rfl rfl dX8_widest_88 ?_
    refine lv_iload hx hb dX8_widest_91 (lv_at hl 3 rfl) ?_
    obtain ⟨hc, hf⟩ := ofck hf
    refine klald (f := c22) (n := 24) X hP 5 rfl hc dX8_widest_93 ?_
    refine lv_aload_n hx hb dX8_widest_94 rfl (lv_at hl 1 rfl) ?_
    refine kget (v := .ref (b0 (o0+4))) X hP ff_X8_20 0 rfl rfl dX8_widest_95 ?_
    refine lv_iload hx hb dX8_widest_98 (lv_at hl 3 rfl) ?_
    obtain ⟨hc, hf⟩ := ofck hf
    refine klald (f := c21) (n := 24) X hP 4 rfl hc dX8_widest_100 ?_
    refine lv_lsub hx hb dX8_widest_101 ?_
    refine lv_goto (tgt := 106) hx hb dX8_widest_102 (by decide) ?_
    refine lv_lstore_n (lv' := [(3, .long ((c22 j18.toNatClampNeg) - (c21 j18.toNatClampNeg))), (2, .int t19), (0, .ref (b0 o0)), (5, .int j18)]) hx hb dX8_widest_106 rfl hl (by decide) rfl (fun ls hl => ?_)
    refine lv_iinc (v := j18 + 1) (lv' := [(5, .int (j18 + 1)), (3, .long ((c22 j18.toNatClampNeg) - (c21 j18.toNatClampNeg))), (2, .int t19), (0, .ref (b0 o0))]) hx hb dX8_widest_107 hl (k := 3) rfl rfl (by decide) rfl (fun ls hl => ?_)
    refine lv_goto (tgt := 28) hx hb dX8_widest_110 (by decide) ?_
    exact hB28 t19 ((c22 j18.toNatClampNeg) - (c21 j18.toNatClampNeg)) (j18 + 1) _ _ _ hP hD hS (lv_sub hl [3, 2, 1, 0] rfl) hf
set_option maxRecDepth 100000 in
set_option maxHeartbeats 1000000 in
theorem w_Model_widest_L28 {p : Program} {l : Launch} {e : Env} {s : State} {m : MethodId} {below : List Frame} {meth : Method} {c : Code} {args : Array Value} {A : Nat → Prop} {D : va_G} {k : Nat → ClassId} {t : Nat → Nat} (X : BX l D k t p s m args meth c cX8_widest 6 RX8 (some .int) A) (b0 : Nat → Nat) (o0 : Nat) (v_row : FI) (v_number : FJ) (v_saved : Int32) (v_place : FI) (v_low : FJ) (v_high : FJ) (v_lowBefore : FJ) (v_highBefore : FJ) (v_least : FJ) (v_greatest : FJ) (v_things : Int32) (v_changing : Int32) (v_overLow : FJ) (v_overHigh : FJ) (v_text : FI) (v_length : Int32) (v_at : Int32) (v_readKey : FI) (v_readCount : FJ) (v_keys : Int32) (v_h : Int64) (N : Nat) (c6 : FI) (c7 : FJ) (c8 : FJ) (c9 : FJ) (c10 : FJ) (c11 : FJ) (c12 : FJ) (c13 : Int32) (c14 : Int32) (c15 : FJ) (c16 : FJ) (out : Int32 × FI × FJ × FJ × FJ × FJ × FJ × FJ × Int32 × Int32 × FJ × FJ) (K113 : Int32 → Int64 → Int32 → Option (Int32 × FI × FJ × FJ × FJ × FJ × FJ × FJ × Int32 × Int32 × FJ × FJ)) (hK113 : ∀ (i3' : Int32) (i4' : Int64) (i5' : Int32) (H : Heap) (locs : List Loc) (ls : Array Slot), va_P D vwCl [W_Model k b0 o0 v_row v_number v_saved c6 c7 c8 c9 c10 c11 c12 c13 c14 c15 c16 v_text v_length v_at v_readKey v_readCount v_keys v_h].flatten H → va_D A [W_Model k b0 o0 v_row v_number v_saved c6 c7 c8 c9 c10 c11 c12 c13 c14 c15 c16 v_text v_length v_at v_readKey v_readCount v_keys v_h].flatten → va_S A s.heap H locs → lv_has ls 6 [(2, .int i3')] → K113 i3' i4' i5' = some out → W p l e rm_Model_widest s m args below meth c H locs 0 0 (Q_Model_widest below D k A args s b0 o0 v_row v_number v_saved v_place v_low v_high v_lowBefore v_highBefore v_least v_greatest v_things v_changing v_overLow v_overHigh v_text v_length v_at v_readKey v_readCount v_keys v_h out) (F0 m 113 ls [])) : ∀ (n : Nat) (i3 : Int32) (i4 : Int64) (i5 : Int32) (H : Heap) (locs : List Loc) (ls : Array Slot), va_P D vwCl [W_Model k b0 o0 v_row v_number v_saved c6 c7 c8 c9 c10 c11 c12 c13 c14 c15 c16 v_text v_length v_at v_readKey v_readCount v_keys v_h].flatten H → va_D A [W_Model k b0 o0 v_row v_number v_saved c6 c7 c8 c9 c10 c11 c12 c13 c14 c15 c16 v_text v_length v_at v_readKey v_readCount v_keys v_h].flatten → va_S A s.heap H locs → lv_has ls 6 [(0, .ref (b0 o0)), (2, .int i3), (3, .long i4), (5, .int i5)] → f_Model_widest_L28 c7 c8 v_row K113 n i3 i4 i5 = some out → W p l e rm_Model_widest s m args below meth c H locs 0 0 (Q_Model_widest below D k A args s b0 o0 v_row v_number v_saved v_place v_low v_high v_lowBefore v_highBefore v_least v_greatest v_things v_changing v_overLow v_overHigh v_text v_length v_at v_readKey v_readCount v_keys v_h out) (F0 m 28 ls []) := by
  have hx := X.1.1
  have hb := X.1.2.1
  have hml := X.1.2.2.1
  have hown := X.1.2.2.2.1
  have hts := X.1.2.2.2.2
  intro n
  induction n with
  | zero =>
    intro i3 i4 i5 H locs ls hP hD hS hl hf
    rw [f_Model_widest_L28] at hf
    cases hf
  | succ n ih =>
    intro i3 i4 i5 H locs ls hP hD hS hl hf
    rw [f_Model_widest_L28] at hf
    refine lv_iload hx hb dX8_widest_28 (lv_at hl 3 rfl) ?_
    refine lv_aload_n hx hb dX8_widest_30 rfl (lv_at hl 0 rfl) ?_
    refine kget (v := .ref (b0 (o0+1))) X hP ff_X8_7 0 rfl rfl dX8_widest_31 ?_
    refine lv_bipush (v := 6) hx hb dX8_widest_34 (by decide) ?_
    obtain ⟨hc, hf⟩ := ofck hf
    refine kiald (f := v_row) (n := 1002) X hP 1 rfl hc dX8_widest_36 ?_
    refine lv_icmp_ge (tgt := 113) hx hb dX8_widest_37 (by decide) (fun hc => ?_) (fun hc => ?_)
    · have hf := ofpos hf hc
      exact hK113 i3 i4 i5 _ _ _ hP hD hS (lv_sub hl [1] rfl) hf
    · have hf := ofneg hf hc
      refine lv_aload_n hx hb dX8_widest_40 rfl (lv_at hl 0 rfl) ?_
      refine kget (v := .ref (b0 (o0+5))) X hP ff_X8_23 0 rfl rfl dX8_widest_41 ?_
      refine lv_iload hx hb dX8_widest_44 (lv_at hl 3 rfl) ?_
      obtain ⟨hc, hf⟩ := ofck hf
      refine klald (f := c8) (n := 24) X hP 5 rfl hc dX8_widest_46 ?_
      refine lv_aload_n hx hb dX8_widest_47 rfl (lv_at hl 0 rfl) ?_
      refine kget (v := .ref (b0 (o0+4))) X hP ff_X8_20 0 rfl rfl dX8_widest_48 ?_
      refine lv_iload hx hb dX8_widest_51 (lv_at hl 3 rfl) ?_
      obtain ⟨hc, hf⟩ := ofck hf
      refine klald (f := c7) (n := 24) X hP 4 rfl hc dX8_widest_53 ?_
      refine lv_lsub hx hb dX8_widest_54 ?_
      refine lv_lload_n hx hb dX8_widest_55 rfl (lv_at hl 2 rfl) ?_
      refine W.lcmp hx hb dX8_widest_56 ?_
      refine lv_if_le (tgt := 65) hx hb dX8_widest_57 (by decide) (fun hc => ?_) (fun hc => ?_)
      · have hc := lgm.mp hc
        have hf := ofpos hf hc
        refine lv_iload_n hx hb dX8_widest_65 rfl (lv_at hl 1 rfl) ?_
        exact w_Model_widest_J66 X b0 o0 v_row v_number v_saved v_place v_low v_high v_lowBefore v_highBefore v_least v_greatest v_things v_changing v_overLow v_overHigh v_text v_length v_at v_readKey v_readCount v_keys v_h N i4 i5 i3 c6 c7 c8 c9 c10 c11 c12 c13 c14 c15 c16 out _ ih _ _ _ hP hD hS (lv_sub hl [0, 2, 3] rfl) hf
      · have hc := fun z => hc (lgm.mpr z)
        have hf := ofneg hf hc
        refine lv_iload hx hb dX8_widest_60 (lv_at hl 3 rfl) ?_
        refine lv_goto (tgt := 66) hx hb dX8_widest_62 (by decide) ?_
        exact w_Model_widest_J66 X b0 o0 v_row v_number v_saved v_place v_low v_high v_lowBefore v_highBefore v_least v_greatest v_things v_changing v_overLow v_overHigh v_text v_length v_at v_readKey v_readCount v_keys v_h N i4 i5 i5 c6 c7 c8 c9 c10 c11 c12 c13 c14 c15 c16 out _ ih _ _ _ hP hD hS (lv_sub hl [0, 2, 3] rfl) hf
set_option maxRecDepth 100000 in
set_option maxHeartbeats 1000000 in
theorem c_Model_widest (l : Launch) (D : va_G) (k : Nat → ClassId) (t : Nat → Nat) (b0 : Nat → Nat) (o0 : Nat) (v_row : FI) (v_number : FJ) (v_saved : Int32) (v_place : FI) (v_low : FJ) (v_high : FJ) (v_lowBefore : FJ) (v_highBefore : FJ) (v_least : FJ) (v_greatest : FJ) (v_things : Int32) (v_changing : Int32) (v_overLow : FJ) (v_overHigh : FJ) (v_text : FI) (v_length : Int32) (v_at : Int32) (v_readKey : FI) (v_readCount : FJ) (v_keys : Int32) (v_h : Int64) (x1 : Int32) (N : Nat) (out : Int32 × FI × FJ × FJ × FJ × FJ × FJ × FJ × Int32 × Int32 × FJ × FJ) (hf : f_Model_widest N x1 v_row v_number v_place v_low v_high v_lowBefore v_highBefore v_least v_greatest v_things v_changing v_overLow v_overHigh = some out) : CT l D k t yX8_widest cX8_widest 6 (some .int) rm_Model_widest [.ref (b0 o0), .int x1] [W_Model k b0 o0 v_row v_number v_saved v_place v_low v_high v_lowBefore v_highBefore v_least v_greatest v_things v_changing v_overLow v_overHigh v_text v_length v_at v_readKey v_readCount v_keys v_h].flatten (some (.int out.1)) [W_Model k b0 o0 v_row v_number v_saved out.2.1 out.2.2.1 out.2.2.2.1 out.2.2.2.2.1 out.2.2.2.2.2.1 out.2.2.2.2.2.2.1 out.2.2.2.2.2.2.2.1 out.2.2.2.2.2.2.2.2.1 out.2.2.2.2.2.2.2.2.2.1 out.2.2.2.2.2.2.2.2.2.2.1 out.2.2.2.2.2.2.2.2.2.2.2 v_text v_length v_at v_readKey v_readCount v_keys v_h].flatten := by
  refine kofW (by decide) (Nat.le_of_ble_eq_true rfl) ?_
  intro p e s m below meth c A ls X hP hD hS hl
  have hx := X.1.1
  have hb := X.1.2.1
  have hml := X.1.2.2.1
  have hown := X.1.2.2.2.1
  have hts := X.1.2.2.2.2
  have hl : lv_has ls 6 [(0, .ref (b0 o0)), (1, .int x1)] := hl
  rw [f_Model_widest] at hf
  refine lv_iload_n hx hb dX8_widest_0 rfl (lv_at hl 1 rfl) ?_
  obtain ⟨r1, hg_r1, hf⟩ := ofbind hf
  refine kcS (bs := [W_Model k b0 o0 v_row v_number v_saved v_place v_low v_high v_lowBefore v_highBefore v_least v_greatest v_things v_changing v_overLow v_overHigh v_text v_length v_at v_readKey v_readCount v_keys v_h]) (br := [W_Model k b0 o0 v_row v_number v_saved v_place v_low v_high v_lowBefore v_highBefore v_least v_greatest v_things v_changing v_overLow v_overHigh v_text v_length v_at v_readKey v_readCount v_keys v_h]) (bc := []) (bc' := []) X hP hD hS (c_Model_isBraid l D k t x1 r1 hg_r1) ms_X8_100 hl [0] [] ⟨rfl, rfl⟩ ⟨Nat.le_of_ble_eq_true rfl, Nat.le_of_ble_eq_true rfl⟩ rfl rfl rfl rfl (Nat.le_of_ble_eq_true rfl) dX8_widest_1 (fun H locs hP hD hS => ?_)
  have hP : va_P D vwCl [W_Model k b0 o0 v_row v_number v_saved v_place v_low v_high v_lowBefore v_highBefore v_least v_greatest v_things v_changing v_overLow v_overHigh v_text v_length v_at v_readKey v_readCount v_keys v_h].flatten _ := hP
  have hD : va_D A [W_Model k b0 o0 v_row v_number v_saved v_place v_low v_high v_lowBefore v_highBefore v_least v_greatest v_things v_changing v_overLow v_overHigh v_text v_length v_at v_readKey v_readCount v_keys v_h].flatten := hD
  refine lv_if_ne (tgt := 10) hx hb dX8_widest_4 (by decide) (fun hc => ?_) (fun hc => ?_)
  · have hf := ofneg hf hc
    refine lv_aload_n hx hb dX8_widest_10 rfl (lv_at hl 0 rfl) ?_
    refine lv_iload_n hx hb dX8_widest_11 rfl (lv_at hl 1 rfl) ?_
    refine lv_aload_n hx hb dX8_widest_12 rfl (lv_at hl 0 rfl) ?_
    refine kget (v := .ref (b0 (o0+1))) X hP ff_X8_7 0 rfl rfl dX8_widest_13 ?_
    refine lv_iconst (v := 5) hx hb dX8_widest_16 (by decide) ?_
    obtain ⟨hc, hf⟩ := ofck hf
    refine kiald (f := v_row) (n := 1002) X hP 1 rfl hc dX8_widest_17 ?_
    obtain ⟨r2, hg_r2, hf⟩ := ofbind hf
    refine kcV (bs := [W_Model k b0 o0 v_row v_number v_saved v_place v_low v_high v_lowBefore v_highBefore v_least v_greatest v_things v_changing v_overLow v_overHigh v_text v_length v_at v_readKey v_readCount v_keys v_h]) (br := []) (bc := [W_Model k b0 o0 v_row v_number v_saved v_place v_low v_high v_lowBefore v_highBefore v_least v_greatest v_things v_changing v_overLow v_overHigh v_text v_length v_at v_readKey v_readCount v_keys v_h]) (bc' := [W_Model k b0 o0 v_row v_number v_saved r2.1 r2.2.1 r2.2.2.1 r2.2.2.2.1 r2.2.2.2.2.1 r2.2.2.2.2.2.1 r2.2.2.2.2.2.2.1 r2.2.2.2.2.2.2.2.1 r2.2.2.2.2.2.2.2.2.1 r2.2.2.2.2.2.2.2.2.2.1 r2.2.2.2.2.2.2.2.2.2.2 v_text v_length v_at v_readKey v_readCount v_keys v_h]) X hP hD hS (c_Model_findsFlows l D k t b0 o0 v_row v_number v_saved v_place v_low v_high v_lowBefore v_highBefore v_least v_greatest v_things v_changing v_overLow v_overHigh v_text v_length v_at v_readKey v_readCount v_keys v_h x1 (v_row (5 : Int32).toNatClampNeg) N r2 hg_r2) mv_X8_153 hl [] [0] 8 ⟨rfl, rfl⟩ ⟨Nat.le_of_ble_eq_true rfl, Nat.le_of_ble_eq_true rfl⟩ rfl rfl rfl rfl rfl rfl rfl (Nat.le_of_ble_eq_true rfl) dX8_widest_18 (fun H locs hP hD hS => ?_)
    have hP : va_P D vwCl [W_Model k b0 o0 v_row v_number v_saved r2.1 r2.2.1 r2.2.2.1 r2.2.2.2.1 r2.2.2.2.2.1 r2.2.2.2.2.2.1 r2.2.2.2.2.2.2.1 r2.2.2.2.2.2.2.2.1 r2.2.2.2.2.2.2.2.2.1 r2.2.2.2.2.2.2.2.2.2.1 r2.2.2.2.2.2.2.2.2.2.2 v_text v_length v_at v_readKey v_readCount v_keys v_h].flatten _ := hP
    have hD : va_D A [W_Model k b0 o0 v_row v_number v_saved r2.1 r2.2.1 r2.2.2.1 r2.2.2.2.1 r2.2.2.2.2.1 r2.2.2.2.2.2.1 r2.2.2.2.2.2.2.1 r2.2.2.2.2.2.2.2.1 r2.2.2.2.2.2.2.2.2.1 r2.2.2.2.2.2.2.2.2.2.1 r2.2.2.2.2.2.2.2.2.2.2 v_text v_length v_at v_readKey v_readCount v_keys v_h].flatten := hD
    refine lv_iconst (v := (-1)) hx hb dX8_widest_21 (by decide) ?_
    refine lv_istore_n (lv' := [(2, .int (-1)), (0, .ref (b0 o0)), (1, .int x1)]) hx hb dX8_widest_22 rfl hl (by decide) rfl (fun ls hl => ?_)
    refine lv_lconst (v := 0) hx hb dX8_widest_23 (by decide) ?_
    refine lv_lstore_n (lv' := [(3, .long 0), (2, .int (-1)), (0, .ref (b0 o0)), (1, .int x1)]) hx hb dX8_widest_24 rfl hl (by decide) rfl (fun ls hl => ?_)
    refine lv_iconst (v := 0) hx hb dX8_widest_25 (by decide) ?_
    refine lv_istore (lv' := [(5, .int 0), (3, .long 0), (2, .int (-1)), (0, .ref (b0 o0)), (1, .int x1)]) hx hb dX8_widest_26 hl (by decide) rfl (fun ls hl => ?_)
    refine w_Model_widest_L28 X b0 o0 v_row v_number v_saved v_place v_low v_high v_lowBefore v_highBefore v_least v_greatest v_things v_changing v_overLow v_overHigh v_text v_length v_at v_readKey v_readCount v_keys v_h N r2.1 r2.2.1 r2.2.2.1 r2.2.2.2.1 r2.2.2.2.2.1 r2.2.2.2.2.2.1 r2.2.2.2.2.2.2.1 r2.2.2.2.2.2.2.2.1 r2.2.2.2.2.2.2.2.2.1 r2.2.2.2.2.2.2.2.2.2.1 r2.2.2.2.2.2.2.2.2.2.2 out _ ?_ N (-1) 0 0 _ _ _ hP hD hS (lv_sub hl [3, 2, 1, 0] rfl) hf
    · intro i31 i32 i33 H locs ls hP hD hS hl hf
      refine lv_iload_n hx hb dX8_widest_113 rfl (lv_at hl 0 rfl) ?_
      have hf := Option.some.inj hf
      subst hf
      exact kiret (v := i31) X hP hD hS dX8_widest_114
  · have hf := ofpos hf hc
    refine lv_bipush (v := (-2)) hx hb dX8_widest_7 (by decide) ?_
    have hf := Option.some.inj hf
    subst hf
    exact kiret (v := (-2)) X hP hD hS dX8_widest_9
/-! Model_leastSpace: public int leastSpace(int); -/
abbrev rm_Model_leastSpace : Room := ({ frames := 6, cells := 0, slots := 0, locals := 146 } : Room)
def f_Model_leastSpace_L50 (N : Nat) (i32 : Int32) (K94 : Int32 → FI → FJ → Option (Int32 × FI × FJ × FI × FJ × FJ × FJ × FJ × FJ × FJ × Int32 × Int32 × FJ × FJ)) : Nat → Int32 → FI → FJ → Option (Int32 × FI × FJ × FI × FJ × FJ × FJ × FJ × FJ × FJ × Int32 × Int32 × FJ × FJ)
  | 0, _, _, _ => none
  | n + 1, i35, c36, c37 => if ck 6 1002 = true then if (c36 (6 : Int32).toNatClampNeg) ≤ i35 then K94 i35 c36 c37 else (f_Model_truthAt i32 i35 c37).bind (fun r49 => if r49 ≤ 0 then f_Model_leastSpace_L50 N i32 K94 n (i35 + 1) c36 c37 else (f_Model_truthAt i32 i35 c37).bind (fun r50 => (f_Model_counts N 2 i35 r50 c36 c37).bind (fun r51 => f_Model_leastSpace_L50 N i32 K94 n (i35 + 1) r51.1 r51.2))) else none
def f_Model_leastSpace_L22 (N : Nat) (i10 : Int32) (K126 : Int32 → Int32 → FI → FJ → FI → FJ → FJ → FJ → FJ → FJ → FJ → Int32 → Int32 → FJ → FJ → Option (Int32 × FI × FJ × FI × FJ × FJ × FJ × FJ × FJ × FJ × Int32 × Int32 × FJ × FJ)) : Nat → Int32 → Int32 → FI → FJ → FI → FJ → FJ → FJ → FJ → FJ → FJ → Int32 → Int32 → FJ → FJ → Option (Int32 × FI × FJ × FI × FJ × FJ × FJ × FJ × FJ × FJ × Int32 × Int32 × FJ × FJ)
  | 0, _, _, _, _, _, _, _, _, _, _, _, _, _, _, _ => none
  | n + 1, i12, i13, c14, c15, c16, c17, c18, c19, c20, c21, c22, c23, c24, c25, c26 => if 24 < i13 then K126 i12 i13 c14 c15 c16 c17 c18 c19 c20 c21 c22 c23 c24 c25 c26 else if i12 = (-1) then if ck 0 1002 = true then (f_Model_empties N 2 (upd c14 (0 : Int32).toNatClampNeg i13) c15).bind (fun r28 => f_Model_leastSpace_L50 N i10 (fun i52 c53 c54 => (f_Model_certainOf N 2 c53 c54 c16 c17 c18 c19 c20 c21 c22 c23 c24 c25 c26).bind (fun r55 => if ck 6 1002 = true then if r55.1 = ((1 <<< ((c53 (6 : Int32).toNatClampNeg) &&& 31)) - 1) then f_Model_leastSpace_L22 N i10 K126 n i13 (i13 + 1) c53 c54 r55.2.1 r55.2.2.1 r55.2.2.2.1 r55.2.2.2.2.1 r55.2.2.2.2.2.1 r55.2.2.2.2.2.2.1 r55.2.2.2.2.2.2.2.1 r55.2.2.2.2.2.2.2.2.1 r55.2.2.2.2.2.2.2.2.2.1 r55.2.2.2.2.2.2.2.2.2.2.1 r55.2.2.2.2.2.2.2.2.2.2.2 else f_Model_leastSpace_L22 N i10 K126 n (-1) (i13 + 1) c53 c54 r55.2.1 r55.2.2.1 r55.2.2.2.1 r55.2.2.2.2.1 r55.2.2.2.2.2.1 r55.2.2.2.2.2.2.1 r55.2.2.2.2.2.2.2.1 r55.2.2.2.2.2.2.2.2.1 r55.2.2.2.2.2.2.2.2.2.1 r55.2.2.2.2.2.2.2.2.2.2.1 r55.2.2.2.2.2.2.2.2.2.2.2 else none)) N 0 r28.1 r28.2) else none else K126 i12 i13 c14 c15 c16 c17 c18 c19 c20 c21 c22 c23 c24 c25 c26
def f_Model_leastSpace (N : Nat) (x1 : Int32) (v_row : FI) (v_number : FJ) (v_place : FI) (v_low : FJ) (v_high : FJ) (v_lowBefore : FJ) (v_highBefore : FJ) (v_least : FJ) (v_greatest : FJ) (v_things : Int32) (v_changing : Int32) (v_overLow : FJ) (v_overHigh : FJ) : Option (Int32 × FI × FJ × FI × FJ × FJ × FJ × FJ × FJ × FJ × Int32 × Int32 × FJ × FJ) := (f_Model_isBraid x1).bind (fun r1 => if r1 = 0 then some ((-2), v_row, v_number, v_place, v_low, v_high, v_lowBefore, v_highBefore, v_least, v_greatest, v_things, v_changing, v_overLow, v_overHigh) else if ck 0 1002 = true then f_Model_leastSpace_L22 N x1 (fun i56 i57 c58 c59 c60 c61 c62 c63 c64 c65 c66 c67 c68 c69 c70 => if ck 0 1002 = true then some (i56, (upd c58 (0 : Int32).toNatClampNeg (v_row (0 : Int32).toNatClampNeg)), c59, c60, c61, c62, c63, c64, c65, c66, c67, c68, c69, c70) else none) N (-1) 2 v_row v_number v_place v_low v_high v_lowBefore v_highBefore v_least v_greatest v_things v_changing v_overLow v_overHigh else none)
abbrev Q_Model_leastSpace (below : List Frame) (D : va_G) (k : Nat → ClassId) (A : Nat → Prop) (args : Array Value) (s : State) (b0 : Nat → Nat) (o0 : Nat) (v_row : FI) (v_number : FJ) (v_saved : Int32) (v_place : FI) (v_low : FJ) (v_high : FJ) (v_lowBefore : FJ) (v_highBefore : FJ) (v_least : FJ) (v_greatest : FJ) (v_things : Int32) (v_changing : Int32) (v_overLow : FJ) (v_overHigh : FJ) (v_text : FI) (v_length : Int32) (v_at : Int32) (v_readKey : FI) (v_readCount : FJ) (v_keys : Int32) (v_h : Int64) (out : Int32 × FI × FJ × FI × FJ × FJ × FJ × FJ × FJ × FJ × Int32 × Int32 × FJ × FJ) : State → Prop := MQ below (QW D k A (some (.int out.1)) [W_Model k b0 o0 out.2.1 out.2.2.1 v_saved out.2.2.2.1 out.2.2.2.2.1 out.2.2.2.2.2.1 out.2.2.2.2.2.2.1 out.2.2.2.2.2.2.2.1 out.2.2.2.2.2.2.2.2.1 out.2.2.2.2.2.2.2.2.2.1 out.2.2.2.2.2.2.2.2.2.2.1 out.2.2.2.2.2.2.2.2.2.2.2.1 out.2.2.2.2.2.2.2.2.2.2.2.2.1 out.2.2.2.2.2.2.2.2.2.2.2.2.2 v_text v_length v_at v_readKey v_readCount v_keys v_h].flatten) args s 0 0 A
set_option maxRecDepth 100000 in
set_option maxHeartbeats 1000000 in
theorem w_Model_leastSpace_L50 {p : Program} {l : Launch} {e : Env} {s : State} {m : MethodId} {below : List Frame} {meth : Method} {c : Code} {args : Array Value} {A : Nat → Prop} {D : va_G} {k : Nat → ClassId} {t : Nat → Nat} (X : BX l D k t p s m args meth c cX8_leastSpace 6 RX8 (some .int) A) (b0 : Nat → Nat) (o0 : Nat) (v_row : FI) (v_number : FJ) (v_saved : Int32) (v_place : FI) (v_low : FJ) (v_high : FJ) (v_lowBefore : FJ) (v_highBefore : FJ) (v_least : FJ) (v_greatest : FJ) (v_things : Int32) (v_changing : Int32) (v_overLow : FJ) (v_overHigh : FJ) (v_text : FI) (v_length : Int32) (v_at : Int32) (v_readKey : FI) (v_readCount : FJ) (v_keys : Int32) (v_h : Int64) (N : Nat) (i32 : Int32) (i33 : Int32) (i34 : Int32) (c38 : FI) (c39 : FJ) (c40 : FJ) (c41 : FJ) (c42 : FJ) (c43 : FJ) (c44 : FJ) (c45 : Int32) (c46 : Int32) (c47 : FJ) (c48 : FJ) (out : Int32 × FI × FJ × FI × FJ × FJ × FJ × FJ × FJ × FJ × Int32 × Int32 × FJ × FJ) (K94 : Int32 → FI → FJ → Option (Int32 × FI × FJ × FI × FJ × FJ × FJ × FJ × FJ × FJ × Int32 × Int32 × FJ × FJ)) (hK94 : ∀ (i35' : Int32) (c36' : FI) (c37' : FJ) (H : Heap) (locs : List Loc) (ls : Array Slot), va_P D vwCl [W_Model k b0 o0 c36' c37' v_saved c38 c39 c40 c41 c42 c43 c44 c45 c46 c47 c48 v_text v_length v_at v_readKey v_readCount v_keys v_h].flatten H → va_D A [W_Model k b0 o0 c36' c37' v_saved c38 c39 c40 c41 c42 c43 c44 c45 c46 c47 c48 v_text v_length v_at v_readKey v_readCount v_keys v_h].flatten → va_S A s.heap H locs → lv_has ls 6 [(0, .ref (b0 o0)), (1, .int i32), (2, .int i33), (4, .int i34)] → K94 i35' c36' c37' = some out → W p l e rm_Model_leastSpace s m args below meth c H locs 0 0 (Q_Model_leastSpace below D k A args s b0 o0 v_row v_number v_saved v_place v_low v_high v_lowBefore v_highBefore v_least v_greatest v_things v_changing v_overLow v_overHigh v_text v_length v_at v_readKey v_readCount v_keys v_h out) (F0 m 94 ls [])) : ∀ (n : Nat) (i35 : Int32) (c36 : FI) (c37 : FJ) (H : Heap) (locs : List Loc) (ls : Array Slot), va_P D vwCl [W_Model k b0 o0 c36 c37 v_saved c38 c39 c40 c41 c42 c43 c44 c45 c46 c47 c48 v_text v_length v_at v_readKey v_readCount v_keys v_h].flatten H → va_D A [W_Model k b0 o0 c36 c37 v_saved c38 c39 c40 c41 c42 c43 c44 c45 c46 c47 c48 v_text v_length v_at v_readKey v_readCount v_keys v_h].flatten → va_S A s.heap H locs → lv_has ls 6 [(0, .ref (b0 o0)), (1, .int i32), (2, .int i33), (4, .int i34), (5, .int i35)] → f_Model_leastSpace_L50 N i32 K94 n i35 c36 c37 = some out → W p l e rm_Model_leastSpace s m args below meth c H locs 0 0 (Q_Model_leastSpace below D k A args s b0 o0 v_row v_number v_saved v_place v_low v_high v_lowBefore v_highBefore v_least v_greatest v_things v_changing v_overLow v_overHigh v_text v_length v_at v_readKey v_readCount v_keys v_h out) (F0 m 50 ls []) := by
  have hx := X.1.1
  have hb := X.1.2.1
  have hml := X.1.2.2.1
  have hown := X.1.2.2.2.1
  have hts := X.1.2.2.2.2
  intro n
  induction n with
  | zero =>
    intro i35 c36 c37 H locs ls hP hD hS hl hf
    rw [f_Model_leastSpace_L50] at hf
    cases hf
  | succ n ih =>
    intro i35 c36 c37 H locs ls hP hD hS hl hf
    rw [f_Model_leastSpace_L50] at hf
    refine lv_iload hx hb dX8_leastSpace_50 (lv_at hl 4 rfl) ?_
    refine lv_aload_n hx hb dX8_leastSpace_52 rfl (lv_at hl 0 rfl) ?_
    refine kget (v := .ref (b0 (o0+1))) X hP ff_X8_7 0 rfl rfl dX8_leastSpace_53 ?_
    refine lv_bipush (v := 6) hx hb dX8_leastSpace_56 (by decide) ?_
    obtain ⟨hc, hf⟩ := ofck hf
    refine kiald (f := c36) (n := 1002) X hP 1 rfl hc dX8_leastSpace_58 ?_
    refine lv_icmp_ge (tgt := 94) hx hb dX8_leastSpace_59 (by decide) (fun hc => ?_) (fun hc => ?_)
    · have hf := ofpos hf hc
      exact hK94 i35 c36 c37 _ _ _ hP hD hS (lv_sub hl [0, 1, 2, 3] rfl) hf
    · have hf := ofneg hf hc
      refine lv_aload_n hx hb dX8_leastSpace_62 rfl (lv_at hl 0 rfl) ?_
      refine lv_iload_n hx hb dX8_leastSpace_63 rfl (lv_at hl 1 rfl) ?_
      refine lv_iload hx hb dX8_leastSpace_64 (lv_at hl 4 rfl) ?_
      obtain ⟨r49, hg_r49, hf⟩ := ofbind hf
      refine kcV (bs := [W_Model k b0 o0 c36 c37 v_saved c38 c39 c40 c41 c42 c43 c44 c45 c46 c47 c48 v_text v_length v_at v_readKey v_readCount v_keys v_h]) (br := []) (bc := [W_Model k b0 o0 c36 c37 v_saved c38 c39 c40 c41 c42 c43 c44 c45 c46 c47 c48 v_text v_length v_at v_readKey v_readCount v_keys v_h]) (bc' := [W_Model k b0 o0 c36 c37 v_saved c38 c39 c40 c41 c42 c43 c44 c45 c46 c47 c48 v_text v_length v_at v_readKey v_readCount v_keys v_h]) X hP hD hS (c_Model_truthAt l D k t b0 o0 c36 c37 v_saved c38 c39 c40 c41 c42 c43 c44 c45 c46 c47 c48 v_text v_length v_at v_readKey v_readCount v_keys v_h i32 i35 r49 hg_r49) mv_X8_108 hl [] [0] 8 ⟨rfl, rfl⟩ ⟨Nat.le_of_ble_eq_true rfl, Nat.le_of_ble_eq_true rfl⟩ rfl rfl rfl rfl rfl rfl rfl (Nat.le_of_ble_eq_true rfl) dX8_leastSpace_66 (fun H locs hP hD hS => ?_)
      have hP : va_P D vwCl [W_Model k b0 o0 c36 c37 v_saved c38 c39 c40 c41 c42 c43 c44 c45 c46 c47 c48 v_text v_length v_at v_readKey v_readCount v_keys v_h].flatten _ := hP
      have hD : va_D A [W_Model k b0 o0 c36 c37 v_saved c38 c39 c40 c41 c42 c43 c44 c45 c46 c47 c48 v_text v_length v_at v_readKey v_readCount v_keys v_h].flatten := hD
      refine lv_lconst (v := 0) hx hb dX8_leastSpace_69 (by decide) ?_
      refine W.lcmp hx hb dX8_leastSpace_70 ?_
      refine lv_if_le (tgt := 88) hx hb dX8_leastSpace_71 (by decide) (fun hc => ?_) (fun hc => ?_)
      · have hc := lgm.mp hc
        have hf := ofpos hf hc
        refine lv_iinc (v := i35 + 1) (lv' := [(5, .int (i35 + 1)), (0, .ref (b0 o0)), (1, .int i32), (2, .int i33), (4, .int i34)]) hx hb dX8_leastSpace_88 hl (k := 4) rfl rfl (by decide) rfl (fun ls hl => ?_)
        refine lv_goto (tgt := 50) hx hb dX8_leastSpace_91 (by decide) ?_
        exact ih (i35 + 1) c36 c37 _ _ _ hP hD hS (lv_sub hl [1, 2, 3, 4, 0] rfl) hf
      · have hc := fun z => hc (lgm.mpr z)
        have hf := ofneg hf hc
        refine lv_aload_n hx hb dX8_leastSpace_74 rfl (lv_at hl 0 rfl) ?_
        refine lv_iconst (v := 2) hx hb dX8_leastSpace_75 (by decide) ?_
        refine lv_iload hx hb dX8_leastSpace_76 (lv_at hl 4 rfl) ?_
        refine lv_aload_n hx hb dX8_leastSpace_78 rfl (lv_at hl 0 rfl) ?_
        refine lv_iload_n hx hb dX8_leastSpace_79 rfl (lv_at hl 1 rfl) ?_
        refine lv_iload hx hb dX8_leastSpace_80 (lv_at hl 4 rfl) ?_
        obtain ⟨r50, hg_r50, hf⟩ := ofbind hf
        refine kcV (bs := [W_Model k b0 o0 c36 c37 v_saved c38 c39 c40 c41 c42 c43 c44 c45 c46 c47 c48 v_text v_length v_at v_readKey v_readCount v_keys v_h]) (br := []) (bc := [W_Model k b0 o0 c36 c37 v_saved c38 c39 c40 c41 c42 c43 c44 c45 c46 c47 c48 v_text v_length v_at v_readKey v_readCount v_keys v_h]) (bc' := [W_Model k b0 o0 c36 c37 v_saved c38 c39 c40 c41 c42 c43 c44 c45 c46 c47 c48 v_text v_length v_at v_readKey v_readCount v_keys v_h]) X hP hD hS (c_Model_truthAt l D k t b0 o0 c36 c37 v_saved c38 c39 c40 c41 c42 c43 c44 c45 c46 c47 c48 v_text v_length v_at v_readKey v_readCount v_keys v_h i32 i35 r50 hg_r50) mv_X8_108 hl [] [0] 8 ⟨rfl, rfl⟩ ⟨Nat.le_of_ble_eq_true rfl, Nat.le_of_ble_eq_true rfl⟩ rfl rfl rfl rfl rfl rfl rfl (Nat.le_of_ble_eq_true rfl) dX8_leastSpace_82 (fun H locs hP hD hS => ?_)
        have hP : va_P D vwCl [W_Model k b0 o0 c36 c37 v_saved c38 c39 c40 c41 c42 c43 c44 c45 c46 c47 c48 v_text v_length v_at v_readKey v_readCount v_keys v_h].flatten _ := hP
        have hD : va_D A [W_Model k b0 o0 c36 c37 v_saved c38 c39 c40 c41 c42 c43 c44 c45 c46 c47 c48 v_text v_length v_at v_readKey v_readCount v_keys v_h].flatten := hD
        obtain ⟨r51, hg_r51, hf⟩ := ofbind hf
        refine kcV (bs := [W_Model k b0 o0 c36 c37 v_saved c38 c39 c40 c41 c42 c43 c44 c45 c46 c47 c48 v_text v_length v_at v_readKey v_readCount v_keys v_h]) (br := []) (bc := [W_Model k b0 o0 c36 c37 v_saved c38 c39 c40 c41 c42 c43 c44 c45 c46 c47 c48 v_text v_length v_at v_readKey v_readCount v_keys v_h]) (bc' := [W_Model k b0 o0 r51.1 r51.2 v_saved c38 c39 c40 c41 c42 c43 c44 c45 c46 c47 c48 v_text v_length v_at v_readKey v_readCount v_keys v_h]) X hP hD hS (c_Model_counts l D k t b0 o0 c36 c37 v_saved c38 c39 c40 c41 c42 c43 c44 c45 c46 c47 c48 v_text v_length v_at v_readKey v_readCount v_keys v_h 2 i35 r50 N r51 hg_r51) mv_X8_116 hl [] [0] 8 ⟨rfl, rfl⟩ ⟨Nat.le_of_ble_eq_true rfl, Nat.le_of_ble_eq_true rfl⟩ rfl rfl rfl rfl rfl rfl rfl (Nat.le_of_ble_eq_true rfl) dX8_leastSpace_85 (fun H locs hP hD hS => ?_)
        have hP : va_P D vwCl [W_Model k b0 o0 r51.1 r51.2 v_saved c38 c39 c40 c41 c42 c43 c44 c45 c46 c47 c48 v_text v_length v_at v_readKey v_readCount v_keys v_h].flatten _ := hP
        have hD : va_D A [W_Model k b0 o0 r51.1 r51.2 v_saved c38 c39 c40 c41 c42 c43 c44 c45 c46 c47 c48 v_text v_length v_at v_readKey v_readCount v_keys v_h].flatten := hD
        refine lv_iinc (v := i35 + 1) (lv' := [(5, .int (i35 + 1)), (0, .ref (b0 o0)), (1, .int i32), (2, .int i33), (4, .int i34)]) hx hb dX8_leastSpace_88 hl (k := 4) rfl rfl (by decide) rfl (fun ls hl => ?_)
        refine lv_goto (tgt := 50) hx hb dX8_leastSpace_91 (by decide) ?_
        exact ih (i35 + 1) r51.1 r51.2 _ _ _ hP hD hS (lv_sub hl [1, 2, 3, 4, 0] rfl) hf
set_option maxRecDepth 100000 in
set_option maxHeartbeats 1000000 in
theorem w_Model_leastSpace_L22 {p : Program} {l : Launch} {e : Env} {s : State} {m : MethodId} {below : List Frame} {meth : Method} {c : Code} {args : Array Value} {A : Nat → Prop} {D : va_G} {k : Nat → ClassId} {t : Nat → Nat} (X : BX l D k t p s m args meth c cX8_leastSpace 6 RX8 (some .int) A) (b0 : Nat → Nat) (o0 : Nat) (v_row : FI) (v_number : FJ) (v_saved : Int32) (v_place : FI) (v_low : FJ) (v_high : FJ) (v_lowBefore : FJ) (v_highBefore : FJ) (v_least : FJ) (v_greatest : FJ) (v_things : Int32) (v_changing : Int32) (v_overLow : FJ) (v_overHigh : FJ) (v_text : FI) (v_length : Int32) (v_at : Int32) (v_readKey : FI) (v_readCount : FJ) (v_keys : Int32) (v_h : Int64) (N : Nat) (i10 : Int32) (i11 : Int32) (out : Int32 × FI × FJ × FI × FJ × FJ × FJ × FJ × FJ × FJ × Int32 × Int32 × FJ × FJ) (K126 : Int32 → Int32 → FI → FJ → FI → FJ → FJ → FJ → FJ → FJ → FJ → Int32 → Int32 → FJ → FJ → Option (Int32 × FI × FJ × FI × FJ × FJ × FJ × FJ × FJ × FJ × Int32 × Int32 × FJ × FJ)) (hK126 : ∀ (i12' : Int32) (i13' : Int32) (c14' : FI) (c15' : FJ) (c16' : FI) (c17' : FJ) (c18' : FJ) (c19' : FJ) (c20' : FJ) (c21' : FJ) (c22' : FJ) (c23' : Int32) (c24' : Int32) (c25' : FJ) (c26' : FJ) (H : Heap) (locs : List Loc) (ls : Array Slot), va_P D vwCl [W_Model k b0 o0 c14' c15' v_saved c16' c17' c18' c19' c20' c21' c22' c23' c24' c25' c26' v_text v_length v_at v_readKey v_readCount v_keys v_h].flatten H → va_D A [W_Model k b0 o0 c14' c15' v_saved c16' c17' c18' c19' c20' c21' c22' c23' c24' c25' c26' v_text v_length v_at v_readKey v_readCount v_keys v_h].flatten → va_S A s.heap H locs → lv_has ls 6 [(0, .ref (b0 o0)), (2, .int i11), (3, .int i12')] → K126 i12' i13' c14' c15' c16' c17' c18' c19' c20' c21' c22' c23' c24' c25' c26' = some out → W p l e rm_Model_leastSpace s m args below meth c H locs 0 0 (Q_Model_leastSpace below D k A args s b0 o0 v_row v_number v_saved v_place v_low v_high v_lowBefore v_highBefore v_least v_greatest v_things v_changing v_overLow v_overHigh v_text v_length v_at v_readKey v_readCount v_keys v_h out) (F0 m 126 ls [])) : ∀ (n : Nat) (i12 : Int32) (i13 : Int32) (c14 : FI) (c15 : FJ) (c16 : FI) (c17 : FJ) (c18 : FJ) (c19 : FJ) (c20 : FJ) (c21 : FJ) (c22 : FJ) (c23 : Int32) (c24 : Int32) (c25 : FJ) (c26 : FJ) (H : Heap) (locs : List Loc) (ls : Array Slot), va_P D vwCl [W_Model k b0 o0 c14 c15 v_saved c16 c17 c18 c19 c20 c21 c22 c23 c24 c25 c26 v_text v_length v_at v_readKey v_readCount v_keys v_h].flatten H → va_D A [W_Model k b0 o0 c14 c15 v_saved c16 c17 c18 c19 c20 c21 c22 c23 c24 c25 c26 v_text v_length v_at v_readKey v_readCount v_keys v_h].flatten → va_S A s.heap H locs → lv_has ls 6 [(0, .ref (b0 o0)), (1, .int i10), (2, .int i11), (3, .int i12), (4, .int i13)] → f_Model_leastSpace_L22 N i10 K126 n i12 i13 c14 c15 c16 c17 c18 c19 c20 c21 c22 c23 c24 c25 c26 = some out → W p l e rm_Model_leastSpace s m args below meth c H locs 0 0 (Q_Model_leastSpace below D k A args s b0 o0 v_row v_number v_saved v_place v_low v_high v_lowBefore v_highBefore v_least v_greatest v_things v_changing v_overLow v_overHigh v_text v_length v_at v_readKey v_readCount v_keys v_h out) (F0 m 22 ls []) := by
  have hx := X.1.1
  have hb := X.1.2.1
  have hml := X.1.2.2.1
  have hown := X.1.2.2.2.1
  have hts := X.1.2.2.2.2
  intro n
  induction n with
  | zero =>
    intro i12 i13 c14 c15 c16 c17 c18 c19 c20 c21 c22 c23 c24 c25 c26 H locs ls hP hD hS hl hf
    rw [f_Model_leastSpace_L22] at hf
    cases hf
  | succ n ih =>
    intro i12 i13 c14 c15 c16 c17 c18 c19 c20 c21 c22 c23 c24 c25 c26 H locs ls hP hD hS hl hf
    rw [f_Model_leastSpace_L22] at hf
    refine lv_iload hx hb dX8_leastSpace_22 (lv_at hl 4 rfl) ?_
    refine lv_bipush (v := 24) hx hb dX8_leastSpace_24 (by decide) ?_
    refine lv_icmp_gt (tgt := 126) hx hb dX8_leastSpace_26 (by decide) (fun hc => ?_) (fun hc => ?_)
    · have hf := ofpos hf hc
      exact hK126 i12 i13 c14 c15 c16 c17 c18 c19 c20 c21 c22 c23 c24 c25 c26 _ _ _ hP hD hS (lv_sub hl [0, 2, 3] rfl) hf
    · have hf := ofneg hf hc
      refine lv_iload_n hx hb dX8_leastSpace_29 rfl (lv_at hl 3 rfl) ?_
      refine lv_iconst (v := (-1)) hx hb dX8_leastSpace_30 (by decide) ?_
      refine lv_icmp_ne (tgt := 126) hx hb dX8_leastSpace_31 (by decide) (fun hc => ?_) (fun hc => ?_)
      · have hf := ofneg hf hc
        exact hK126 i12 i13 c14 c15 c16 c17 c18 c19 c20 c21 c22 c23 c24 c25 c26 _ _ _ hP hD hS (lv_sub hl [0, 2, 3] rfl) hf
      · have hf := ofpos hf hc
        refine lv_aload_n hx hb dX8_leastSpace_34 rfl (lv_at hl 0 rfl) ?_
        refine kget (v := .ref (b0 (o0+1))) X hP ff_X8_7 0 rfl rfl dX8_leastSpace_35 ?_
        refine lv_iconst (v := 0) hx hb dX8_leastSpace_38 (by decide) ?_
        refine lv_iload hx hb dX8_leastSpace_39 (lv_at hl 4 rfl) ?_
        obtain ⟨hc, hf⟩ := ofck hf
        generalize hc27 : upd c14 (0 : Int32).toNatClampNeg i13 = c27 at hf
        refine kiast2 (f := c14) (n := 1002) (g := c27) X hP hD hS 1 rfl hc hc27 dX8_leastSpace_41 (fun H locs hP hD hS => ?_)
        have hP : va_P D vwCl [W_Model k b0 o0 c27 c15 v_saved c16 c17 c18 c19 c20 c21 c22 c23 c24 c25 c26 v_text v_length v_at v_readKey v_readCount v_keys v_h].flatten _ := hP
        have hD : va_D A [W_Model k b0 o0 c27 c15 v_saved c16 c17 c18 c19 c20 c21 c22 c23 c24 c25 c26 v_text v_length v_at v_readKey v_readCount v_keys v_h].flatten := hD
        refine lv_aload_n hx hb dX8_leastSpace_42 rfl (lv_at hl 0 rfl) ?_
        refine lv_iconst (v := 2) hx hb dX8_leastSpace_43 (by decide) ?_
        obtain ⟨r28, hg_r28, hf⟩ := ofbind hf
        refine kcV (bs := [W_Model k b0 o0 c27 c15 v_saved c16 c17 c18 c19 c20 c21 c22 c23 c24 c25 c26 v_text v_length v_at v_readKey v_readCount v_keys v_h]) (br := []) (bc := [W_Model k b0 o0 c27 c15 v_saved c16 c17 c18 c19 c20 c21 c22 c23 c24 c25 c26 v_text v_length v_at v_readKey v_readCount v_keys v_h]) (bc' := [W_Model k b0 o0 r28.1 r28.2 v_saved c16 c17 c18 c19 c20 c21 c22 c23 c24 c25 c26 v_text v_length v_at v_readKey v_readCount v_keys v_h]) X hP hD hS (c_Model_empties l D k t b0 o0 c27 c15 v_saved c16 c17 c18 c19 c20 c21 c22 c23 c24 c25 c26 v_text v_length v_at v_readKey v_readCount v_keys v_h 2 N r28 hg_r28) mv_X8_68 hl [] [0] 8 ⟨rfl, rfl⟩ ⟨Nat.le_of_ble_eq_true rfl, Nat.le_of_ble_eq_true rfl⟩ rfl rfl rfl rfl rfl rfl rfl (Nat.le_of_ble_eq_true rfl) dX8_leastSpace_44 (fun H locs hP hD hS => ?_)
        have hP : va_P D vwCl [W_Model k b0 o0 r28.1 r28.2 v_saved c16 c17 c18 c19 c20 c21 c22 c23 c24 c25 c26 v_text v_length v_at v_readKey v_readCount v_keys v_h].flatten _ := hP
        have hD : va_D A [W_Model k b0 o0 r28.1 r28.2 v_saved c16 c17 c18 c19 c20 c21 c22 c23 c24 c25 c26 v_text v_length v_at v_readKey v_readCount v_keys v_h].flatten := hD
        refine lv_iconst (v := 0) hx hb dX8_leastSpace_47 (by decide) ?_
        refine lv_istore (lv' := [(5, .int 0), (0, .ref (b0 o0)), (1, .int i10), (2, .int i11), (3, .int i12), (4, .int i13)]) hx hb dX8_leastSpace_48 hl (by decide) rfl (fun ls hl => ?_)
        refine w_Model_leastSpace_L50 X b0 o0 v_row v_number v_saved v_place v_low v_high v_lowBefore v_highBefore v_least v_greatest v_things v_changing v_overLow v_overHigh v_text v_length v_at v_readKey v_readCount v_keys v_h N i10 i11 i13 c16 c17 c18 c19 c20 c21 c22 c23 c24 c25 c26 out _ ?_ N 0 r28.1 r28.2 _ _ _ hP hD hS (lv_sub hl [1, 2, 3, 5, 0] rfl) hf
        · intro i52 c53 c54 H locs ls hP hD hS hl hf
          refine lv_aload_n hx hb dX8_leastSpace_94 rfl (lv_at hl 0 rfl) ?_
          refine lv_iconst (v := 2) hx hb dX8_leastSpace_95 (by decide) ?_
          obtain ⟨r55, hg_r55, hf⟩ := ofbind hf
          refine kcV (bs := [W_Model k b0 o0 c53 c54 v_saved c16 c17 c18 c19 c20 c21 c22 c23 c24 c25 c26 v_text v_length v_at v_readKey v_readCount v_keys v_h]) (br := []) (bc := [W_Model k b0 o0 c53 c54 v_saved c16 c17 c18 c19 c20 c21 c22 c23 c24 c25 c26 v_text v_length v_at v_readKey v_readCount v_keys v_h]) (bc' := [W_Model k b0 o0 c53 c54 v_saved r55.2.1 r55.2.2.1 r55.2.2.2.1 r55.2.2.2.2.1 r55.2.2.2.2.2.1 r55.2.2.2.2.2.2.1 r55.2.2.2.2.2.2.2.1 r55.2.2.2.2.2.2.2.2.1 r55.2.2.2.2.2.2.2.2.2.1 r55.2.2.2.2.2.2.2.2.2.2.1 r55.2.2.2.2.2.2.2.2.2.2.2 v_text v_length v_at v_readKey v_readCount v_keys v_h]) X hP hD hS (c_Model_certainOf l D k t b0 o0 c53 c54 v_saved c16 c17 c18 c19 c20 c21 c22 c23 c24 c25 c26 v_text v_length v_at v_readKey v_readCount v_keys v_h 2 N r55 hg_r55) mv_X8_160 hl [] [0] 8 ⟨rfl, rfl⟩ ⟨Nat.le_of_ble_eq_true rfl, Nat.le_of_ble_eq_true rfl⟩ rfl rfl rfl rfl rfl rfl rfl (Nat.le_of_ble_eq_true rfl) dX8_leastSpace_96 (fun H locs hP hD hS => ?_)
          have hP : va_P D vwCl [W_Model k b0 o0 c53 c54 v_saved r55.2.1 r55.2.2.1 r55.2.2.2.1 r55.2.2.2.2.1 r55.2.2.2.2.2.1 r55.2.2.2.2.2.2.1 r55.2.2.2.2.2.2.2.1 r55.2.2.2.2.2.2.2.2.1 r55.2.2.2.2.2.2.2.2.2.1 r55.2.2.2.2.2.2.2.2.2.2.1 r55.2.2.2.2.2.2.2.2.2.2.2 v_text v_length v_at v_readKey v_readCount v_keys v_h].flatten _ := hP
          have hD : va_D A [W_Model k b0 o0 c53 c54 v_saved r55.2.1 r55.2.2.1 r55.2.2.2.1 r55.2.2.2.2.1 r55.2.2.2.2.2.1 r55.2.2.2.2.2.2.1 r55.2.2.2.2.2.2.2.1 r55.2.2.2.2.2.2.2.2.1 r55.2.2.2.2.2.2.2.2.2.1 r55.2.2.2.2.2.2.2.2.2.2.1 r55.2.2.2.2.2.2.2.2.2.2.2 v_text v_length v_at v_readKey v_readCount v_keys v_h].flatten := hD
          refine lv_iconst (v := 1) hx hb dX8_leastSpace_99 (by decide) ?_
          refine lv_aload_n hx hb dX8_leastSpace_100 rfl (lv_at hl 0 rfl) ?_
          refine kget (v := .ref (b0 (o0+1))) X hP ff_X8_7 0 rfl rfl dX8_leastSpace_101 ?_
          refine lv_bipush (v := 6) hx hb dX8_leastSpace_104 (by decide) ?_
          obtain ⟨hc, hf⟩ := ofck hf
          refine kiald (f := c53) (n := 1002) X hP 1 rfl hc dX8_leastSpace_106 ?_
          refine lv_ishl hx hb dX8_leastSpace_107 ?_
          refine lv_iconst (v := 1) hx hb dX8_leastSpace_108 (by decide) ?_
          refine lv_isub hx hb dX8_leastSpace_109 ?_
          refine lv_icmp_ne (tgt := 118) hx hb dX8_leastSpace_110 (by decide) (fun hc => ?_) (fun hc => ?_)
          · have hf := ofneg hf hc
            refine lv_iconst (v := (-1)) hx hb dX8_leastSpace_118 (by decide) ?_
            refine lv_istore_n (lv' := [(3, .int (-1)), (0, .ref (b0 o0)), (1, .int i10), (2, .int i11), (4, .int i13)]) hx hb dX8_leastSpace_119 rfl hl (by decide) rfl (fun ls hl => ?_)
            refine lv_iinc (v := i13 + 1) (lv' := [(4, .int (i13 + 1)), (3, .int (-1)), (0, .ref (b0 o0)), (1, .int i10), (2, .int i11)]) hx hb dX8_leastSpace_120 hl (k := 4) rfl rfl (by decide) rfl (fun ls hl => ?_)
            refine lv_goto (tgt := 22) hx hb dX8_leastSpace_123 (by decide) ?_
            exact ih (-1) (i13 + 1) c53 c54 r55.2.1 r55.2.2.1 r55.2.2.2.1 r55.2.2.2.2.1 r55.2.2.2.2.2.1 r55.2.2.2.2.2.2.1 r55.2.2.2.2.2.2.2.1 r55.2.2.2.2.2.2.2.2.1 r55.2.2.2.2.2.2.2.2.2.1 r55.2.2.2.2.2.2.2.2.2.2.1 r55.2.2.2.2.2.2.2.2.2.2.2 _ _ _ hP hD hS (lv_sub hl [2, 3, 4, 1, 0] rfl) hf
          · have hf := ofpos hf hc
            refine lv_iload hx hb dX8_leastSpace_113 (lv_at hl 3 rfl) ?_
            refine lv_goto (tgt := 119) hx hb dX8_leastSpace_115 (by decide) ?_
            refine lv_istore_n (lv' := [(3, .int i13), (0, .ref (b0 o0)), (1, .int i10), (2, .int i11), (4, .int i13)]) hx hb dX8_leastSpace_119 rfl hl (by decide) rfl (fun ls hl => ?_)
            refine lv_iinc (v := i13 + 1) (lv' := [(4, .int (i13 + 1)), (3, .int i13), (0, .ref (b0 o0)), (1, .int i10), (2, .int i11)]) hx hb dX8_leastSpace_120 hl (k := 4) rfl rfl (by decide) rfl (fun ls hl => ?_)
            refine lv_goto (tgt := 22) hx hb dX8_leastSpace_123 (by decide) ?_
            exact ih i13 (i13 + 1) c53 c54 r55.2.1 r55.2.2.1 r55.2.2.2.1 r55.2.2.2.2.1 r55.2.2.2.2.2.1 r55.2.2.2.2.2.2.1 r55.2.2.2.2.2.2.2.1 r55.2.2.2.2.2.2.2.2.1 r55.2.2.2.2.2.2.2.2.2.1 r55.2.2.2.2.2.2.2.2.2.2.1 r55.2.2.2.2.2.2.2.2.2.2.2 _ _ _ hP hD hS (lv_sub hl [2, 3, 4, 1, 0] rfl) hf
set_option maxRecDepth 100000 in
set_option maxHeartbeats 1000000 in
theorem c_Model_leastSpace (l : Launch) (D : va_G) (k : Nat → ClassId) (t : Nat → Nat) (b0 : Nat → Nat) (o0 : Nat) (v_row : FI) (v_number : FJ) (v_saved : Int32) (v_place : FI) (v_low : FJ) (v_high : FJ) (v_lowBefore : FJ) (v_highBefore : FJ) (v_least : FJ) (v_greatest : FJ) (v_things : Int32) (v_changing : Int32) (v_overLow : FJ) (v_overHigh : FJ) (v_text : FI) (v_length : Int32) (v_at : Int32) (v_readKey : FI) (v_readCount : FJ) (v_keys : Int32) (v_h : Int64) (x1 : Int32) (N : Nat) (out : Int32 × FI × FJ × FI × FJ × FJ × FJ × FJ × FJ × FJ × Int32 × Int32 × FJ × FJ) (hf : f_Model_leastSpace N x1 v_row v_number v_place v_low v_high v_lowBefore v_highBefore v_least v_greatest v_things v_changing v_overLow v_overHigh = some out) : CT l D k t yX8_leastSpace cX8_leastSpace 6 (some .int) rm_Model_leastSpace [.ref (b0 o0), .int x1] [W_Model k b0 o0 v_row v_number v_saved v_place v_low v_high v_lowBefore v_highBefore v_least v_greatest v_things v_changing v_overLow v_overHigh v_text v_length v_at v_readKey v_readCount v_keys v_h].flatten (some (.int out.1)) [W_Model k b0 o0 out.2.1 out.2.2.1 v_saved out.2.2.2.1 out.2.2.2.2.1 out.2.2.2.2.2.1 out.2.2.2.2.2.2.1 out.2.2.2.2.2.2.2.1 out.2.2.2.2.2.2.2.2.1 out.2.2.2.2.2.2.2.2.2.1 out.2.2.2.2.2.2.2.2.2.2.1 out.2.2.2.2.2.2.2.2.2.2.2.1 out.2.2.2.2.2.2.2.2.2.2.2.2.1 out.2.2.2.2.2.2.2.2.2.2.2.2.2 v_text v_length v_at v_readKey v_readCount v_keys v_h].flatten := by
  refine kofW (by decide) (Nat.le_of_ble_eq_true rfl) ?_
  intro p e s m below meth c A ls X hP hD hS hl
  have hx := X.1.1
  have hb := X.1.2.1
  have hml := X.1.2.2.1
  have hown := X.1.2.2.2.1
  have hts := X.1.2.2.2.2
  have hl : lv_has ls 6 [(0, .ref (b0 o0)), (1, .int x1)] := hl
  rw [f_Model_leastSpace] at hf
  refine lv_iload_n hx hb dX8_leastSpace_0 rfl (lv_at hl 1 rfl) ?_
  obtain ⟨r1, hg_r1, hf⟩ := ofbind hf
  refine kcS (bs := [W_Model k b0 o0 v_row v_number v_saved v_place v_low v_high v_lowBefore v_highBefore v_least v_greatest v_things v_changing v_overLow v_overHigh v_text v_length v_at v_readKey v_readCount v_keys v_h]) (br := [W_Model k b0 o0 v_row v_number v_saved v_place v_low v_high v_lowBefore v_highBefore v_least v_greatest v_things v_changing v_overLow v_overHigh v_text v_length v_at v_readKey v_readCount v_keys v_h]) (bc := []) (bc' := []) X hP hD hS (c_Model_isBraid l D k t x1 r1 hg_r1) ms_X8_100 hl [0] [] ⟨rfl, rfl⟩ ⟨Nat.le_of_ble_eq_true rfl, Nat.le_of_ble_eq_true rfl⟩ rfl rfl rfl rfl (Nat.le_of_ble_eq_true rfl) dX8_leastSpace_1 (fun H locs hP hD hS => ?_)
  have hP : va_P D vwCl [W_Model k b0 o0 v_row v_number v_saved v_place v_low v_high v_lowBefore v_highBefore v_least v_greatest v_things v_changing v_overLow v_overHigh v_text v_length v_at v_readKey v_readCount v_keys v_h].flatten _ := hP
  have hD : va_D A [W_Model k b0 o0 v_row v_number v_saved v_place v_low v_high v_lowBefore v_highBefore v_least v_greatest v_things v_changing v_overLow v_overHigh v_text v_length v_at v_readKey v_readCount v_keys v_h].flatten := hD
  refine lv_if_ne (tgt := 10) hx hb dX8_leastSpace_4 (by decide) (fun hc => ?_) (fun hc => ?_)
  · have hf := ofneg hf hc
    refine lv_aload_n hx hb dX8_leastSpace_10 rfl (lv_at hl 0 rfl) ?_
    refine kget (v := .ref (b0 (o0+1))) X hP ff_X8_7 0 rfl rfl dX8_leastSpace_11 ?_
    refine lv_iconst (v := 0) hx hb dX8_leastSpace_14 (by decide) ?_
    obtain ⟨hc, hf⟩ := ofck hf
    refine kiald (f := v_row) (n := 1002) X hP 1 rfl hc dX8_leastSpace_15 ?_
    refine lv_istore_n (lv' := [(2, .int (v_row (0 : Int32).toNatClampNeg)), (0, .ref (b0 o0)), (1, .int x1)]) hx hb dX8_leastSpace_16 rfl hl (by decide) rfl (fun ls hl => ?_)
    refine lv_iconst (v := (-1)) hx hb dX8_leastSpace_17 (by decide) ?_
    refine lv_istore_n (lv' := [(3, .int (-1)), (2, .int (v_row (0 : Int32).toNatClampNeg)), (0, .ref (b0 o0)), (1, .int x1)]) hx hb dX8_leastSpace_18 rfl hl (by decide) rfl (fun ls hl => ?_)
    refine lv_iconst (v := 2) hx hb dX8_leastSpace_19 (by decide) ?_
    refine lv_istore (lv' := [(4, .int 2), (3, .int (-1)), (2, .int (v_row (0 : Int32).toNatClampNeg)), (0, .ref (b0 o0)), (1, .int x1)]) hx hb dX8_leastSpace_20 hl (by decide) rfl (fun ls hl => ?_)
    refine w_Model_leastSpace_L22 X b0 o0 v_row v_number v_saved v_place v_low v_high v_lowBefore v_highBefore v_least v_greatest v_things v_changing v_overLow v_overHigh v_text v_length v_at v_readKey v_readCount v_keys v_h N x1 (v_row (0 : Int32).toNatClampNeg) out _ ?_ N (-1) 2 v_row v_number v_place v_low v_high v_lowBefore v_highBefore v_least v_greatest v_things v_changing v_overLow v_overHigh _ _ _ hP hD hS (lv_sub hl [3, 4, 2, 1, 0] rfl) hf
    · intro i56 i57 c58 c59 c60 c61 c62 c63 c64 c65 c66 c67 c68 c69 c70 H locs ls hP hD hS hl hf
      refine lv_aload_n hx hb dX8_leastSpace_126 rfl (lv_at hl 0 rfl) ?_
      refine kget (v := .ref (b0 (o0+1))) X hP ff_X8_7 0 rfl rfl dX8_leastSpace_127 ?_
      refine lv_iconst (v := 0) hx hb dX8_leastSpace_130 (by decide) ?_
      refine lv_iload_n hx hb dX8_leastSpace_131 rfl (lv_at hl 1 rfl) ?_
      obtain ⟨hc, hf⟩ := ofck hf
      generalize hc71 : upd c58 (0 : Int32).toNatClampNeg (v_row (0 : Int32).toNatClampNeg) = c71 at hf
      refine kiast2 (f := c58) (n := 1002) (g := c71) X hP hD hS 1 rfl hc hc71 dX8_leastSpace_132 (fun H locs hP hD hS => ?_)
      have hP : va_P D vwCl [W_Model k b0 o0 c71 c59 v_saved c60 c61 c62 c63 c64 c65 c66 c67 c68 c69 c70 v_text v_length v_at v_readKey v_readCount v_keys v_h].flatten _ := hP
      have hD : va_D A [W_Model k b0 o0 c71 c59 v_saved c60 c61 c62 c63 c64 c65 c66 c67 c68 c69 c70 v_text v_length v_at v_readKey v_readCount v_keys v_h].flatten := hD
      refine lv_iload_n hx hb dX8_leastSpace_133 rfl (lv_at hl 2 rfl) ?_
      have hf := Option.some.inj hf
      subst hf
      exact kiret (v := i56) X hP hD hS dX8_leastSpace_134
  · have hf := ofpos hf hc
    refine lv_bipush (v := (-2)) hx hb dX8_leastSpace_7 (by decide) ?_
    have hf := Option.some.inj hf
    subst hf
    exact kiret (v := (-2)) X hP hD hS dX8_leastSpace_9
/-! Model_bits: public int bits(); -/
abbrev rm_Model_bits : Room := ({ frames := 0, cells := 0, slots := 0, locals := 0 } : Room)
def f_Model_bits (v_row : FI) : Option (Int32) := if ck 0 1002 = true then if ck 1 1002 = true then if ck 3 1002 = true then some (((v_row (0 : Int32).toNatClampNeg) * ((v_row (1 : Int32).toNatClampNeg) + 1)) + (32 * (v_row (3 : Int32).toNatClampNeg))) else none else none else none
abbrev Q_Model_bits (below : List Frame) (D : va_G) (k : Nat → ClassId) (A : Nat → Prop) (args : Array Value) (s : State) (b0 : Nat → Nat) (o0 : Nat) (v_row : FI) (v_number : FJ) (v_saved : Int32) (v_place : FI) (v_low : FJ) (v_high : FJ) (v_lowBefore : FJ) (v_highBefore : FJ) (v_least : FJ) (v_greatest : FJ) (v_things : Int32) (v_changing : Int32) (v_overLow : FJ) (v_overHigh : FJ) (v_text : FI) (v_length : Int32) (v_at : Int32) (v_readKey : FI) (v_readCount : FJ) (v_keys : Int32) (v_h : Int64) (out : Int32) : State → Prop := MQ below (QW D k A (some (.int out)) [W_Model k b0 o0 v_row v_number v_saved v_place v_low v_high v_lowBefore v_highBefore v_least v_greatest v_things v_changing v_overLow v_overHigh v_text v_length v_at v_readKey v_readCount v_keys v_h].flatten) args s 0 0 A
set_option maxRecDepth 100000 in
set_option maxHeartbeats 1000000 in
theorem c_Model_bits (l : Launch) (D : va_G) (k : Nat → ClassId) (t : Nat → Nat) (b0 : Nat → Nat) (o0 : Nat) (v_row : FI) (v_number : FJ) (v_saved : Int32) (v_place : FI) (v_low : FJ) (v_high : FJ) (v_lowBefore : FJ) (v_highBefore : FJ) (v_least : FJ) (v_greatest : FJ) (v_things : Int32) (v_changing : Int32) (v_overLow : FJ) (v_overHigh : FJ) (v_text : FI) (v_length : Int32) (v_at : Int32) (v_readKey : FI) (v_readCount : FJ) (v_keys : Int32) (v_h : Int64) (out : Int32) (hf : f_Model_bits v_row = some out) : CT l D k t yX8_bits cX8_bits 1 (some .int) rm_Model_bits [.ref (b0 o0)] [W_Model k b0 o0 v_row v_number v_saved v_place v_low v_high v_lowBefore v_highBefore v_least v_greatest v_things v_changing v_overLow v_overHigh v_text v_length v_at v_readKey v_readCount v_keys v_h].flatten (some (.int out)) [W_Model k b0 o0 v_row v_number v_saved v_place v_low v_high v_lowBefore v_highBefore v_least v_greatest v_things v_changing v_overLow v_overHigh v_text v_length v_at v_readKey v_readCount v_keys v_h].flatten := by
  refine kofW (by decide) (Nat.le_of_ble_eq_true rfl) ?_
  intro p e s m below meth c A ls X hP hD hS hl
  have N : Nat := 0
  have hx := X.1.1
  have hb := X.1.2.1
  have hml := X.1.2.2.1
  have hown := X.1.2.2.2.1
  have hts := X.1.2.2.2.2
  have hl : lv_has ls 1 [(0, .ref (b0 o0))] := hl
  rw [f_Model_bits] at hf
  refine lv_aload_n hx hb dX8_bits_0 rfl (lv_at hl 0 rfl) ?_
  refine kget (v := .ref (b0 (o0+1))) X hP ff_X8_7 0 rfl rfl dX8_bits_1 ?_
  refine lv_iconst (v := 0) hx hb dX8_bits_4 (by decide) ?_
  obtain ⟨hc, hf⟩ := ofck hf
  refine kiald (f := v_row) (n := 1002) X hP 1 rfl hc dX8_bits_5 ?_
  refine lv_aload_n hx hb dX8_bits_6 rfl (lv_at hl 0 rfl) ?_
  refine kget (v := .ref (b0 (o0+1))) X hP ff_X8_7 0 rfl rfl dX8_bits_7 ?_
  refine lv_iconst (v := 1) hx hb dX8_bits_10 (by decide) ?_
  obtain ⟨hc, hf⟩ := ofck hf
  refine kiald (f := v_row) (n := 1002) X hP 1 rfl hc dX8_bits_11 ?_
  refine lv_iconst (v := 1) hx hb dX8_bits_12 (by decide) ?_
  refine lv_iadd hx hb dX8_bits_13 ?_
  refine lv_imul hx hb dX8_bits_14 ?_
  refine lv_bipush (v := 32) hx hb dX8_bits_15 (by decide) ?_
  refine lv_aload_n hx hb dX8_bits_17 rfl (lv_at hl 0 rfl) ?_
  refine kget (v := .ref (b0 (o0+1))) X hP ff_X8_7 0 rfl rfl dX8_bits_18 ?_
  refine lv_iconst (v := 3) hx hb dX8_bits_21 (by decide) ?_
  obtain ⟨hc, hf⟩ := ofck hf
  refine kiald (f := v_row) (n := 1002) X hP 1 rfl hc dX8_bits_22 ?_
  refine lv_imul hx hb dX8_bits_23 ?_
  refine lv_iadd hx hb dX8_bits_24 ?_
  have hf := Option.some.inj hf
  subst hf
  exact kiret (v := ((v_row (0 : Int32).toNatClampNeg) * ((v_row (1 : Int32).toNatClampNeg) + 1)) + (32 * (v_row (3 : Int32).toNatClampNeg))) X hP hD hS dX8_bits_25
/-! Model_undo: public int undo(); -/
abbrev rm_Model_undo : Room := ({ frames := 1, cells := 0, slots := 0, locals := 23 } : Room)
def f_Model_undo (N : Nat) (v_row : FI) (v_number : FJ) (v_saved : Int32) : Option (Int32 × FI × FJ × Int32) := if v_saved = 0 then some ((-4), v_row, v_number, v_saved) else (f_Model_copies N v_saved 0 v_row v_number).bind (fun r1 => some ((v_saved - 1), r1.1, r1.2, (v_saved - 1)))
abbrev Q_Model_undo (below : List Frame) (D : va_G) (k : Nat → ClassId) (A : Nat → Prop) (args : Array Value) (s : State) (b0 : Nat → Nat) (o0 : Nat) (v_row : FI) (v_number : FJ) (v_saved : Int32) (v_place : FI) (v_low : FJ) (v_high : FJ) (v_lowBefore : FJ) (v_highBefore : FJ) (v_least : FJ) (v_greatest : FJ) (v_things : Int32) (v_changing : Int32) (v_overLow : FJ) (v_overHigh : FJ) (v_text : FI) (v_length : Int32) (v_at : Int32) (v_readKey : FI) (v_readCount : FJ) (v_keys : Int32) (v_h : Int64) (out : Int32 × FI × FJ × Int32) : State → Prop := MQ below (QW D k A (some (.int out.1)) [W_Model k b0 o0 out.2.1 out.2.2.1 out.2.2.2 v_place v_low v_high v_lowBefore v_highBefore v_least v_greatest v_things v_changing v_overLow v_overHigh v_text v_length v_at v_readKey v_readCount v_keys v_h].flatten) args s 0 0 A
set_option maxRecDepth 100000 in
set_option maxHeartbeats 1000000 in
theorem c_Model_undo (l : Launch) (D : va_G) (k : Nat → ClassId) (t : Nat → Nat) (b0 : Nat → Nat) (o0 : Nat) (v_row : FI) (v_number : FJ) (v_saved : Int32) (v_place : FI) (v_low : FJ) (v_high : FJ) (v_lowBefore : FJ) (v_highBefore : FJ) (v_least : FJ) (v_greatest : FJ) (v_things : Int32) (v_changing : Int32) (v_overLow : FJ) (v_overHigh : FJ) (v_text : FI) (v_length : Int32) (v_at : Int32) (v_readKey : FI) (v_readCount : FJ) (v_keys : Int32) (v_h : Int64) (N : Nat) (out : Int32 × FI × FJ × Int32) (hf : f_Model_undo N v_row v_number v_saved = some out) : CT l D k t yX8_undo cX8_undo 1 (some .int) rm_Model_undo [.ref (b0 o0)] [W_Model k b0 o0 v_row v_number v_saved v_place v_low v_high v_lowBefore v_highBefore v_least v_greatest v_things v_changing v_overLow v_overHigh v_text v_length v_at v_readKey v_readCount v_keys v_h].flatten (some (.int out.1)) [W_Model k b0 o0 out.2.1 out.2.2.1 out.2.2.2 v_place v_low v_high v_lowBefore v_highBefore v_least v_greatest v_things v_changing v_overLow v_overHigh v_text v_length v_at v_readKey v_readCount v_keys v_h].flatten := by
  refine kofW (by decide) (Nat.le_of_ble_eq_true rfl) ?_
  intro p e s m below meth c A ls X hP hD hS hl
  have hx := X.1.1
  have hb := X.1.2.1
  have hml := X.1.2.2.1
  have hown := X.1.2.2.2.1
  have hts := X.1.2.2.2.2
  have hl : lv_has ls 1 [(0, .ref (b0 o0))] := hl
  rw [f_Model_undo] at hf
  refine lv_aload_n hx hb dX8_undo_0 rfl (lv_at hl 0 rfl) ?_
  refine kget (v := .int v_saved) X hP ff_X8_53 0 rfl rfl dX8_undo_1 ?_
  refine lv_if_ne (tgt := 10) hx hb dX8_undo_4 (by decide) (fun hc => ?_) (fun hc => ?_)
  · have hf := ofneg hf hc
    refine lv_aload_n hx hb dX8_undo_10 rfl (lv_at hl 0 rfl) ?_
    refine lv_aload_n hx hb dX8_undo_11 rfl (lv_at hl 0 rfl) ?_
    refine kget (v := .int v_saved) X hP ff_X8_53 0 rfl rfl dX8_undo_12 ?_
    refine lv_iconst (v := 0) hx hb dX8_undo_15 (by decide) ?_
    obtain ⟨r1, hg_r1, hf⟩ := ofbind hf
    refine kcV (bs := [W_Model k b0 o0 v_row v_number v_saved v_place v_low v_high v_lowBefore v_highBefore v_least v_greatest v_things v_changing v_overLow v_overHigh v_text v_length v_at v_readKey v_readCount v_keys v_h]) (br := []) (bc := [W_Model k b0 o0 v_row v_number v_saved v_place v_low v_high v_lowBefore v_highBefore v_least v_greatest v_things v_changing v_overLow v_overHigh v_text v_length v_at v_readKey v_readCount v_keys v_h]) (bc' := [W_Model k b0 o0 r1.1 r1.2 v_saved v_place v_low v_high v_lowBefore v_highBefore v_least v_greatest v_things v_changing v_overLow v_overHigh v_text v_length v_at v_readKey v_readCount v_keys v_h]) X hP hD hS (c_Model_copies l D k t b0 o0 v_row v_number v_saved v_place v_low v_high v_lowBefore v_highBefore v_least v_greatest v_things v_changing v_overLow v_overHigh v_text v_length v_at v_readKey v_readCount v_keys v_h v_saved 0 N r1 hg_r1) mv_X8_57 hl [] [0] 8 ⟨rfl, rfl⟩ ⟨Nat.le_of_ble_eq_true rfl, Nat.le_of_ble_eq_true rfl⟩ rfl rfl rfl rfl rfl rfl rfl (Nat.le_of_ble_eq_true rfl) dX8_undo_16 (fun H locs hP hD hS => ?_)
    have hP : va_P D vwCl [W_Model k b0 o0 r1.1 r1.2 v_saved v_place v_low v_high v_lowBefore v_highBefore v_least v_greatest v_things v_changing v_overLow v_overHigh v_text v_length v_at v_readKey v_readCount v_keys v_h].flatten _ := hP
    have hD : va_D A [W_Model k b0 o0 r1.1 r1.2 v_saved v_place v_low v_high v_lowBefore v_highBefore v_least v_greatest v_things v_changing v_overLow v_overHigh v_text v_length v_at v_readKey v_readCount v_keys v_h].flatten := hD
    refine lv_aload_n hx hb dX8_undo_19 rfl (lv_at hl 0 rfl) ?_
    refine lv_dup hx hb dX8_undo_20 rfl ?_
    refine kget (v := .int v_saved) X hP ff_X8_53 0 rfl rfl dX8_undo_21 ?_
    refine lv_iconst (v := 1) hx hb dX8_undo_24 (by decide) ?_
    refine lv_isub hx hb dX8_undo_25 ?_
    generalize hy2 : v_saved - 1 = y2 at hf ⊢
    refine kputi (v := y2) X hP hD hS fp_X8_53 0 rfl (Nat.le_of_ble_eq_true rfl) dX8_undo_26 (fun H locs hP hD hS => ?_)
    have hP : va_P D vwCl [W_Model k b0 o0 r1.1 r1.2 y2 v_place v_low v_high v_lowBefore v_highBefore v_least v_greatest v_things v_changing v_overLow v_overHigh v_text v_length v_at v_readKey v_readCount v_keys v_h].flatten _ := hP
    have hD : va_D A [W_Model k b0 o0 r1.1 r1.2 y2 v_place v_low v_high v_lowBefore v_highBefore v_least v_greatest v_things v_changing v_overLow v_overHigh v_text v_length v_at v_readKey v_readCount v_keys v_h].flatten := hD
    refine lv_aload_n hx hb dX8_undo_29 rfl (lv_at hl 0 rfl) ?_
    refine kget (v := .int y2) X hP ff_X8_53 0 rfl rfl dX8_undo_30 ?_
    have hf := Option.some.inj hf
    subst hf
    exact kiret (v := y2) X hP hD hS dX8_undo_33
  · have hf := ofpos hf hc
    refine lv_bipush (v := (-4)) hx hb dX8_undo_7 (by decide) ?_
    have hf := Option.some.inj hf
    subst hf
    exact kiret (v := (-4)) X hP hD hS dX8_undo_9
