/-! Model_boundAfter: public long boundAfter(int, int, boolean, int); -/
abbrev rm_Model_boundAfter : Room := ({ frames := 6, cells := 0, slots := 0, locals := 147 } : Room)
def f_Model_boundAfter (N : Nat) (x1 : Int32) (x2 : Int32) (x3 : Int32) (x4 : Int32) (v_row : FI) (v_number : FJ) (v_place : FI) (v_low : FJ) (v_high : FJ) (v_lowBefore : FJ) (v_highBefore : FJ) (v_least : FJ) (v_greatest : FJ) (v_things : Int32) (v_changing : Int32) (v_overLow : FJ) (v_overHigh : FJ) : Option (Int64 × FI × FJ × FJ × FJ × FJ × FJ × FJ × Int32 × Int32 × FJ × FJ) := (f_Model_isBraid x1).bind (fun r1 => if r1 = 0 then some ((-2), v_place, v_low, v_high, v_lowBefore, v_highBefore, v_least, v_greatest, v_things, v_changing, v_overLow, v_overHigh) else (f_Model_isFlow x2 v_row).bind (fun r2 => if r2 = 0 then some ((-2), v_place, v_low, v_high, v_lowBefore, v_highBefore, v_least, v_greatest, v_things, v_changing, v_overLow, v_overHigh) else (f_Model_in x4 0 60).bind (fun r3 => if r3 = 0 then some ((-3), v_place, v_low, v_high, v_lowBefore, v_highBefore, v_least, v_greatest, v_things, v_changing, v_overLow, v_overHigh) else (f_Model_boundOf N x1 x2 x3 x4 v_row v_number v_place v_low v_high v_lowBefore v_highBefore v_least v_greatest v_things v_changing v_overLow v_overHigh).bind (fun r4 => some (r4.1, r4.2.1, r4.2.2.1, r4.2.2.2.1, r4.2.2.2.2.1, r4.2.2.2.2.2.1, r4.2.2.2.2.2.2.1, r4.2.2.2.2.2.2.2.1, r4.2.2.2.2.2.2.2.2.1, r4.2.2.2.2.2.2.2.2.2.1, r4.2.2.2.2.2.2.2.2.2.2.1, r4.2.2.2.2.2.2.2.2.2.2.2)))))
abbrev Q_Model_boundAfter (below : List Frame) (D : va_G) (k : Nat → ClassId) (A : Nat → Prop) (args : Array Value) (s : State) (b0 : Nat → Nat) (o0 : Nat) (v_row : FI) (v_number : FJ) (v_saved : Int32) (v_place : FI) (v_low : FJ) (v_high : FJ) (v_lowBefore : FJ) (v_highBefore : FJ) (v_least : FJ) (v_greatest : FJ) (v_things : Int32) (v_changing : Int32) (v_overLow : FJ) (v_overHigh : FJ) (v_text : FI) (v_length : Int32) (v_at : Int32) (v_readKey : FI) (v_readCount : FJ) (v_keys : Int32) (v_h : Int64) (out : Int64 × FI × FJ × FJ × FJ × FJ × FJ × FJ × Int32 × Int32 × FJ × FJ) : State → Prop := MQ below (QW D k A (some (.long out.1)) [W_Model k b0 o0 v_row v_number v_saved out.2.1 out.2.2.1 out.2.2.2.1 out.2.2.2.2.1 out.2.2.2.2.2.1 out.2.2.2.2.2.2.1 out.2.2.2.2.2.2.2.1 out.2.2.2.2.2.2.2.2.1 out.2.2.2.2.2.2.2.2.2.1 out.2.2.2.2.2.2.2.2.2.2.1 out.2.2.2.2.2.2.2.2.2.2.2 v_text v_length v_at v_readKey v_readCount v_keys v_h].flatten) args s 0 0 A
set_option maxRecDepth 100000 in
set_option maxHeartbeats 1000000 in
theorem c_Model_boundAfter (l : Launch) (D : va_G) (k : Nat → ClassId) (t : Nat → Nat) (b0 : Nat → Nat) (o0 : Nat) (v_row : FI) (v_number : FJ) (v_saved : Int32) (v_place : FI) (v_low : FJ) (v_high : FJ) (v_lowBefore : FJ) (v_highBefore : FJ) (v_least : FJ) (v_greatest : FJ) (v_things : Int32) (v_changing : Int32) (v_overLow : FJ) (v_overHigh : FJ) (v_text : FI) (v_length : Int32) (v_at : Int32) (v_readKey : FI) (v_readCount : FJ) (v_keys : Int32) (v_h : Int64) (x1 : Int32) (x2 : Int32) (x3 : Int32) (x4 : Int32) (N : Nat) (out : Int64 × FI × FJ × FJ × FJ × FJ × FJ × FJ × Int32 × Int32 × FJ × FJ) (hf : f_Model_boundAfter N x1 x2 x3 x4 v_row v_number v_place v_low v_high v_lowBefore v_highBefore v_least v_greatest v_things v_changing v_overLow v_overHigh = some out) : CT l D k t yX8_boundAfter cX8_boundAfter 5 (some .long) rm_Model_boundAfter [.ref (b0 o0), .int x1, .int x2, .int x3, .int x4] [W_Model k b0 o0 v_row v_number v_saved v_place v_low v_high v_lowBefore v_highBefore v_least v_greatest v_things v_changing v_overLow v_overHigh v_text v_length v_at v_readKey v_readCount v_keys v_h].flatten (some (.long out.1)) [W_Model k b0 o0 v_row v_number v_saved out.2.1 out.2.2.1 out.2.2.2.1 out.2.2.2.2.1 out.2.2.2.2.2.1 out.2.2.2.2.2.2.1 out.2.2.2.2.2.2.2.1 out.2.2.2.2.2.2.2.2.1 out.2.2.2.2.2.2.2.2.2.1 out.2.2.2.2.2.2.2.2.2.2.1 out.2.2.2.2.2.2.2.2.2.2.2 v_text v_length v_at v_readKey v_readCount v_keys v_h].flatten := by
  refine kofW (by decide) (Nat.le_of_ble_eq_true rfl) ?_
  intro p e s m below meth c A ls X hP hD hS hl
  have hx := X.1.1
  have hb := X.1.2.1
  have hml := X.1.2.2.1
  have hown := X.1.2.2.2.1
  have hts := X.1.2.2.2.2
  have hl : lv_has ls 5 [(0, .ref (b0 o0)), (1, .int x1), (2, .int x2), (3, .int x3), (4, .int x4)] := hl
  rw [f_Model_boundAfter] at hf
  refine lv_iload_n hx hb dX8_boundAfter_0 rfl (lv_at hl 1 rfl) ?_
  obtain ⟨r1, hg_r1, hf⟩ := ofbind hf
  refine kcS (bs := [W_Model k b0 o0 v_row v_number v_saved v_place v_low v_high v_lowBefore v_highBefore v_least v_greatest v_things v_changing v_overLow v_overHigh v_text v_length v_at v_readKey v_readCount v_keys v_h]) (br := [W_Model k b0 o0 v_row v_number v_saved v_place v_low v_high v_lowBefore v_highBefore v_least v_greatest v_things v_changing v_overLow v_overHigh v_text v_length v_at v_readKey v_readCount v_keys v_h]) (bc := []) (bc' := []) X hP hD hS (c_Model_isBraid l D k t x1 r1 hg_r1) ms_X8_100 hl [0] [] ⟨rfl, rfl⟩ ⟨Nat.le_of_ble_eq_true rfl, Nat.le_of_ble_eq_true rfl⟩ rfl rfl rfl rfl (Nat.le_of_ble_eq_true rfl) dX8_boundAfter_1 (fun H locs hP hD hS => ?_)
  have hP : va_P D vwCl [W_Model k b0 o0 v_row v_number v_saved v_place v_low v_high v_lowBefore v_highBefore v_least v_greatest v_things v_changing v_overLow v_overHigh v_text v_length v_at v_readKey v_readCount v_keys v_h].flatten _ := hP
  have hD : va_D A [W_Model k b0 o0 v_row v_number v_saved v_place v_low v_high v_lowBefore v_highBefore v_least v_greatest v_things v_changing v_overLow v_overHigh v_text v_length v_at v_readKey v_readCount v_keys v_h].flatten := hD
  refine lv_if_eq (tgt := 15) hx hb dX8_boundAfter_4 (by decide) (fun hc => ?_) (fun hc => ?_)
  · have hf := ofpos hf hc
    refine lv_ldc2 (v := (-2)) hx hb hown (hts _ kc_X8_103) dX8_boundAfter_15 ?_
    have hf := Option.some.inj hf
    subst hf
    exact klret (v := (-2)) X hP hD hS dX8_boundAfter_18
  · have hf := ofneg hf hc
    refine lv_aload_n hx hb dX8_boundAfter_7 rfl (lv_at hl 0 rfl) ?_
    refine lv_iload_n hx hb dX8_boundAfter_8 rfl (lv_at hl 2 rfl) ?_
    obtain ⟨r2, hg_r2, hf⟩ := ofbind hf
    refine kcV (bs := [W_Model k b0 o0 v_row v_number v_saved v_place v_low v_high v_lowBefore v_highBefore v_least v_greatest v_things v_changing v_overLow v_overHigh v_text v_length v_at v_readKey v_readCount v_keys v_h]) (br := []) (bc := [W_Model k b0 o0 v_row v_number v_saved v_place v_low v_high v_lowBefore v_highBefore v_least v_greatest v_things v_changing v_overLow v_overHigh v_text v_length v_at v_readKey v_readCount v_keys v_h]) (bc' := [W_Model k b0 o0 v_row v_number v_saved v_place v_low v_high v_lowBefore v_highBefore v_least v_greatest v_things v_changing v_overLow v_overHigh v_text v_length v_at v_readKey v_readCount v_keys v_h]) X hP hD hS (c_Model_isFlow l D k t b0 o0 v_row v_number v_saved v_place v_low v_high v_lowBefore v_highBefore v_least v_greatest v_things v_changing v_overLow v_overHigh v_text v_length v_at v_readKey v_readCount v_keys v_h x2 r2 hg_r2) mv_X8_79 hl [] [0] 8 ⟨rfl, rfl⟩ ⟨Nat.le_of_ble_eq_true rfl, Nat.le_of_ble_eq_true rfl⟩ rfl rfl rfl rfl rfl rfl rfl (Nat.le_of_ble_eq_true rfl) dX8_boundAfter_9 (fun H locs hP hD hS => ?_)
    have hP : va_P D vwCl [W_Model k b0 o0 v_row v_number v_saved v_place v_low v_high v_lowBefore v_highBefore v_least v_greatest v_things v_changing v_overLow v_overHigh v_text v_length v_at v_readKey v_readCount v_keys v_h].flatten _ := hP
    have hD : va_D A [W_Model k b0 o0 v_row v_number v_saved v_place v_low v_high v_lowBefore v_highBefore v_least v_greatest v_things v_changing v_overLow v_overHigh v_text v_length v_at v_readKey v_readCount v_keys v_h].flatten := hD
    refine lv_if_ne (tgt := 19) hx hb dX8_boundAfter_12 (by decide) (fun hc => ?_) (fun hc => ?_)
    · have hf := ofneg hf hc
      refine lv_iload hx hb dX8_boundAfter_19 (lv_at hl 4 rfl) ?_
      refine lv_iconst (v := 0) hx hb dX8_boundAfter_21 (by decide) ?_
      refine lv_bipush (v := 60) hx hb dX8_boundAfter_22 (by decide) ?_
      obtain ⟨r3, hg_r3, hf⟩ := ofbind hf
      refine kcS (bs := [W_Model k b0 o0 v_row v_number v_saved v_place v_low v_high v_lowBefore v_highBefore v_least v_greatest v_things v_changing v_overLow v_overHigh v_text v_length v_at v_readKey v_readCount v_keys v_h]) (br := [W_Model k b0 o0 v_row v_number v_saved v_place v_low v_high v_lowBefore v_highBefore v_least v_greatest v_things v_changing v_overLow v_overHigh v_text v_length v_at v_readKey v_readCount v_keys v_h]) (bc := []) (bc' := []) X hP hD hS (c_Model_in l D k t x4 0 60 r3 hg_r3) ms_X8_61 hl [0] [] ⟨rfl, rfl⟩ ⟨Nat.le_of_ble_eq_true rfl, Nat.le_of_ble_eq_true rfl⟩ rfl rfl rfl rfl (Nat.le_of_ble_eq_true rfl) dX8_boundAfter_24 (fun H locs hP hD hS => ?_)
      have hP : va_P D vwCl [W_Model k b0 o0 v_row v_number v_saved v_place v_low v_high v_lowBefore v_highBefore v_least v_greatest v_things v_changing v_overLow v_overHigh v_text v_length v_at v_readKey v_readCount v_keys v_h].flatten _ := hP
      have hD : va_D A [W_Model k b0 o0 v_row v_number v_saved v_place v_low v_high v_lowBefore v_highBefore v_least v_greatest v_things v_changing v_overLow v_overHigh v_text v_length v_at v_readKey v_readCount v_keys v_h].flatten := hD
      refine lv_if_eq (tgt := 42) hx hb dX8_boundAfter_27 (by decide) (fun hc => ?_) (fun hc => ?_)
      · have hf := ofpos hf hc
        refine lv_ldc2 (v := (-3)) hx hb hown (hts _ kc_X8_106) dX8_boundAfter_42 ?_
        have hf := Option.some.inj hf
        subst hf
        exact klret (v := (-3)) X hP hD hS dX8_boundAfter_45
      · have hf := ofneg hf hc
        refine lv_aload_n hx hb dX8_boundAfter_30 rfl (lv_at hl 0 rfl) ?_
        refine lv_iload_n hx hb dX8_boundAfter_31 rfl (lv_at hl 1 rfl) ?_
        refine lv_iload_n hx hb dX8_boundAfter_32 rfl (lv_at hl 2 rfl) ?_
        refine lv_iload_n hx hb dX8_boundAfter_33 rfl (lv_at hl 3 rfl) ?_
        refine lv_iload hx hb dX8_boundAfter_34 (lv_at hl 4 rfl) ?_
        obtain ⟨r4, hg_r4, hf⟩ := ofbind hf
        refine kcV (bs := [W_Model k b0 o0 v_row v_number v_saved v_place v_low v_high v_lowBefore v_highBefore v_least v_greatest v_things v_changing v_overLow v_overHigh v_text v_length v_at v_readKey v_readCount v_keys v_h]) (br := []) (bc := [W_Model k b0 o0 v_row v_number v_saved v_place v_low v_high v_lowBefore v_highBefore v_least v_greatest v_things v_changing v_overLow v_overHigh v_text v_length v_at v_readKey v_readCount v_keys v_h]) (bc' := [W_Model k b0 o0 v_row v_number v_saved r4.2.1 r4.2.2.1 r4.2.2.2.1 r4.2.2.2.2.1 r4.2.2.2.2.2.1 r4.2.2.2.2.2.2.1 r4.2.2.2.2.2.2.2.1 r4.2.2.2.2.2.2.2.2.1 r4.2.2.2.2.2.2.2.2.2.1 r4.2.2.2.2.2.2.2.2.2.2.1 r4.2.2.2.2.2.2.2.2.2.2.2 v_text v_length v_at v_readKey v_readCount v_keys v_h]) X hP hD hS (c_Model_boundOf l D k t b0 o0 v_row v_number v_saved v_place v_low v_high v_lowBefore v_highBefore v_least v_greatest v_things v_changing v_overLow v_overHigh v_text v_length v_at v_readKey v_readCount v_keys v_h x1 x2 x3 x4 N r4 hg_r4) mv_X8_156 hl [] [0] 8 ⟨rfl, rfl⟩ ⟨Nat.le_of_ble_eq_true rfl, Nat.le_of_ble_eq_true rfl⟩ rfl rfl rfl rfl rfl rfl rfl (Nat.le_of_ble_eq_true rfl) dX8_boundAfter_36 (fun H locs hP hD hS => ?_)
        have hP : va_P D vwCl [W_Model k b0 o0 v_row v_number v_saved r4.2.1 r4.2.2.1 r4.2.2.2.1 r4.2.2.2.2.1 r4.2.2.2.2.2.1 r4.2.2.2.2.2.2.1 r4.2.2.2.2.2.2.2.1 r4.2.2.2.2.2.2.2.2.1 r4.2.2.2.2.2.2.2.2.2.1 r4.2.2.2.2.2.2.2.2.2.2.1 r4.2.2.2.2.2.2.2.2.2.2.2 v_text v_length v_at v_readKey v_readCount v_keys v_h].flatten _ := hP
        have hD : va_D A [W_Model k b0 o0 v_row v_number v_saved r4.2.1 r4.2.2.1 r4.2.2.2.1 r4.2.2.2.2.1 r4.2.2.2.2.2.1 r4.2.2.2.2.2.2.1 r4.2.2.2.2.2.2.2.1 r4.2.2.2.2.2.2.2.2.1 r4.2.2.2.2.2.2.2.2.2.1 r4.2.2.2.2.2.2.2.2.2.2.1 r4.2.2.2.2.2.2.2.2.2.2.2 v_text v_length v_at v_readKey v_readCount v_keys v_h].flatten := hD
        refine lv_goto (tgt := 45) hx hb dX8_boundAfter_39 (by decide) ?_
        have hf := Option.some.inj hf
        subst hf
        exact klret (v := r4.1) X hP hD hS dX8_boundAfter_45
    · have hf := ofpos hf hc
      refine lv_ldc2 (v := (-2)) hx hb hown (hts _ kc_X8_103) dX8_boundAfter_15 ?_
      have hf := Option.some.inj hf
      subst hf
      exact klret (v := (-2)) X hP hD hS dX8_boundAfter_18
/-! Model_certainOf: private int certainOf(int); -/
abbrev rm_Model_certainOf : Room := ({ frames := 5, cells := 0, slots := 0, locals := 123 } : Room)
def f_Model_certainOf_L15 (c5 : FJ) (c6 : FJ) (v_row : FI) (K58 : Int32 → Int32 → Option (Int32 × FI × FJ × FJ × FJ × FJ × FJ × FJ × Int32 × Int32 × FJ × FJ)) : Nat → Int32 → Int32 → Option (Int32 × FI × FJ × FJ × FJ × FJ × FJ × FJ × Int32 × Int32 × FJ × FJ)
  | 0, _, _ => none
  | n + 1, i2, i3 => if ck 6 1002 = true then if (v_row (6 : Int32).toNatClampNeg) ≤ i3 then K58 i2 i3 else if ck i3 24 = true then if ck i3 24 = true then if (c5 i3.toNatClampNeg) = (c6 i3.toNatClampNeg) then f_Model_certainOf_L15 c5 c6 v_row K58 n (i2 ||| (1 <<< (i3 &&& 31))) (i3 + 1) else f_Model_certainOf_L15 c5 c6 v_row K58 n (i2 ||| 0) (i3 + 1) else none else none else none
def f_Model_certainOf (N : Nat) (x1 : Int32) (v_row : FI) (v_number : FJ) (v_place : FI) (v_low : FJ) (v_high : FJ) (v_lowBefore : FJ) (v_highBefore : FJ) (v_least : FJ) (v_greatest : FJ) (v_things : Int32) (v_changing : Int32) (v_overLow : FJ) (v_overHigh : FJ) : Option (Int32 × FI × FJ × FJ × FJ × FJ × FJ × FJ × Int32 × Int32 × FJ × FJ) := if ck 5 1002 = true then (f_Model_findsFlows N x1 (v_row (5 : Int32).toNatClampNeg) v_row v_number v_place v_low v_high v_lowBefore v_highBefore v_least v_greatest v_things v_changing v_overLow v_overHigh).bind (fun r1 => f_Model_certainOf_L15 r1.2.1 r1.2.2.1 v_row (fun i15 i16 => some (i15, r1.1, r1.2.1, r1.2.2.1, r1.2.2.2.1, r1.2.2.2.2.1, r1.2.2.2.2.2.1, r1.2.2.2.2.2.2.1, r1.2.2.2.2.2.2.2.1, r1.2.2.2.2.2.2.2.2.1, r1.2.2.2.2.2.2.2.2.2.1, r1.2.2.2.2.2.2.2.2.2.2)) N 0 0) else none
abbrev Q_Model_certainOf (below : List Frame) (D : va_G) (k : Nat → ClassId) (A : Nat → Prop) (args : Array Value) (s : State) (b0 : Nat → Nat) (o0 : Nat) (v_row : FI) (v_number : FJ) (v_saved : Int32) (v_place : FI) (v_low : FJ) (v_high : FJ) (v_lowBefore : FJ) (v_highBefore : FJ) (v_least : FJ) (v_greatest : FJ) (v_things : Int32) (v_changing : Int32) (v_overLow : FJ) (v_overHigh : FJ) (v_text : FI) (v_length : Int32) (v_at : Int32) (v_readKey : FI) (v_readCount : FJ) (v_keys : Int32) (v_h : Int64) (out : Int32 × FI × FJ × FJ × FJ × FJ × FJ × FJ × Int32 × Int32 × FJ × FJ) : State → Prop := MQ below (QW D k A (some (.int out.1)) [W_Model k b0 o0 v_row v_number v_saved out.2.1 out.2.2.1 out.2.2.2.1 out.2.2.2.2.1 out.2.2.2.2.2.1 out.2.2.2.2.2.2.1 out.2.2.2.2.2.2.2.1 out.2.2.2.2.2.2.2.2.1 out.2.2.2.2.2.2.2.2.2.1 out.2.2.2.2.2.2.2.2.2.2.1 out.2.2.2.2.2.2.2.2.2.2.2 v_text v_length v_at v_readKey v_readCount v_keys v_h].flatten) args s 0 0 A
set_option maxRecDepth 100000 in
set_option maxHeartbeats 1000000 in
theorem w_Model_certainOf_L15 {p : Program} {l : Launch} {e : Env} {s : State} {m : MethodId} {below : List Frame} {meth : Method} {c : Code} {args : Array Value} {A : Nat → Prop} {D : va_G} {k : Nat → ClassId} {t : Nat → Nat} (X : BX l D k t p s m args meth c cX8_certainOf 4 RX8 (some .int) A) (b0 : Nat → Nat) (o0 : Nat) (v_row : FI) (v_number : FJ) (v_saved : Int32) (v_place : FI) (v_low : FJ) (v_high : FJ) (v_lowBefore : FJ) (v_highBefore : FJ) (v_least : FJ) (v_greatest : FJ) (v_things : Int32) (v_changing : Int32) (v_overLow : FJ) (v_overHigh : FJ) (v_text : FI) (v_length : Int32) (v_at : Int32) (v_readKey : FI) (v_readCount : FJ) (v_keys : Int32) (v_h : Int64) (N : Nat) (c4 : FI) (c5 : FJ) (c6 : FJ) (c7 : FJ) (c8 : FJ) (c9 : FJ) (c10 : FJ) (c11 : Int32) (c12 : Int32) (c13 : FJ) (c14 : FJ) (out : Int32 × FI × FJ × FJ × FJ × FJ × FJ × FJ × Int32 × Int32 × FJ × FJ) (K58 : Int32 → Int32 → Option (Int32 × FI × FJ × FJ × FJ × FJ × FJ × FJ × Int32 × Int32 × FJ × FJ)) (hK58 : ∀ (i2' : Int32) (i3' : Int32) (H : Heap) (locs : List Loc) (ls : Array Slot), va_P D vwCl [W_Model k b0 o0 v_row v_number v_saved c4 c5 c6 c7 c8 c9 c10 c11 c12 c13 c14 v_text v_length v_at v_readKey v_readCount v_keys v_h].flatten H → va_D A [W_Model k b0 o0 v_row v_number v_saved c4 c5 c6 c7 c8 c9 c10 c11 c12 c13 c14 v_text v_length v_at v_readKey v_readCount v_keys v_h].flatten → va_S A s.heap H locs → lv_has ls 4 [(2, .int i2')] → K58 i2' i3' = some out → W p l e rm_Model_certainOf s m args below meth c H locs 0 0 (Q_Model_certainOf below D k A args s b0 o0 v_row v_number v_saved v_place v_low v_high v_lowBefore v_highBefore v_least v_greatest v_things v_changing v_overLow v_overHigh v_text v_length v_at v_readKey v_readCount v_keys v_h out) (F0 m 58 ls [])) : ∀ (n : Nat) (i2 : Int32) (i3 : Int32) (H : Heap) (locs : List Loc) (ls : Array Slot), va_P D vwCl [W_Model k b0 o0 v_row v_number v_saved c4 c5 c6 c7 c8 c9 c10 c11 c12 c13 c14 v_text v_length v_at v_readKey v_readCount v_keys v_h].flatten H → va_D A [W_Model k b0 o0 v_row v_number v_saved c4 c5 c6 c7 c8 c9 c10 c11 c12 c13 c14 v_text v_length v_at v_readKey v_readCount v_keys v_h].flatten → va_S A s.heap H locs → lv_has ls 4 [(0, .ref (b0 o0)), (2, .int i2), (3, .int i3)] → f_Model_certainOf_L15 c5 c6 v_row K58 n i2 i3 = some out → W p l e rm_Model_certainOf s m args below meth c H locs 0 0 (Q_Model_certainOf below D k A args s b0 o0 v_row v_number v_saved v_place v_low v_high v_lowBefore v_highBefore v_least v_greatest v_things v_changing v_overLow v_overHigh v_text v_length v_at v_readKey v_readCount v_keys v_h out) (F0 m 15 ls []) := by
  have hx := X.1.1
  have hb := X.1.2.1
  have hml := X.1.2.2.1
  have hown := X.1.2.2.2.1
  have hts := X.1.2.2.2.2
  intro n
  induction n with
  | zero =>
    intro i2 i3 H locs ls hP hD hS hl hf
    rw [f_Model_certainOf_L15] at hf
    cases hf
  | succ n ih =>
    intro i2 i3 H locs ls hP hD hS hl hf
    rw [f_Model_certainOf_L15] at hf
    refine lv_iload_n hx hb dX8_certainOf_15 rfl (lv_at hl 2 rfl) ?_
    refine lv_aload_n hx hb dX8_certainOf_16 rfl (lv_at hl 0 rfl) ?_
    refine kget (v := .ref (b0 (o0+1))) X hP ff_X8_7 0 rfl rfl dX8_certainOf_17 ?_
    refine lv_bipush (v := 6) hx hb dX8_certainOf_20 (by decide) ?_
    obtain ⟨hc, hf⟩ := ofck hf
    refine kiald (f := v_row) (n := 1002) X hP 1 rfl hc dX8_certainOf_22 ?_
    refine lv_icmp_ge (tgt := 58) hx hb dX8_certainOf_23 (by decide) (fun hc => ?_) (fun hc => ?_)
    · have hf := ofpos hf hc
      exact hK58 i2 i3 _ _ _ hP hD hS (lv_sub hl [1] rfl) hf
    · have hf := ofneg hf hc
      refine lv_iload_n hx hb dX8_certainOf_26 rfl (lv_at hl 1 rfl) ?_
      refine lv_aload_n hx hb dX8_certainOf_27 rfl (lv_at hl 0 rfl) ?_
      refine kget (v := .ref (b0 (o0+4))) X hP ff_X8_20 0 rfl rfl dX8_certainOf_28 ?_
      refine lv_iload_n hx hb dX8_certainOf_31 rfl (lv_at hl 2 rfl) ?_
      obtain ⟨hc, hf⟩ := ofck hf
      refine klald (f := c5) (n := 24) X hP 4 rfl hc dX8_certainOf_32 ?_
      refine lv_aload_n hx hb dX8_certainOf_33 rfl (lv_at hl 0 rfl) ?_
      refine kget (v := .ref (b0 (o0+5))) X hP ff_X8_23 0 rfl rfl dX8_certainOf_34 ?_
      refine lv_iload_n hx hb dX8_certainOf_37 rfl (lv_at hl 2 rfl) ?_
      obtain ⟨hc, hf⟩ := ofck hf
      refine klald (f := c6) (n := 24) X hP 5 rfl hc dX8_certainOf_38 ?_
      refine W.lcmp hx hb dX8_certainOf_39 ?_
      refine lv_if_ne (tgt := 49) hx hb dX8_certainOf_40 (by decide) (fun hc => ?_) (fun hc => ?_)
      · have hc := fun z => hc (lgq.mpr z)
        have hf := ofneg hf hc
        refine lv_iconst (v := 0) hx hb dX8_certainOf_49 (by decide) ?_
        refine lv_ior hx hb dX8_certainOf_50 ?_
        refine lv_istore_n (lv' := [(2, .int (i2 ||| 0)), (0, .ref (b0 o0)), (3, .int i3)]) hx hb dX8_certainOf_51 rfl hl (by decide) rfl (fun ls hl => ?_)
        refine lv_iinc (v := i3 + 1) (lv' := [(3, .int (i3 + 1)), (2, .int (i2 ||| 0)), (0, .ref (b0 o0))]) hx hb dX8_certainOf_52 hl (k := 2) rfl rfl (by decide) rfl (fun ls hl => ?_)
        refine lv_goto (tgt := 15) hx hb dX8_certainOf_55 (by decide) ?_
        exact ih (i2 ||| 0) (i3 + 1) _ _ _ hP hD hS (lv_sub hl [2, 1, 0] rfl) hf
      · have hc := lgq.mp hc
        have hf := ofpos hf hc
        refine lv_iconst (v := 1) hx hb dX8_certainOf_43 (by decide) ?_
        refine lv_iload_n hx hb dX8_certainOf_44 rfl (lv_at hl 2 rfl) ?_
        refine lv_ishl hx hb dX8_certainOf_45 ?_
        refine lv_goto (tgt := 50) hx hb dX8_certainOf_46 (by decide) ?_
        refine lv_ior hx hb dX8_certainOf_50 ?_
        refine lv_istore_n (lv' := [(2, .int (i2 ||| (1 <<< (i3 &&& 31)))), (0, .ref (b0 o0)), (3, .int i3)]) hx hb dX8_certainOf_51 rfl hl (by decide) rfl (fun ls hl => ?_)
        refine lv_iinc (v := i3 + 1) (lv' := [(3, .int (i3 + 1)), (2, .int (i2 ||| (1 <<< (i3 &&& 31)))), (0, .ref (b0 o0))]) hx hb dX8_certainOf_52 hl (k := 2) rfl rfl (by decide) rfl (fun ls hl => ?_)
        refine lv_goto (tgt := 15) hx hb dX8_certainOf_55 (by decide) ?_
        exact ih (i2 ||| (1 <<< (i3 &&& 31))) (i3 + 1) _ _ _ hP hD hS (lv_sub hl [2, 1, 0] rfl) hf
set_option maxRecDepth 100000 in
set_option maxHeartbeats 1000000 in
theorem c_Model_certainOf (l : Launch) (D : va_G) (k : Nat → ClassId) (t : Nat → Nat) (b0 : Nat → Nat) (o0 : Nat) (v_row : FI) (v_number : FJ) (v_saved : Int32) (v_place : FI) (v_low : FJ) (v_high : FJ) (v_lowBefore : FJ) (v_highBefore : FJ) (v_least : FJ) (v_greatest : FJ) (v_things : Int32) (v_changing : Int32) (v_overLow : FJ) (v_overHigh : FJ) (v_text : FI) (v_length : Int32) (v_at : Int32) (v_readKey : FI) (v_readCount : FJ) (v_keys : Int32) (v_h : Int64) (x1 : Int32) (N : Nat) (out : Int32 × FI × FJ × FJ × FJ × FJ × FJ × FJ × Int32 × Int32 × FJ × FJ) (hf : f_Model_certainOf N x1 v_row v_number v_place v_low v_high v_lowBefore v_highBefore v_least v_greatest v_things v_changing v_overLow v_overHigh = some out) : CT l D k t yX8_certainOf cX8_certainOf 4 (some .int) rm_Model_certainOf [.ref (b0 o0), .int x1] [W_Model k b0 o0 v_row v_number v_saved v_place v_low v_high v_lowBefore v_highBefore v_least v_greatest v_things v_changing v_overLow v_overHigh v_text v_length v_at v_readKey v_readCount v_keys v_h].flatten (some (.int out.1)) [W_Model k b0 o0 v_row v_number v_saved out.2.1 out.2.2.1 out.2.2.2.1 out.2.2.2.2.1 out.2.2.2.2.2.1 out.2.2.2.2.2.2.1 out.2.2.2.2.2.2.2.1 out.2.2.2.2.2.2.2.2.1 out.2.2.2.2.2.2.2.2.2.1 out.2.2.2.2.2.2.2.2.2.2.1 out.2.2.2.2.2.2.2.2.2.2.2 v_text v_length v_at v_readKey v_readCount v_keys v_h].flatten := by
  refine kofW (by decide) (Nat.le_of_ble_eq_true rfl) ?_
  intro p e s m below meth c A ls X hP hD hS hl
  have hx := X.1.1
  have hb := X.1.2.1
  have hml := X.1.2.2.1
  have hown := X.1.2.2.2.1
  have hts := X.1.2.2.2.2
  have hl : lv_has ls 4 [(0, .ref (b0 o0)), (1, .int x1)] := hl
  rw [f_Model_certainOf] at hf
  refine lv_aload_n hx hb dX8_certainOf_0 rfl (lv_at hl 0 rfl) ?_
  refine lv_iload_n hx hb dX8_certainOf_1 rfl (lv_at hl 1 rfl) ?_
  refine lv_aload_n hx hb dX8_certainOf_2 rfl (lv_at hl 0 rfl) ?_
  refine kget (v := .ref (b0 (o0+1))) X hP ff_X8_7 0 rfl rfl dX8_certainOf_3 ?_
  refine lv_iconst (v := 5) hx hb dX8_certainOf_6 (by decide) ?_
  obtain ⟨hc, hf⟩ := ofck hf
  refine kiald (f := v_row) (n := 1002) X hP 1 rfl hc dX8_certainOf_7 ?_
  obtain ⟨r1, hg_r1, hf⟩ := ofbind hf
  refine kcV (bs := [W_Model k b0 o0 v_row v_number v_saved v_place v_low v_high v_lowBefore v_highBefore v_least v_greatest v_things v_changing v_overLow v_overHigh v_text v_length v_at v_readKey v_readCount v_keys v_h]) (br := []) (bc := [W_Model k b0 o0 v_row v_number v_saved v_place v_low v_high v_lowBefore v_highBefore v_least v_greatest v_things v_changing v_overLow v_overHigh v_text v_length v_at v_readKey v_readCount v_keys v_h]) (bc' := [W_Model k b0 o0 v_row v_number v_saved r1.1 r1.2.1 r1.2.2.1 r1.2.2.2.1 r1.2.2.2.2.1 r1.2.2.2.2.2.1 r1.2.2.2.2.2.2.1 r1.2.2.2.2.2.2.2.1 r1.2.2.2.2.2.2.2.2.1 r1.2.2.2.2.2.2.2.2.2.1 r1.2.2.2.2.2.2.2.2.2.2 v_text v_length v_at v_readKey v_readCount v_keys v_h]) X hP hD hS (c_Model_findsFlows l D k t b0 o0 v_row v_number v_saved v_place v_low v_high v_lowBefore v_highBefore v_least v_greatest v_things v_changing v_overLow v_overHigh v_text v_length v_at v_readKey v_readCount v_keys v_h x1 (v_row (5 : Int32).toNatClampNeg) N r1 hg_r1) mv_X8_153 hl [] [0] 8 ⟨rfl, rfl⟩ ⟨Nat.le_of_ble_eq_true rfl, Nat.le_of_ble_eq_true rfl⟩ rfl rfl rfl rfl rfl rfl rfl (Nat.le_of_ble_eq_true rfl) dX8_certainOf_8 (fun H locs hP hD hS => ?_)
  have hP : va_P D vwCl [W_Model k b0 o0 v_row v_number v_saved r1.1 r1.2.1 r1.2.2.1 r1.2.2.2.1 r1.2.2.2.2.1 r1.2.2.2.2.2.1 r1.2.2.2.2.2.2.1 r1.2.2.2.2.2.2.2.1 r1.2.2.2.2.2.2.2.2.1 r1.2.2.2.2.2.2.2.2.2.1 r1.2.2.2.2.2.2.2.2.2.2 v_text v_length v_at v_readKey v_readCount v_keys v_h].flatten _ := hP
  have hD : va_D A [W_Model k b0 o0 v_row v_number v_saved r1.1 r1.2.1 r1.2.2.1 r1.2.2.2.1 r1.2.2.2.2.1 r1.2.2.2.2.2.1 r1.2.2.2.2.2.2.1 r1.2.2.2.2.2.2.2.1 r1.2.2.2.2.2.2.2.2.1 r1.2.2.2.2.2.2.2.2.2.1 r1.2.2.2.2.2.2.2.2.2.2 v_text v_length v_at v_readKey v_readCount v_keys v_h].flatten := hD
  refine lv_iconst (v := 0) hx hb dX8_certainOf_11 (by decide) ?_
  refine lv_istore_n (lv' := [(2, .int 0), (0, .ref (b0 o0)), (1, .int x1)]) hx hb dX8_certainOf_12 rfl hl (by decide) rfl (fun ls hl => ?_)
  refine lv_iconst (v := 0) hx hb dX8_certainOf_13 (by decide) ?_
  refine lv_istore_n (lv' := [(3, .int 0), (2, .int 0), (0, .ref (b0 o0)), (1, .int x1)]) hx hb dX8_certainOf_14 rfl hl (by decide) rfl (fun ls hl => ?_)
  refine w_Model_certainOf_L15 X b0 o0 v_row v_number v_saved v_place v_low v_high v_lowBefore v_highBefore v_least v_greatest v_things v_changing v_overLow v_overHigh v_text v_length v_at v_readKey v_readCount v_keys v_h N r1.1 r1.2.1 r1.2.2.1 r1.2.2.2.1 r1.2.2.2.2.1 r1.2.2.2.2.2.1 r1.2.2.2.2.2.2.1 r1.2.2.2.2.2.2.2.1 r1.2.2.2.2.2.2.2.2.1 r1.2.2.2.2.2.2.2.2.2.1 r1.2.2.2.2.2.2.2.2.2.2 out _ ?_ N 0 0 _ _ _ hP hD hS (lv_sub hl [2, 1, 0] rfl) hf
  · intro i15 i16 H locs ls hP hD hS hl hf
    refine lv_iload_n hx hb dX8_certainOf_58 rfl (lv_at hl 0 rfl) ?_
    have hf := Option.some.inj hf
    subst hf
    exact kiret (v := i15) X hP hD hS dX8_certainOf_59
/-! Model_certain: public int certain(int); -/
abbrev rm_Model_certain : Room := ({ frames := 6, cells := 0, slots := 0, locals := 146 } : Room)
def f_Model_certain (N : Nat) (x1 : Int32) (v_row : FI) (v_number : FJ) (v_place : FI) (v_low : FJ) (v_high : FJ) (v_lowBefore : FJ) (v_highBefore : FJ) (v_least : FJ) (v_greatest : FJ) (v_things : Int32) (v_changing : Int32) (v_overLow : FJ) (v_overHigh : FJ) : Option (Int32 × FI × FJ × FJ × FJ × FJ × FJ × FJ × Int32 × Int32 × FJ × FJ) := (f_Model_isBraid x1).bind (fun r1 => if r1 = 0 then some ((-2), v_place, v_low, v_high, v_lowBefore, v_highBefore, v_least, v_greatest, v_things, v_changing, v_overLow, v_overHigh) else (f_Model_certainOf N x1 v_row v_number v_place v_low v_high v_lowBefore v_highBefore v_least v_greatest v_things v_changing v_overLow v_overHigh).bind (fun r2 => some (r2.1, r2.2.1, r2.2.2.1, r2.2.2.2.1, r2.2.2.2.2.1, r2.2.2.2.2.2.1, r2.2.2.2.2.2.2.1, r2.2.2.2.2.2.2.2.1, r2.2.2.2.2.2.2.2.2.1, r2.2.2.2.2.2.2.2.2.2.1, r2.2.2.2.2.2.2.2.2.2.2.1, r2.2.2.2.2.2.2.2.2.2.2.2)))
abbrev Q_Model_certain (below : List Frame) (D : va_G) (k : Nat → ClassId) (A : Nat → Prop) (args : Array Value) (s : State) (b0 : Nat → Nat) (o0 : Nat) (v_row : FI) (v_number : FJ) (v_saved : Int32) (v_place : FI) (v_low : FJ) (v_high : FJ) (v_lowBefore : FJ) (v_highBefore : FJ) (v_least : FJ) (v_greatest : FJ) (v_things : Int32) (v_changing : Int32) (v_overLow : FJ) (v_overHigh : FJ) (v_text : FI) (v_length : Int32) (v_at : Int32) (v_readKey : FI) (v_readCount : FJ) (v_keys : Int32) (v_h : Int64) (out : Int32 × FI × FJ × FJ × FJ × FJ × FJ × FJ × Int32 × Int32 × FJ × FJ) : State → Prop := MQ below (QW D k A (some (.int out.1)) [W_Model k b0 o0 v_row v_number v_saved out.2.1 out.2.2.1 out.2.2.2.1 out.2.2.2.2.1 out.2.2.2.2.2.1 out.2.2.2.2.2.2.1 out.2.2.2.2.2.2.2.1 out.2.2.2.2.2.2.2.2.1 out.2.2.2.2.2.2.2.2.2.1 out.2.2.2.2.2.2.2.2.2.2.1 out.2.2.2.2.2.2.2.2.2.2.2 v_text v_length v_at v_readKey v_readCount v_keys v_h].flatten) args s 0 0 A
set_option maxRecDepth 100000 in
set_option maxHeartbeats 1000000 in
theorem c_Model_certain (l : Launch) (D : va_G) (k : Nat → ClassId) (t : Nat → Nat) (b0 : Nat → Nat) (o0 : Nat) (v_row : FI) (v_number : FJ) (v_saved : Int32) (v_place : FI) (v_low : FJ) (v_high : FJ) (v_lowBefore : FJ) (v_highBefore : FJ) (v_least : FJ) (v_greatest : FJ) (v_things : Int32) (v_changing : Int32) (v_overLow : FJ) (v_overHigh : FJ) (v_text : FI) (v_length : Int32) (v_at : Int32) (v_readKey : FI) (v_readCount : FJ) (v_keys : Int32) (v_h : Int64) (x1 : Int32) (N : Nat) (out : Int32 × FI × FJ × FJ × FJ × FJ × FJ × FJ × Int32 × Int32 × FJ × FJ) (hf : f_Model_certain N x1 v_row v_number v_place v_low v_high v_lowBefore v_highBefore v_least v_greatest v_things v_changing v_overLow v_overHigh = some out) : CT l D k t yX8_certain cX8_certain 2 (some .int) rm_Model_certain [.ref (b0 o0), .int x1] [W_Model k b0 o0 v_row v_number v_saved v_place v_low v_high v_lowBefore v_highBefore v_least v_greatest v_things v_changing v_overLow v_overHigh v_text v_length v_at v_readKey v_readCount v_keys v_h].flatten (some (.int out.1)) [W_Model k b0 o0 v_row v_number v_saved out.2.1 out.2.2.1 out.2.2.2.1 out.2.2.2.2.1 out.2.2.2.2.2.1 out.2.2.2.2.2.2.1 out.2.2.2.2.2.2.2.1 out.2.2.2.2.2.2.2.2.1 out.2.2.2.2.2.2.2.2.2.1 out.2.2.2.2.2.2.2.2.2.2.1 out.2.2.2.2.2.2.2.2.2.2.2 v_text v_length v_at v_readKey v_readCount v_keys v_h].flatten := by
  refine kofW (by decide) (Nat.le_of_ble_eq_true rfl) ?_
  intro p e s m below meth c A ls X hP hD hS hl
  have hx := X.1.1
  have hb := X.1.2.1
  have hml := X.1.2.2.1
  have hown := X.1.2.2.2.1
  have hts := X.1.2.2.2.2
  have hl : lv_has ls 2 [(0, .ref (b0 o0)), (1, .int x1)] := hl
  rw [f_Model_certain] at hf
  refine lv_iload_n hx hb dX8_certain_0 rfl (lv_at hl 1 rfl) ?_
  obtain ⟨r1, hg_r1, hf⟩ := ofbind hf
  refine kcS (bs := [W_Model k b0 o0 v_row v_number v_saved v_place v_low v_high v_lowBefore v_highBefore v_least v_greatest v_things v_changing v_overLow v_overHigh v_text v_length v_at v_readKey v_readCount v_keys v_h]) (br := [W_Model k b0 o0 v_row v_number v_saved v_place v_low v_high v_lowBefore v_highBefore v_least v_greatest v_things v_changing v_overLow v_overHigh v_text v_length v_at v_readKey v_readCount v_keys v_h]) (bc := []) (bc' := []) X hP hD hS (c_Model_isBraid l D k t x1 r1 hg_r1) ms_X8_100 hl [0] [] ⟨rfl, rfl⟩ ⟨Nat.le_of_ble_eq_true rfl, Nat.le_of_ble_eq_true rfl⟩ rfl rfl rfl rfl (Nat.le_of_ble_eq_true rfl) dX8_certain_1 (fun H locs hP hD hS => ?_)
  have hP : va_P D vwCl [W_Model k b0 o0 v_row v_number v_saved v_place v_low v_high v_lowBefore v_highBefore v_least v_greatest v_things v_changing v_overLow v_overHigh v_text v_length v_at v_readKey v_readCount v_keys v_h].flatten _ := hP
  have hD : va_D A [W_Model k b0 o0 v_row v_number v_saved v_place v_low v_high v_lowBefore v_highBefore v_least v_greatest v_things v_changing v_overLow v_overHigh v_text v_length v_at v_readKey v_readCount v_keys v_h].flatten := hD
  refine lv_if_eq (tgt := 15) hx hb dX8_certain_4 (by decide) (fun hc => ?_) (fun hc => ?_)
  · have hf := ofpos hf hc
    refine lv_bipush (v := (-2)) hx hb dX8_certain_15 (by decide) ?_
    have hf := Option.some.inj hf
    subst hf
    exact kiret (v := (-2)) X hP hD hS dX8_certain_17
  · have hf := ofneg hf hc
    refine lv_aload_n hx hb dX8_certain_7 rfl (lv_at hl 0 rfl) ?_
    refine lv_iload_n hx hb dX8_certain_8 rfl (lv_at hl 1 rfl) ?_
    obtain ⟨r2, hg_r2, hf⟩ := ofbind hf
    refine kcV (bs := [W_Model k b0 o0 v_row v_number v_saved v_place v_low v_high v_lowBefore v_highBefore v_least v_greatest v_things v_changing v_overLow v_overHigh v_text v_length v_at v_readKey v_readCount v_keys v_h]) (br := []) (bc := [W_Model k b0 o0 v_row v_number v_saved v_place v_low v_high v_lowBefore v_highBefore v_least v_greatest v_things v_changing v_overLow v_overHigh v_text v_length v_at v_readKey v_readCount v_keys v_h]) (bc' := [W_Model k b0 o0 v_row v_number v_saved r2.2.1 r2.2.2.1 r2.2.2.2.1 r2.2.2.2.2.1 r2.2.2.2.2.2.1 r2.2.2.2.2.2.2.1 r2.2.2.2.2.2.2.2.1 r2.2.2.2.2.2.2.2.2.1 r2.2.2.2.2.2.2.2.2.2.1 r2.2.2.2.2.2.2.2.2.2.2.1 r2.2.2.2.2.2.2.2.2.2.2.2 v_text v_length v_at v_readKey v_readCount v_keys v_h]) X hP hD hS (c_Model_certainOf l D k t b0 o0 v_row v_number v_saved v_place v_low v_high v_lowBefore v_highBefore v_least v_greatest v_things v_changing v_overLow v_overHigh v_text v_length v_at v_readKey v_readCount v_keys v_h x1 N r2 hg_r2) mv_X8_160 hl [] [0] 8 ⟨rfl, rfl⟩ ⟨Nat.le_of_ble_eq_true rfl, Nat.le_of_ble_eq_true rfl⟩ rfl rfl rfl rfl rfl rfl rfl (Nat.le_of_ble_eq_true rfl) dX8_certain_9 (fun H locs hP hD hS => ?_)
    have hP : va_P D vwCl [W_Model k b0 o0 v_row v_number v_saved r2.2.1 r2.2.2.1 r2.2.2.2.1 r2.2.2.2.2.1 r2.2.2.2.2.2.1 r2.2.2.2.2.2.2.1 r2.2.2.2.2.2.2.2.1 r2.2.2.2.2.2.2.2.2.1 r2.2.2.2.2.2.2.2.2.2.1 r2.2.2.2.2.2.2.2.2.2.2.1 r2.2.2.2.2.2.2.2.2.2.2.2 v_text v_length v_at v_readKey v_readCount v_keys v_h].flatten _ := hP
    have hD : va_D A [W_Model k b0 o0 v_row v_number v_saved r2.2.1 r2.2.2.1 r2.2.2.2.1 r2.2.2.2.2.1 r2.2.2.2.2.2.1 r2.2.2.2.2.2.2.1 r2.2.2.2.2.2.2.2.1 r2.2.2.2.2.2.2.2.2.1 r2.2.2.2.2.2.2.2.2.2.1 r2.2.2.2.2.2.2.2.2.2.2.1 r2.2.2.2.2.2.2.2.2.2.2.2 v_text v_length v_at v_readKey v_readCount v_keys v_h].flatten := hD
    refine lv_goto (tgt := 17) hx hb dX8_certain_12 (by decide) ?_
    have hf := Option.some.inj hf
    subst hf
    exact kiret (v := r2.1) X hP hD hS dX8_certain_17
/-! Model_certainOverflows: public int certainOverflows(int); -/
abbrev rm_Model_certainOverflows : Room := ({ frames := 4, cells := 0, slots := 0, locals := 100 } : Room)
def f_Model_certainOverflows_L19 (c14 : FJ) (c15 : FJ) (v_row : FI) (K61 : Int32 → Int32 → Option (Int32 × FI × FJ × FJ × FJ × FJ × FJ × FJ × Int32 × Int32 × FJ × FJ)) : Nat → Int32 → Int32 → Option (Int32 × FI × FJ × FJ × FJ × FJ × FJ × FJ × Int32 × Int32 × FJ × FJ)
  | 0, _, _ => none
  | n + 1, i3, i4 => if ck 0 1002 = true then if (v_row (0 : Int32).toNatClampNeg) ≤ i4 then K61 i3 i4 else if ck i4 24 = true then if ck i4 24 = true then if (c14 i4.toNatClampNeg) = (c15 i4.toNatClampNeg) then f_Model_certainOverflows_L19 c14 c15 v_row K61 n (i3 ||| (1 <<< (i4 &&& 31))) (i4 + 1) else f_Model_certainOverflows_L19 c14 c15 v_row K61 n (i3 ||| 0) (i4 + 1) else none else none else none
def f_Model_certainOverflows (N : Nat) (x1 : Int32) (v_row : FI) (v_number : FJ) (v_place : FI) (v_low : FJ) (v_high : FJ) (v_lowBefore : FJ) (v_highBefore : FJ) (v_least : FJ) (v_greatest : FJ) (v_things : Int32) (v_changing : Int32) (v_overLow : FJ) (v_overHigh : FJ) : Option (Int32 × FI × FJ × FJ × FJ × FJ × FJ × FJ × Int32 × Int32 × FJ × FJ) := (f_Model_isBraid x1).bind (fun r1 => if r1 = 0 then some ((-2), v_place, v_low, v_high, v_lowBefore, v_highBefore, v_least, v_greatest, v_things, v_changing, v_overLow, v_overHigh) else (f_Model_findsOverflows N x1 v_row v_number v_place v_low v_high v_lowBefore v_highBefore v_least v_greatest v_things v_changing v_overLow v_overHigh).bind (fun r2 => f_Model_certainOverflows_L19 r2.2.2.2.2.2.2.2.2.2.1 r2.2.2.2.2.2.2.2.2.2.2 v_row (fun i16 i17 => some (i16, r2.1, r2.2.1, r2.2.2.1, r2.2.2.2.1, r2.2.2.2.2.1, r2.2.2.2.2.2.1, r2.2.2.2.2.2.2.1, r2.2.2.2.2.2.2.2.1, r2.2.2.2.2.2.2.2.2.1, r2.2.2.2.2.2.2.2.2.2.1, r2.2.2.2.2.2.2.2.2.2.2)) N 0 0))
abbrev Q_Model_certainOverflows (below : List Frame) (D : va_G) (k : Nat → ClassId) (A : Nat → Prop) (args : Array Value) (s : State) (b0 : Nat → Nat) (o0 : Nat) (v_row : FI) (v_number : FJ) (v_saved : Int32) (v_place : FI) (v_low : FJ) (v_high : FJ) (v_lowBefore : FJ) (v_highBefore : FJ) (v_least : FJ) (v_greatest : FJ) (v_things : Int32) (v_changing : Int32) (v_overLow : FJ) (v_overHigh : FJ) (v_text : FI) (v_length : Int32) (v_at : Int32) (v_readKey : FI) (v_readCount : FJ) (v_keys : Int32) (v_h : Int64) (out : Int32 × FI × FJ × FJ × FJ × FJ × FJ × FJ × Int32 × Int32 × FJ × FJ) : State → Prop := MQ below (QW D k A (some (.int out.1)) [W_Model k b0 o0 v_row v_number v_saved out.2.1 out.2.2.1 out.2.2.2.1 out.2.2.2.2.1 out.2.2.2.2.2.1 out.2.2.2.2.2.2.1 out.2.2.2.2.2.2.2.1 out.2.2.2.2.2.2.2.2.1 out.2.2.2.2.2.2.2.2.2.1 out.2.2.2.2.2.2.2.2.2.2.1 out.2.2.2.2.2.2.2.2.2.2.2 v_text v_length v_at v_readKey v_readCount v_keys v_h].flatten) args s 0 0 A
set_option maxRecDepth 100000 in
set_option maxHeartbeats 1000000 in
theorem w_Model_certainOverflows_L19 {p : Program} {l : Launch} {e : Env} {s : State} {m : MethodId} {below : List Frame} {meth : Method} {c : Code} {args : Array Value} {A : Nat → Prop} {D : va_G} {k : Nat → ClassId} {t : Nat → Nat} (X : BX l D k t p s m args meth c cX8_certainOverflows 4 RX8 (some .int) A) (b0 : Nat → Nat) (o0 : Nat) (v_row : FI) (v_number : FJ) (v_saved : Int32) (v_place : FI) (v_low : FJ) (v_high : FJ) (v_lowBefore : FJ) (v_highBefore : FJ) (v_least : FJ) (v_greatest : FJ) (v_things : Int32) (v_changing : Int32) (v_overLow : FJ) (v_overHigh : FJ) (v_text : FI) (v_length : Int32) (v_at : Int32) (v_readKey : FI) (v_readCount : FJ) (v_keys : Int32) (v_h : Int64) (N : Nat) (c5 : FI) (c6 : FJ) (c7 : FJ) (c8 : FJ) (c9 : FJ) (c10 : FJ) (c11 : FJ) (c12 : Int32) (c13 : Int32) (c14 : FJ) (c15 : FJ) (out : Int32 × FI × FJ × FJ × FJ × FJ × FJ × FJ × Int32 × Int32 × FJ × FJ) (K61 : Int32 → Int32 → Option (Int32 × FI × FJ × FJ × FJ × FJ × FJ × FJ × Int32 × Int32 × FJ × FJ)) (hK61 : ∀ (i3' : Int32) (i4' : Int32) (H : Heap) (locs : List Loc) (ls : Array Slot), va_P D vwCl [W_Model k b0 o0 v_row v_number v_saved c5 c6 c7 c8 c9 c10 c11 c12 c13 c14 c15 v_text v_length v_at v_readKey v_readCount v_keys v_h].flatten H → va_D A [W_Model k b0 o0 v_row v_number v_saved c5 c6 c7 c8 c9 c10 c11 c12 c13 c14 c15 v_text v_length v_at v_readKey v_readCount v_keys v_h].flatten → va_S A s.heap H locs → lv_has ls 4 [(2, .int i3')] → K61 i3' i4' = some out → W p l e rm_Model_certainOverflows s m args below meth c H locs 0 0 (Q_Model_certainOverflows below D k A args s b0 o0 v_row v_number v_saved v_place v_low v_high v_lowBefore v_highBefore v_least v_greatest v_things v_changing v_overLow v_overHigh v_text v_length v_at v_readKey v_readCount v_keys v_h out) (F0 m 61 ls [])) : ∀ (n : Nat) (i3 : Int32) (i4 : Int32) (H : Heap) (locs : List Loc) (ls : Array Slot), va_P D vwCl [W_Model k b0 o0 v_row v_number v_saved c5 c6 c7 c8 c9 c10 c11 c12 c13 c14 c15 v_text v_length v_at v_readKey v_readCount v_keys v_h].flatten H → va_D A [W_Model k b0 o0 v_row v_number v_saved c5 c6 c7 c8 c9 c10 c11 c12 c13 c14 c15 v_text v_length v_at v_readKey v_readCount v_keys v_h].flatten → va_S A s.heap H locs → lv_has ls 4 [(0, .ref (b0 o0)), (2, .int i3), (3, .int i4)] → f_Model_certainOverflows_L19 c14 c15 v_row K61 n i3 i4 = some out → W p l e rm_Model_certainOverflows s m args below meth c H locs 0 0 (Q_Model_certainOverflows below D k A args s b0 o0 v_row v_number v_saved v_place v_low v_high v_lowBefore v_highBefore v_least v_greatest v_things v_changing v_overLow v_overHigh v_text v_length v_at v_readKey v_readCount v_keys v_h out) (F0 m 19 ls []) := by
  have hx := X.1.1
  have hb := X.1.2.1
  have hml := X.1.2.2.1
  have hown := X.1.2.2.2.1
  have hts := X.1.2.2.2.2
  intro n
  induction n with
  | zero =>
    intro i3 i4 H locs ls hP hD hS hl hf
    rw [f_Model_certainOverflows_L19] at hf
    cases hf
  | succ n ih =>
    intro i3 i4 H locs ls hP hD hS hl hf
    rw [f_Model_certainOverflows_L19] at hf
    refine lv_iload_n hx hb dX8_certainOverflows_19 rfl (lv_at hl 2 rfl) ?_
    refine lv_aload_n hx hb dX8_certainOverflows_20 rfl (lv_at hl 0 rfl) ?_
    refine kget (v := .ref (b0 (o0+1))) X hP ff_X8_7 0 rfl rfl dX8_certainOverflows_21 ?_
    refine lv_iconst (v := 0) hx hb dX8_certainOverflows_24 (by decide) ?_
    obtain ⟨hc, hf⟩ := ofck hf
    refine kiald (f := v_row) (n := 1002) X hP 1 rfl hc dX8_certainOverflows_25 ?_
    refine lv_icmp_ge (tgt := 61) hx hb dX8_certainOverflows_26 (by decide) (fun hc => ?_) (fun hc => ?_)
    · have hf := ofpos hf hc
      exact hK61 i3 i4 _ _ _ hP hD hS (lv_sub hl [1] rfl) hf
    · have hf := ofneg hf hc
      refine lv_iload_n hx hb dX8_certainOverflows_29 rfl (lv_at hl 1 rfl) ?_
      refine lv_aload_n hx hb dX8_certainOverflows_30 rfl (lv_at hl 0 rfl) ?_
      refine kget (v := .ref (b0 (o0+10))) X hP ff_X8_38 0 rfl rfl dX8_certainOverflows_31 ?_
      refine lv_iload_n hx hb dX8_certainOverflows_34 rfl (lv_at hl 2 rfl) ?_
      obtain ⟨hc, hf⟩ := ofck hf
      refine klald (f := c14) (n := 24) X hP 10 rfl hc dX8_certainOverflows_35 ?_
      refine lv_aload_n hx hb dX8_certainOverflows_36 rfl (lv_at hl 0 rfl) ?_
      refine kget (v := .ref (b0 (o0+11))) X hP ff_X8_41 0 rfl rfl dX8_certainOverflows_37 ?_
      refine lv_iload_n hx hb dX8_certainOverflows_40 rfl (lv_at hl 2 rfl) ?_
      obtain ⟨hc, hf⟩ := ofck hf
      refine klald (f := c15) (n := 24) X hP 11 rfl hc dX8_certainOverflows_41 ?_
      refine W.lcmp hx hb dX8_certainOverflows_42 ?_
      refine lv_if_ne (tgt := 52) hx hb dX8_certainOverflows_43 (by decide) (fun hc => ?_) (fun hc => ?_)
      · have hc := fun z => hc (lgq.mpr z)
        have hf := ofneg hf hc
        refine lv_iconst (v := 0) hx hb dX8_certainOverflows_52 (by decide) ?_
        refine lv_ior hx hb dX8_certainOverflows_53 ?_
        refine lv_istore_n (lv' := [(2, .int (i3 ||| 0)), (0, .ref (b0 o0)), (3, .int i4)]) hx hb dX8_certainOverflows_54 rfl hl (by decide) rfl (fun ls hl => ?_)
        refine lv_iinc (v := i4 + 1) (lv' := [(3, .int (i4 + 1)), (2, .int (i3 ||| 0)), (0, .ref (b0 o0))]) hx hb dX8_certainOverflows_55 hl (k := 2) rfl rfl (by decide) rfl (fun ls hl => ?_)
        refine lv_goto (tgt := 19) hx hb dX8_certainOverflows_58 (by decide) ?_
        exact ih (i3 ||| 0) (i4 + 1) _ _ _ hP hD hS (lv_sub hl [2, 1, 0] rfl) hf
      · have hc := lgq.mp hc
        have hf := ofpos hf hc
        refine lv_iconst (v := 1) hx hb dX8_certainOverflows_46 (by decide) ?_
        refine lv_iload_n hx hb dX8_certainOverflows_47 rfl (lv_at hl 2 rfl) ?_
        refine lv_ishl hx hb dX8_certainOverflows_48 ?_
        refine lv_goto (tgt := 53) hx hb dX8_certainOverflows_49 (by decide) ?_
        refine lv_ior hx hb dX8_certainOverflows_53 ?_
        refine lv_istore_n (lv' := [(2, .int (i3 ||| (1 <<< (i4 &&& 31)))), (0, .ref (b0 o0)), (3, .int i4)]) hx hb dX8_certainOverflows_54 rfl hl (by decide) rfl (fun ls hl => ?_)
        refine lv_iinc (v := i4 + 1) (lv' := [(3, .int (i4 + 1)), (2, .int (i3 ||| (1 <<< (i4 &&& 31)))), (0, .ref (b0 o0))]) hx hb dX8_certainOverflows_55 hl (k := 2) rfl rfl (by decide) rfl (fun ls hl => ?_)
        refine lv_goto (tgt := 19) hx hb dX8_certainOverflows_58 (by decide) ?_
        exact ih (i3 ||| (1 <<< (i4 &&& 31))) (i4 + 1) _ _ _ hP hD hS (lv_sub hl [2, 1, 0] rfl) hf
set_option maxRecDepth 100000 in
set_option maxHeartbeats 1000000 in
theorem c_Model_certainOverflows (l : Launch) (D : va_G) (k : Nat → ClassId) (t : Nat → Nat) (b0 : Nat → Nat) (o0 : Nat) (v_row : FI) (v_number : FJ) (v_saved : Int32) (v_place : FI) (v_low : FJ) (v_high : FJ) (v_lowBefore : FJ) (v_highBefore : FJ) (v_least : FJ) (v_greatest : FJ) (v_things : Int32) (v_changing : Int32) (v_overLow : FJ) (v_overHigh : FJ) (v_text : FI) (v_length : Int32) (v_at : Int32) (v_readKey : FI) (v_readCount : FJ) (v_keys : Int32) (v_h : Int64) (x1 : Int32) (N : Nat) (out : Int32 × FI × FJ × FJ × FJ × FJ × FJ × FJ × Int32 × Int32 × FJ × FJ) (hf : f_Model_certainOverflows N x1 v_row v_number v_place v_low v_high v_lowBefore v_highBefore v_least v_greatest v_things v_changing v_overLow v_overHigh = some out) : CT l D k t yX8_certainOverflows cX8_certainOverflows 4 (some .int) rm_Model_certainOverflows [.ref (b0 o0), .int x1] [W_Model k b0 o0 v_row v_number v_saved v_place v_low v_high v_lowBefore v_highBefore v_least v_greatest v_things v_changing v_overLow v_overHigh v_text v_length v_at v_readKey v_readCount v_keys v_h].flatten (some (.int out.1)) [W_Model k b0 o0 v_row v_number v_saved out.2.1 out.2.2.1 out.2.2.2.1 out.2.2.2.2.1 out.2.2.2.2.2.1 out.2.2.2.2.2.2.1 out.2.2.2.2.2.2.2.1 out.2.2.2.2.2.2.2.2.1 out.2.2.2.2.2.2.2.2.2.1 out.2.2.2.2.2.2.2.2.2.2.1 out.2.2.2.2.2.2.2.2.2.2.2 v_text v_length v_at v_readKey v_readCount v_keys v_h].flatten := by
  refine kofW (by decide) (Nat.le_of_ble_eq_true rfl) ?_
  intro p e s m below meth c A ls X hP hD hS hl
  have hx := X.1.1
  have hb := X.1.2.1
  have hml := X.1.2.2.1
  have hown := X.1.2.2.2.1
  have hts := X.1.2.2.2.2
  have hl : lv_has ls 4 [(0, .ref (b0 o0)), (1, .int x1)] := hl
  rw [f_Model_certainOverflows] at hf
  refine lv_iload_n hx hb dX8_certainOverflows_0 rfl (lv_at hl 1 rfl) ?_
  obtain ⟨r1, hg_r1, hf⟩ := ofbind hf
  refine kcS (bs := [W_Model k b0 o0 v_row v_number v_saved v_place v_low v_high v_lowBefore v_highBefore v_least v_greatest v_things v_changing v_overLow v_overHigh v_text v_length v_at v_readKey v_readCount v_keys v_h]) (br := [W_Model k b0 o0 v_row v_number v_saved v_place v_low v_high v_lowBefore v_highBefore v_least v_greatest v_things v_changing v_overLow v_overHigh v_text v_length v_at v_readKey v_readCount v_keys v_h]) (bc := []) (bc' := []) X hP hD hS (c_Model_isBraid l D k t x1 r1 hg_r1) ms_X8_100 hl [0] [] ⟨rfl, rfl⟩ ⟨Nat.le_of_ble_eq_true rfl, Nat.le_of_ble_eq_true rfl⟩ rfl rfl rfl rfl (Nat.le_of_ble_eq_true rfl) dX8_certainOverflows_1 (fun H locs hP hD hS => ?_)
  have hP : va_P D vwCl [W_Model k b0 o0 v_row v_number v_saved v_place v_low v_high v_lowBefore v_highBefore v_least v_greatest v_things v_changing v_overLow v_overHigh v_text v_length v_at v_readKey v_readCount v_keys v_h].flatten _ := hP
  have hD : va_D A [W_Model k b0 o0 v_row v_number v_saved v_place v_low v_high v_lowBefore v_highBefore v_least v_greatest v_things v_changing v_overLow v_overHigh v_text v_length v_at v_readKey v_readCount v_keys v_h].flatten := hD
  refine lv_if_ne (tgt := 10) hx hb dX8_certainOverflows_4 (by decide) (fun hc => ?_) (fun hc => ?_)
  · have hf := ofneg hf hc
    refine lv_aload_n hx hb dX8_certainOverflows_10 rfl (lv_at hl 0 rfl) ?_
    refine lv_iload_n hx hb dX8_certainOverflows_11 rfl (lv_at hl 1 rfl) ?_
    obtain ⟨r2, hg_r2, hf⟩ := ofbind hf
    refine kcV (bs := [W_Model k b0 o0 v_row v_number v_saved v_place v_low v_high v_lowBefore v_highBefore v_least v_greatest v_things v_changing v_overLow v_overHigh v_text v_length v_at v_readKey v_readCount v_keys v_h]) (br := []) (bc := [W_Model k b0 o0 v_row v_number v_saved v_place v_low v_high v_lowBefore v_highBefore v_least v_greatest v_things v_changing v_overLow v_overHigh v_text v_length v_at v_readKey v_readCount v_keys v_h]) (bc' := [W_Model k b0 o0 v_row v_number v_saved r2.1 r2.2.1 r2.2.2.1 r2.2.2.2.1 r2.2.2.2.2.1 r2.2.2.2.2.2.1 r2.2.2.2.2.2.2.1 r2.2.2.2.2.2.2.2.1 r2.2.2.2.2.2.2.2.2.1 r2.2.2.2.2.2.2.2.2.2.1 r2.2.2.2.2.2.2.2.2.2.2 v_text v_length v_at v_readKey v_readCount v_keys v_h]) X hP hD hS (c_Model_findsOverflows l D k t b0 o0 v_row v_number v_saved v_place v_low v_high v_lowBefore v_highBefore v_least v_greatest v_things v_changing v_overLow v_overHigh v_text v_length v_at v_readKey v_readCount v_keys v_h x1 N r2 hg_r2) mv_X8_150 hl [] [0] 8 ⟨rfl, rfl⟩ ⟨Nat.le_of_ble_eq_true rfl, Nat.le_of_ble_eq_true rfl⟩ rfl rfl rfl rfl rfl rfl rfl (Nat.le_of_ble_eq_true rfl) dX8_certainOverflows_12 (fun H locs hP hD hS => ?_)
    have hP : va_P D vwCl [W_Model k b0 o0 v_row v_number v_saved r2.1 r2.2.1 r2.2.2.1 r2.2.2.2.1 r2.2.2.2.2.1 r2.2.2.2.2.2.1 r2.2.2.2.2.2.2.1 r2.2.2.2.2.2.2.2.1 r2.2.2.2.2.2.2.2.2.1 r2.2.2.2.2.2.2.2.2.2.1 r2.2.2.2.2.2.2.2.2.2.2 v_text v_length v_at v_readKey v_readCount v_keys v_h].flatten _ := hP
    have hD : va_D A [W_Model k b0 o0 v_row v_number v_saved r2.1 r2.2.1 r2.2.2.1 r2.2.2.2.1 r2.2.2.2.2.1 r2.2.2.2.2.2.1 r2.2.2.2.2.2.2.1 r2.2.2.2.2.2.2.2.1 r2.2.2.2.2.2.2.2.2.1 r2.2.2.2.2.2.2.2.2.2.1 r2.2.2.2.2.2.2.2.2.2.2 v_text v_length v_at v_readKey v_readCount v_keys v_h].flatten := hD
    refine lv_iconst (v := 0) hx hb dX8_certainOverflows_15 (by decide) ?_
    refine lv_istore_n (lv' := [(2, .int 0), (0, .ref (b0 o0)), (1, .int x1)]) hx hb dX8_certainOverflows_16 rfl hl (by decide) rfl (fun ls hl => ?_)
    refine lv_iconst (v := 0) hx hb dX8_certainOverflows_17 (by decide) ?_
    refine lv_istore_n (lv' := [(3, .int 0), (2, .int 0), (0, .ref (b0 o0)), (1, .int x1)]) hx hb dX8_certainOverflows_18 rfl hl (by decide) rfl (fun ls hl => ?_)
    refine w_Model_certainOverflows_L19 X b0 o0 v_row v_number v_saved v_place v_low v_high v_lowBefore v_highBefore v_least v_greatest v_things v_changing v_overLow v_overHigh v_text v_length v_at v_readKey v_readCount v_keys v_h N r2.1 r2.2.1 r2.2.2.1 r2.2.2.2.1 r2.2.2.2.2.1 r2.2.2.2.2.2.1 r2.2.2.2.2.2.2.1 r2.2.2.2.2.2.2.2.1 r2.2.2.2.2.2.2.2.2.1 r2.2.2.2.2.2.2.2.2.2.1 r2.2.2.2.2.2.2.2.2.2.2 out _ ?_ N 0 0 _ _ _ hP hD hS (lv_sub hl [2, 1, 0] rfl) hf
    · intro i16 i17 H locs ls hP hD hS hl hf
      refine lv_iload_n hx hb dX8_certainOverflows_61 rfl (lv_at hl 0 rfl) ?_
      have hf := Option.some.inj hf
      subst hf
      exact kiret (v := i16) X hP hD hS dX8_certainOverflows_62
  · have hf := ofpos hf hc
    refine lv_bipush (v := (-2)) hx hb dX8_certainOverflows_7 (by decide) ?_
    have hf := Option.some.inj hf
    subst hf
    exact kiret (v := (-2)) X hP hD hS dX8_certainOverflows_9
/-! Model_lastRound: public int lastRound(int); -/
abbrev rm_Model_lastRound : Room := ({ frames := 5, cells := 0, slots := 0, locals := 123 } : Room)
def f_Model_lastRound (N : Nat) (x1 : Int32) (v_row : FI) (v_number : FJ) (v_place : FI) (v_low : FJ) (v_high : FJ) (v_lowBefore : FJ) (v_highBefore : FJ) (v_least : FJ) (v_greatest : FJ) (v_things : Int32) (v_changing : Int32) (v_overLow : FJ) (v_overHigh : FJ) : Option (Int32 × FI × FJ × FJ × FJ × FJ × FJ × FJ × Int32 × Int32 × FJ × FJ) := (f_Model_isBraid x1).bind (fun r1 => if r1 = 0 then some ((-2), v_place, v_low, v_high, v_lowBefore, v_highBefore, v_least, v_greatest, v_things, v_changing, v_overLow, v_overHigh) else if ck 5 1002 = true then (f_Model_findsFlows N x1 (v_row (5 : Int32).toNatClampNeg) v_row v_number v_place v_low v_high v_lowBefore v_highBefore v_least v_greatest v_things v_changing v_overLow v_overHigh).bind (fun r2 => some (r2.2.2.2.2.2.2.2.2.1, r2.1, r2.2.1, r2.2.2.1, r2.2.2.2.1, r2.2.2.2.2.1, r2.2.2.2.2.2.1, r2.2.2.2.2.2.2.1, r2.2.2.2.2.2.2.2.1, r2.2.2.2.2.2.2.2.2.1, r2.2.2.2.2.2.2.2.2.2.1, r2.2.2.2.2.2.2.2.2.2.2)) else none)
abbrev Q_Model_lastRound (below : List Frame) (D : va_G) (k : Nat → ClassId) (A : Nat → Prop) (args : Array Value) (s : State) (b0 : Nat → Nat) (o0 : Nat) (v_row : FI) (v_number : FJ) (v_saved : Int32) (v_place : FI) (v_low : FJ) (v_high : FJ) (v_lowBefore : FJ) (v_highBefore : FJ) (v_least : FJ) (v_greatest : FJ) (v_things : Int32) (v_changing : Int32) (v_overLow : FJ) (v_overHigh : FJ) (v_text : FI) (v_length : Int32) (v_at : Int32) (v_readKey : FI) (v_readCount : FJ) (v_keys : Int32) (v_h : Int64) (out : Int32 × FI × FJ × FJ × FJ × FJ × FJ × FJ × Int32 × Int32 × FJ × FJ) : State → Prop := MQ below (QW D k A (some (.int out.1)) [W_Model k b0 o0 v_row v_number v_saved out.2.1 out.2.2.1 out.2.2.2.1 out.2.2.2.2.1 out.2.2.2.2.2.1 out.2.2.2.2.2.2.1 out.2.2.2.2.2.2.2.1 out.2.2.2.2.2.2.2.2.1 out.2.2.2.2.2.2.2.2.2.1 out.2.2.2.2.2.2.2.2.2.2.1 out.2.2.2.2.2.2.2.2.2.2.2 v_text v_length v_at v_readKey v_readCount v_keys v_h].flatten) args s 0 0 A
set_option maxRecDepth 100000 in
set_option maxHeartbeats 1000000 in
theorem c_Model_lastRound (l : Launch) (D : va_G) (k : Nat → ClassId) (t : Nat → Nat) (b0 : Nat → Nat) (o0 : Nat) (v_row : FI) (v_number : FJ) (v_saved : Int32) (v_place : FI) (v_low : FJ) (v_high : FJ) (v_lowBefore : FJ) (v_highBefore : FJ) (v_least : FJ) (v_greatest : FJ) (v_things : Int32) (v_changing : Int32) (v_overLow : FJ) (v_overHigh : FJ) (v_text : FI) (v_length : Int32) (v_at : Int32) (v_readKey : FI) (v_readCount : FJ) (v_keys : Int32) (v_h : Int64) (x1 : Int32) (N : Nat) (out : Int32 × FI × FJ × FJ × FJ × FJ × FJ × FJ × Int32 × Int32 × FJ × FJ) (hf : f_Model_lastRound N x1 v_row v_number v_place v_low v_high v_lowBefore v_highBefore v_least v_greatest v_things v_changing v_overLow v_overHigh = some out) : CT l D k t yX8_lastRound cX8_lastRound 2 (some .int) rm_Model_lastRound [.ref (b0 o0), .int x1] [W_Model k b0 o0 v_row v_number v_saved v_place v_low v_high v_lowBefore v_highBefore v_least v_greatest v_things v_changing v_overLow v_overHigh v_text v_length v_at v_readKey v_readCount v_keys v_h].flatten (some (.int out.1)) [W_Model k b0 o0 v_row v_number v_saved out.2.1 out.2.2.1 out.2.2.2.1 out.2.2.2.2.1 out.2.2.2.2.2.1 out.2.2.2.2.2.2.1 out.2.2.2.2.2.2.2.1 out.2.2.2.2.2.2.2.2.1 out.2.2.2.2.2.2.2.2.2.1 out.2.2.2.2.2.2.2.2.2.2.1 out.2.2.2.2.2.2.2.2.2.2.2 v_text v_length v_at v_readKey v_readCount v_keys v_h].flatten := by
  refine kofW (by decide) (Nat.le_of_ble_eq_true rfl) ?_
  intro p e s m below meth c A ls X hP hD hS hl
  have hx := X.1.1
  have hb := X.1.2.1
  have hml := X.1.2.2.1
  have hown := X.1.2.2.2.1
  have hts := X.1.2.2.2.2
  have hl : lv_has ls 2 [(0, .ref (b0 o0)), (1, .int x1)] := hl
  rw [f_Model_lastRound] at hf
  refine lv_iload_n hx hb dX8_lastRound_0 rfl (lv_at hl 1 rfl) ?_
  obtain ⟨r1, hg_r1, hf⟩ := ofbind hf
  refine kcS (bs := [W_Model k b0 o0 v_row v_number v_saved v_place v_low v_high v_lowBefore v_highBefore v_least v_greatest v_things v_changing v_overLow v_overHigh v_text v_length v_at v_readKey v_readCount v_keys v_h]) (br := [W_Model k b0 o0 v_row v_number v_saved v_place v_low v_high v_lowBefore v_highBefore v_least v_greatest v_things v_changing v_overLow v_overHigh v_text v_length v_at v_readKey v_readCount v_keys v_h]) (bc := []) (bc' := []) X hP hD hS (c_Model_isBraid l D k t x1 r1 hg_r1) ms_X8_100 hl [0] [] ⟨rfl, rfl⟩ ⟨Nat.le_of_ble_eq_true rfl, Nat.le_of_ble_eq_true rfl⟩ rfl rfl rfl rfl (Nat.le_of_ble_eq_true rfl) dX8_lastRound_1 (fun H locs hP hD hS => ?_)
  have hP : va_P D vwCl [W_Model k b0 o0 v_row v_number v_saved v_place v_low v_high v_lowBefore v_highBefore v_least v_greatest v_things v_changing v_overLow v_overHigh v_text v_length v_at v_readKey v_readCount v_keys v_h].flatten _ := hP
  have hD : va_D A [W_Model k b0 o0 v_row v_number v_saved v_place v_low v_high v_lowBefore v_highBefore v_least v_greatest v_things v_changing v_overLow v_overHigh v_text v_length v_at v_readKey v_readCount v_keys v_h].flatten := hD
  refine lv_if_ne (tgt := 10) hx hb dX8_lastRound_4 (by decide) (fun hc => ?_) (fun hc => ?_)
  · have hf := ofneg hf hc
    refine lv_aload_n hx hb dX8_lastRound_10 rfl (lv_at hl 0 rfl) ?_
    refine lv_iload_n hx hb dX8_lastRound_11 rfl (lv_at hl 1 rfl) ?_
    refine lv_aload_n hx hb dX8_lastRound_12 rfl (lv_at hl 0 rfl) ?_
    refine kget (v := .ref (b0 (o0+1))) X hP ff_X8_7 0 rfl rfl dX8_lastRound_13 ?_
    refine lv_iconst (v := 5) hx hb dX8_lastRound_16 (by decide) ?_
    obtain ⟨hc, hf⟩ := ofck hf
    refine kiald (f := v_row) (n := 1002) X hP 1 rfl hc dX8_lastRound_17 ?_
    obtain ⟨r2, hg_r2, hf⟩ := ofbind hf
    refine kcV (bs := [W_Model k b0 o0 v_row v_number v_saved v_place v_low v_high v_lowBefore v_highBefore v_least v_greatest v_things v_changing v_overLow v_overHigh v_text v_length v_at v_readKey v_readCount v_keys v_h]) (br := []) (bc := [W_Model k b0 o0 v_row v_number v_saved v_place v_low v_high v_lowBefore v_highBefore v_least v_greatest v_things v_changing v_overLow v_overHigh v_text v_length v_at v_readKey v_readCount v_keys v_h]) (bc' := [W_Model k b0 o0 v_row v_number v_saved r2.1 r2.2.1 r2.2.2.1 r2.2.2.2.1 r2.2.2.2.2.1 r2.2.2.2.2.2.1 r2.2.2.2.2.2.2.1 r2.2.2.2.2.2.2.2.1 r2.2.2.2.2.2.2.2.2.1 r2.2.2.2.2.2.2.2.2.2.1 r2.2.2.2.2.2.2.2.2.2.2 v_text v_length v_at v_readKey v_readCount v_keys v_h]) X hP hD hS (c_Model_findsFlows l D k t b0 o0 v_row v_number v_saved v_place v_low v_high v_lowBefore v_highBefore v_least v_greatest v_things v_changing v_overLow v_overHigh v_text v_length v_at v_readKey v_readCount v_keys v_h x1 (v_row (5 : Int32).toNatClampNeg) N r2 hg_r2) mv_X8_153 hl [] [0] 8 ⟨rfl, rfl⟩ ⟨Nat.le_of_ble_eq_true rfl, Nat.le_of_ble_eq_true rfl⟩ rfl rfl rfl rfl rfl rfl rfl (Nat.le_of_ble_eq_true rfl) dX8_lastRound_18 (fun H locs hP hD hS => ?_)
    have hP : va_P D vwCl [W_Model k b0 o0 v_row v_number v_saved r2.1 r2.2.1 r2.2.2.1 r2.2.2.2.1 r2.2.2.2.2.1 r2.2.2.2.2.2.1 r2.2.2.2.2.2.2.1 r2.2.2.2.2.2.2.2.1 r2.2.2.2.2.2.2.2.2.1 r2.2.2.2.2.2.2.2.2.2.1 r2.2.2.2.2.2.2.2.2.2.2 v_text v_length v_at v_readKey v_readCount v_keys v_h].flatten _ := hP
    have hD : va_D A [W_Model k b0 o0 v_row v_number v_saved r2.1 r2.2.1 r2.2.2.1 r2.2.2.2.1 r2.2.2.2.2.1 r2.2.2.2.2.2.1 r2.2.2.2.2.2.2.1 r2.2.2.2.2.2.2.2.1 r2.2.2.2.2.2.2.2.2.1 r2.2.2.2.2.2.2.2.2.2.1 r2.2.2.2.2.2.2.2.2.2.2 v_text v_length v_at v_readKey v_readCount v_keys v_h].flatten := hD
    refine lv_aload_n hx hb dX8_lastRound_21 rfl (lv_at hl 0 rfl) ?_
    refine kget (v := .int r2.2.2.2.2.2.2.2.2.1) X hP ff_X8_136 0 rfl rfl dX8_lastRound_22 ?_
    have hf := Option.some.inj hf
    subst hf
    exact kiret (v := r2.2.2.2.2.2.2.2.2.1) X hP hD hS dX8_lastRound_25
  · have hf := ofpos hf hc
    refine lv_bipush (v := (-2)) hx hb dX8_lastRound_7 (by decide) ?_
    have hf := Option.some.inj hf
    subst hf
    exact kiret (v := (-2)) X hP hD hS dX8_lastRound_9
/-! Model_total: public long total(int, int); -/
abbrev rm_Model_total : Room := ({ frames := 5, cells := 0, slots := 0, locals := 123 } : Room)
def f_Model_total_L40 (i5 : Int32) (i6 : Int32) (c10 : FJ) (c11 : FJ) (v_row : FI) (v_number : FJ) (K102 : Int64 → Int32 → Option (Int64 × FI × FJ × FJ × FJ × FJ × FJ × FJ × Int32 × Int32 × FJ × FJ)) : Nat → Int64 → Int32 → Option (Int64 × FI × FJ × FJ × FJ × FJ × FJ × FJ × Int32 × Int32 × FJ × FJ)
  | 0, _, _ => none
  | n + 1, i7, i8 => if ck 6 1002 = true then if (v_row (6 : Int32).toNatClampNeg) ≤ i8 then K102 i7 i8 else if 3 ≤ i6 then K102 i7 i8 else if i6 = 0 then (f_Model_truthAt i5 i8 v_number).bind (fun r20 => f_Model_total_L40 i5 i6 c10 c11 v_row v_number K102 n (i7 + r20) (i8 + 1)) else if i6 = 1 then if ck i8 24 = true then f_Model_total_L40 i5 i6 c10 c11 v_row v_number K102 n (i7 + (c10 i8.toNatClampNeg)) (i8 + 1) else none else if ck i8 24 = true then f_Model_total_L40 i5 i6 c10 c11 v_row v_number K102 n (i7 + (c11 i8.toNatClampNeg)) (i8 + 1) else none else none
def f_Model_total_L105 (i38 : Int32) (i39 : Int32) (v_row : FI) (v_number : FJ) (K137 : Int64 → Int32 → Option (Int64 × FI × FJ × FJ × FJ × FJ × FJ × FJ × Int32 × Int32 × FJ × FJ)) : Nat → Int64 → Int32 → Option (Int64 × FI × FJ × FJ × FJ × FJ × FJ × FJ × Int32 × Int32 × FJ × FJ)
  | 0, _, _ => none
  | n + 1, i40, i41 => if ck 3 1002 = true then if (v_row (3 : Int32).toNatClampNeg) ≤ i41 then K137 i40 i41 else if i39 = 3 then (f_Model_aboveAt i38 i41 v_number).bind (fun r53 => f_Model_total_L105 i38 i39 v_row v_number K137 n (i40 + r53) (i41 + 1)) else K137 i40 i41 else none
def f_Model_total_J102 (N : Nat) (j23 : Int32) (j24 : Int32) (j25 : Int64) (c26 : FI) (c27 : FJ) (c28 : FJ) (c29 : FJ) (c30 : FJ) (c31 : FJ) (c32 : FJ) (c33 : Int32) (c34 : Int32) (c35 : FJ) (c36 : FJ) (v_row : FI) (v_number : FJ) : Option (Int64 × FI × FJ × FJ × FJ × FJ × FJ × FJ × Int32 × Int32 × FJ × FJ) := f_Model_total_L105 j23 j24 v_row v_number (fun i54 i55 => some (i54, c26, c27, c28, c29, c30, c31, c32, c33, c34, c35, c36)) N j25 0
def f_Model_total (N : Nat) (x1 : Int32) (x2 : Int32) (v_row : FI) (v_number : FJ) (v_place : FI) (v_low : FJ) (v_high : FJ) (v_lowBefore : FJ) (v_highBefore : FJ) (v_least : FJ) (v_greatest : FJ) (v_things : Int32) (v_changing : Int32) (v_overLow : FJ) (v_overHigh : FJ) : Option (Int64 × FI × FJ × FJ × FJ × FJ × FJ × FJ × Int32 × Int32 × FJ × FJ) := (f_Model_isBraid x1).bind (fun r1 => if r1 = 0 then some ((-2), v_place, v_low, v_high, v_lowBefore, v_highBefore, v_least, v_greatest, v_things, v_changing, v_overLow, v_overHigh) else (f_Model_in x2 0 3).bind (fun r2 => if r2 = 0 then some ((-3), v_place, v_low, v_high, v_lowBefore, v_highBefore, v_least, v_greatest, v_things, v_changing, v_overLow, v_overHigh) else if ck 5 1002 = true then (f_Model_findsFlows N x1 (v_row (5 : Int32).toNatClampNeg) v_row v_number v_place v_low v_high v_lowBefore v_highBefore v_least v_greatest v_things v_changing v_overLow v_overHigh).bind (fun r3 => f_Model_total_L40 x1 x2 r3.2.1 r3.2.2.1 v_row v_number (fun i21 i22 => f_Model_total_J102 N x1 x2 i21 r3.1 r3.2.1 r3.2.2.1 r3.2.2.2.1 r3.2.2.2.2.1 r3.2.2.2.2.2.1 r3.2.2.2.2.2.2.1 r3.2.2.2.2.2.2.2.1 r3.2.2.2.2.2.2.2.2.1 r3.2.2.2.2.2.2.2.2.2.1 r3.2.2.2.2.2.2.2.2.2.2 v_row v_number) N 0 0) else none))
abbrev Q_Model_total (below : List Frame) (D : va_G) (k : Nat → ClassId) (A : Nat → Prop) (args : Array Value) (s : State) (b0 : Nat → Nat) (o0 : Nat) (v_row : FI) (v_number : FJ) (v_saved : Int32) (v_place : FI) (v_low : FJ) (v_high : FJ) (v_lowBefore : FJ) (v_highBefore : FJ) (v_least : FJ) (v_greatest : FJ) (v_things : Int32) (v_changing : Int32) (v_overLow : FJ) (v_overHigh : FJ) (v_text : FI) (v_length : Int32) (v_at : Int32) (v_readKey : FI) (v_readCount : FJ) (v_keys : Int32) (v_h : Int64) (out : Int64 × FI × FJ × FJ × FJ × FJ × FJ × FJ × Int32 × Int32 × FJ × FJ) : State → Prop := MQ below (QW D k A (some (.long out.1)) [W_Model k b0 o0 v_row v_number v_saved out.2.1 out.2.2.1 out.2.2.2.1 out.2.2.2.2.1 out.2.2.2.2.2.1 out.2.2.2.2.2.2.1 out.2.2.2.2.2.2.2.1 out.2.2.2.2.2.2.2.2.1 out.2.2.2.2.2.2.2.2.2.1 out.2.2.2.2.2.2.2.2.2.2.1 out.2.2.2.2.2.2.2.2.2.2.2 v_text v_length v_at v_readKey v_readCount v_keys v_h].flatten) args s 0 0 A
set_option maxRecDepth 100000 in
set_option maxHeartbeats 1000000 in
theorem w_Model_total_L40 {p : Program} {l : Launch} {e : Env} {s : State} {m : MethodId} {below : List Frame} {meth : Method} {c : Code} {args : Array Value} {A : Nat → Prop} {D : va_G} {k : Nat → ClassId} {t : Nat → Nat} (X : BX l D k t p s m args meth c cX8_total 6 RX8 (some .long) A) (b0 : Nat → Nat) (o0 : Nat) (v_row : FI) (v_number : FJ) (v_saved : Int32) (v_place : FI) (v_low : FJ) (v_high : FJ) (v_lowBefore : FJ) (v_highBefore : FJ) (v_least : FJ) (v_greatest : FJ) (v_things : Int32) (v_changing : Int32) (v_overLow : FJ) (v_overHigh : FJ) (v_text : FI) (v_length : Int32) (v_at : Int32) (v_readKey : FI) (v_readCount : FJ) (v_keys : Int32) (v_h : Int64) (N : Nat) (i5 : Int32) (i6 : Int32) (c9 : FI) (c10 : FJ) (c11 : FJ) (c12 : FJ) (c13 : FJ) (c14 : FJ) (c15 : FJ) (c16 : Int32) (c17 : Int32) (c18 : FJ) (c19 : FJ) (out : Int64 × FI × FJ × FJ × FJ × FJ × FJ × FJ × Int32 × Int32 × FJ × FJ) (K102 : Int64 → Int32 → Option (Int64 × FI × FJ × FJ × FJ × FJ × FJ × FJ × Int32 × Int32 × FJ × FJ)) (hK102 : ∀ (i7' : Int64) (i8' : Int32) (H : Heap) (locs : List Loc) (ls : Array Slot), va_P D vwCl [W_Model k b0 o0 v_row v_number v_saved c9 c10 c11 c12 c13 c14 c15 c16 c17 c18 c19 v_text v_length v_at v_readKey v_readCount v_keys v_h].flatten H → va_D A [W_Model k b0 o0 v_row v_number v_saved c9 c10 c11 c12 c13 c14 c15 c16 c17 c18 c19 v_text v_length v_at v_readKey v_readCount v_keys v_h].flatten → va_S A s.heap H locs → lv_has ls 6 [(0, .ref (b0 o0)), (1, .int i5), (2, .int i6), (3, .long i7')] → K102 i7' i8' = some out → W p l e rm_Model_total s m args below meth c H locs 0 0 (Q_Model_total below D k A args s b0 o0 v_row v_number v_saved v_place v_low v_high v_lowBefore v_highBefore v_least v_greatest v_things v_changing v_overLow v_overHigh v_text v_length v_at v_readKey v_readCount v_keys v_h out) (F0 m 102 ls [])) : ∀ (n : Nat) (i7 : Int64) (i8 : Int32) (H : Heap) (locs : List Loc) (ls : Array Slot), va_P D vwCl [W_Model k b0 o0 v_row v_number v_saved c9 c10 c11 c12 c13 c14 c15 c16 c17 c18 c19 v_text v_length v_at v_readKey v_readCount v_keys v_h].flatten H → va_D A [W_Model k b0 o0 v_row v_number v_saved c9 c10 c11 c12 c13 c14 c15 c16 c17 c18 c19 v_text v_length v_at v_readKey v_readCount v_keys v_h].flatten → va_S A s.heap H locs → lv_has ls 6 [(0, .ref (b0 o0)), (1, .int i5), (2, .int i6), (3, .long i7), (5, .int i8)] → f_Model_total_L40 i5 i6 c10 c11 v_row v_number K102 n i7 i8 = some out → W p l e rm_Model_total s m args below meth c H locs 0 0 (Q_Model_total below D k A args s b0 o0 v_row v_number v_saved v_place v_low v_high v_lowBefore v_highBefore v_least v_greatest v_things v_changing v_overLow v_overHigh v_text v_length v_at v_readKey v_readCount v_keys v_h out) (F0 m 40 ls []) := by
  have hx := X.1.1
  have hb := X.1.2.1
  have hml := X.1.2.2.1
  have hown := X.1.2.2.2.1
  have hts := X.1.2.2.2.2
  intro n
  induction n with
  | zero =>
    intro i7 i8 H locs ls hP hD hS hl hf
    rw [f_Model_total_L40] at hf
    cases hf
  | succ n ih =>
    intro i7 i8 H locs ls hP hD hS hl hf
    rw [f_Model_total_L40] at hf
    refine lv_iload hx hb dX8_total_40 (lv_at hl 4 rfl) ?_
    refine lv_aload_n hx hb dX8_total_42 rfl (lv_at hl 0 rfl) ?_
    refine kget (v := .ref (b0 (o0+1))) X hP ff_X8_7 0 rfl rfl dX8_total_43 ?_
    refine lv_bipush (v := 6) hx hb dX8_total_46 (by decide) ?_
    obtain ⟨hc, hf⟩ := ofck hf
    refine kiald (f := v_row) (n := 1002) X hP 1 rfl hc dX8_total_48 ?_
    refine lv_icmp_ge (tgt := 102) hx hb dX8_total_49 (by decide) (fun hc => ?_) (fun hc => ?_)
    · have hf := ofpos hf hc
      exact hK102 i7 i8 _ _ _ hP hD hS (lv_sub hl [0, 1, 2, 3] rfl) hf
    · have hf := ofneg hf hc
      refine lv_iload_n hx hb dX8_total_52 rfl (lv_at hl 2 rfl) ?_
      refine lv_iconst (v := 3) hx hb dX8_total_53 (by decide) ?_
      refine lv_icmp_ge (tgt := 102) hx hb dX8_total_54 (by decide) (fun hc => ?_) (fun hc => ?_)
      · have hf := ofpos hf hc
        exact hK102 i7 i8 _ _ _ hP hD hS (lv_sub hl [0, 1, 2, 3] rfl) hf
      · have hf := ofneg hf hc
        refine lv_lload_n hx hb dX8_total_57 rfl (lv_at hl 3 rfl) ?_
        refine lv_iload_n hx hb dX8_total_58 rfl (lv_at hl 2 rfl) ?_
        refine lv_if_ne (tgt := 72) hx hb dX8_total_59 (by decide) (fun hc => ?_) (fun hc => ?_)
        · have hf := ofneg hf hc
          refine lv_iload_n hx hb dX8_total_72 rfl (lv_at hl 2 rfl) ?_
          refine lv_iconst (v := 1) hx hb dX8_total_73 (by decide) ?_
          refine lv_icmp_ne (tgt := 87) hx hb dX8_total_74 (by decide) (fun hc => ?_) (fun hc => ?_)
          · have hf := ofneg hf hc
            refine lv_aload_n hx hb dX8_total_87 rfl (lv_at hl 0 rfl) ?_
            refine kget (v := .ref (b0 (o0+5))) X hP ff_X8_23 0 rfl rfl dX8_total_88 ?_
            refine lv_iload hx hb dX8_total_91 (lv_at hl 4 rfl) ?_
            obtain ⟨hc, hf⟩ := ofck hf
            refine klald (f := c11) (n := 24) X hP 5 rfl hc dX8_total_93 ?_
            refine lv_ladd hx hb dX8_total_94 ?_
            refine lv_lstore_n (lv' := [(3, .long (i7 + (c11 i8.toNatClampNeg))), (0, .ref (b0 o0)), (1, .int i5), (2, .int i6), (5, .int i8)]) hx hb dX8_total_95 rfl hl (by decide) rfl (fun ls hl => ?_)
            refine lv_iinc (v := i8 + 1) (lv' := [(5, .int (i8 + 1)), (3, .long (i7 + (c11 i8.toNatClampNeg))), (0, .ref (b0 o0)), (1, .int i5), (2, .int i6)]) hx hb dX8_total_96 hl (k := 4) rfl rfl (by decide) rfl (fun ls hl => ?_)
            refine lv_goto (tgt := 40) hx hb dX8_total_99 (by decide) ?_
            exact ih (i7 + (c11 i8.toNatClampNeg)) (i8 + 1) _ _ _ hP hD hS (lv_sub hl [2, 3, 4, 1, 0] rfl) hf
          · have hf := ofpos hf hc
            refine lv_aload_n hx hb dX8_total_77 rfl (lv_at hl 0 rfl) ?_
            refine kget (v := .ref (b0 (o0+4))) X hP ff_X8_20 0 rfl rfl dX8_total_78 ?_
            refine lv_iload hx hb dX8_total_81 (lv_at hl 4 rfl) ?_
            obtain ⟨hc, hf⟩ := ofck hf
            refine klald (f := c10) (n := 24) X hP 4 rfl hc dX8_total_83 ?_
            refine lv_goto (tgt := 94) hx hb dX8_total_84 (by decide) ?_
            refine lv_ladd hx hb dX8_total_94 ?_
            refine lv_lstore_n (lv' := [(3, .long (i7 + (c10 i8.toNatClampNeg))), (0, .ref (b0 o0)), (1, .int i5), (2, .int i6), (5, .int i8)]) hx hb dX8_total_95 rfl hl (by decide) rfl (fun ls hl => ?_)
            refine lv_iinc (v := i8 + 1) (lv' := [(5, .int (i8 + 1)), (3, .long (i7 + (c10 i8.toNatClampNeg))), (0, .ref (b0 o0)), (1, .int i5), (2, .int i6)]) hx hb dX8_total_96 hl (k := 4) rfl rfl (by decide) rfl (fun ls hl => ?_)
            refine lv_goto (tgt := 40) hx hb dX8_total_99 (by decide) ?_
            exact ih (i7 + (c10 i8.toNatClampNeg)) (i8 + 1) _ _ _ hP hD hS (lv_sub hl [2, 3, 4, 1, 0] rfl) hf
        · have hf := ofpos hf hc
          refine lv_aload_n hx hb dX8_total_62 rfl (lv_at hl 0 rfl) ?_
          refine lv_iload_n hx hb dX8_total_63 rfl (lv_at hl 1 rfl) ?_
          refine lv_iload hx hb dX8_total_64 (lv_at hl 4 rfl) ?_
          obtain ⟨r20, hg_r20, hf⟩ := ofbind hf
          refine kcV (bs := [W_Model k b0 o0 v_row v_number v_saved c9 c10 c11 c12 c13 c14 c15 c16 c17 c18 c19 v_text v_length v_at v_readKey v_readCount v_keys v_h]) (br := []) (bc := [W_Model k b0 o0 v_row v_number v_saved c9 c10 c11 c12 c13 c14 c15 c16 c17 c18 c19 v_text v_length v_at v_readKey v_readCount v_keys v_h]) (bc' := [W_Model k b0 o0 v_row v_number v_saved c9 c10 c11 c12 c13 c14 c15 c16 c17 c18 c19 v_text v_length v_at v_readKey v_readCount v_keys v_h]) X hP hD hS (c_Model_truthAt l D k t b0 o0 v_row v_number v_saved c9 c10 c11 c12 c13 c14 c15 c16 c17 c18 c19 v_text v_length v_at v_readKey v_readCount v_keys v_h i5 i8 r20 hg_r20) mv_X8_108 hl [] [0] 8 ⟨rfl, rfl⟩ ⟨Nat.le_of_ble_eq_true rfl, Nat.le_of_ble_eq_true rfl⟩ rfl rfl rfl rfl rfl rfl rfl (Nat.le_of_ble_eq_true rfl) dX8_total_66 (fun H locs hP hD hS => ?_)
          have hP : va_P D vwCl [W_Model k b0 o0 v_row v_number v_saved c9 c10 c11 c12 c13 c14 c15 c16 c17 c18 c19 v_text v_length v_at v_readKey v_readCount v_keys v_h].flatten _ := hP
          have hD : va_D A [W_Model k b0 o0 v_row v_number v_saved c9 c10 c11 c12 c13 c14 c15 c16 c17 c18 c19 v_text v_length v_at v_readKey v_readCount v_keys v_h].flatten := hD
          refine lv_goto (tgt := 94) hx hb dX8_total_69 (by decide) ?_
          refine lv_ladd hx hb dX8_total_94 ?_
          refine lv_lstore_n (lv' := [(3, .long (i7 + r20)), (0, .ref (b0 o0)), (1, .int i5), (2, .int i6), (5, .int i8)]) hx hb dX8_total_95 rfl hl (by decide) rfl (fun ls hl => ?_)
          refine lv_iinc (v := i8 + 1) (lv' := [(5, .int (i8 + 1)), (3, .long (i7 + r20)), (0, .ref (b0 o0)), (1, .int i5), (2, .int i6)]) hx hb dX8_total_96 hl (k := 4) rfl rfl (by decide) rfl (fun ls hl => ?_)
          refine lv_goto (tgt := 40) hx hb dX8_total_99 (by decide) ?_
          exact ih (i7 + r20) (i8 + 1) _ _ _ hP hD hS (lv_sub hl [2, 3, 4, 1, 0] rfl) hf
set_option maxRecDepth 100000 in
set_option maxHeartbeats 1000000 in
theorem w_Model_total_L105 {p : Program} {l : Launch} {e : Env} {s : State} {m : MethodId} {below : List Frame} {meth : Method} {c : Code} {args : Array Value} {A : Nat → Prop} {D : va_G} {k : Nat → ClassId} {t : Nat → Nat} (X : BX l D k t p s m args meth c cX8_total 6 RX8 (some .long) A) (b0 : Nat → Nat) (o0 : Nat) (v_row : FI) (v_number : FJ) (v_saved : Int32) (v_place : FI) (v_low : FJ) (v_high : FJ) (v_lowBefore : FJ) (v_highBefore : FJ) (v_least : FJ) (v_greatest : FJ) (v_things : Int32) (v_changing : Int32) (v_overLow : FJ) (v_overHigh : FJ) (v_text : FI) (v_length : Int32) (v_at : Int32) (v_readKey : FI) (v_readCount : FJ) (v_keys : Int32) (v_h : Int64) (N : Nat) (i38 : Int32) (i39 : Int32) (c42 : FI) (c43 : FJ) (c44 : FJ) (c45 : FJ) (c46 : FJ) (c47 : FJ) (c48 : FJ) (c49 : Int32) (c50 : Int32) (c51 : FJ) (c52 : FJ) (out : Int64 × FI × FJ × FJ × FJ × FJ × FJ × FJ × Int32 × Int32 × FJ × FJ) (K137 : Int64 → Int32 → Option (Int64 × FI × FJ × FJ × FJ × FJ × FJ × FJ × Int32 × Int32 × FJ × FJ)) (hK137 : ∀ (i40' : Int64) (i41' : Int32) (H : Heap) (locs : List Loc) (ls : Array Slot), va_P D vwCl [W_Model k b0 o0 v_row v_number v_saved c42 c43 c44 c45 c46 c47 c48 c49 c50 c51 c52 v_text v_length v_at v_readKey v_readCount v_keys v_h].flatten H → va_D A [W_Model k b0 o0 v_row v_number v_saved c42 c43 c44 c45 c46 c47 c48 c49 c50 c51 c52 v_text v_length v_at v_readKey v_readCount v_keys v_h].flatten → va_S A s.heap H locs → lv_has ls 6 [(3, .long i40')] → K137 i40' i41' = some out → W p l e rm_Model_total s m args below meth c H locs 0 0 (Q_Model_total below D k A args s b0 o0 v_row v_number v_saved v_place v_low v_high v_lowBefore v_highBefore v_least v_greatest v_things v_changing v_overLow v_overHigh v_text v_length v_at v_readKey v_readCount v_keys v_h out) (F0 m 137 ls [])) : ∀ (n : Nat) (i40 : Int64) (i41 : Int32) (H : Heap) (locs : List Loc) (ls : Array Slot), va_P D vwCl [W_Model k b0 o0 v_row v_number v_saved c42 c43 c44 c45 c46 c47 c48 c49 c50 c51 c52 v_text v_length v_at v_readKey v_readCount v_keys v_h].flatten H → va_D A [W_Model k b0 o0 v_row v_number v_saved c42 c43 c44 c45 c46 c47 c48 c49 c50 c51 c52 v_text v_length v_at v_readKey v_readCount v_keys v_h].flatten → va_S A s.heap H locs → lv_has ls 6 [(0, .ref (b0 o0)), (1, .int i38), (2, .int i39), (3, .long i40), (5, .int i41)] → f_Model_total_L105 i38 i39 v_row v_number K137 n i40 i41 = some out → W p l e rm_Model_total s m args below meth c H locs 0 0 (Q_Model_total below D k A args s b0 o0 v_row v_number v_saved v_place v_low v_high v_lowBefore v_highBefore v_least v_greatest v_things v_changing v_overLow v_overHigh v_text v_length v_at v_readKey v_readCount v_keys v_h out) (F0 m 105 ls []) := by
  have hx := X.1.1
  have hb := X.1.2.1
  have hml := X.1.2.2.1
  have hown := X.1.2.2.2.1
  have hts := X.1.2.2.2.2
  intro n
  induction n with
  | zero =>
    intro i40 i41 H locs ls hP hD hS hl hf
    rw [f_Model_total_L105] at hf
    cases hf
  | succ n ih =>
    intro i40 i41 H locs ls hP hD hS hl hf
    rw [f_Model_total_L105] at hf
    refine lv_iload hx hb dX8_total_105 (lv_at hl 4 rfl) ?_
    refine lv_aload_n hx hb dX8_total_107 rfl (lv_at hl 0 rfl) ?_
    refine kget (v := .ref (b0 (o0+1))) X hP ff_X8_7 0 rfl rfl dX8_total_108 ?_
    refine lv_iconst (v := 3) hx hb dX8_total_111 (by decide) ?_
    obtain ⟨hc, hf⟩ := ofck hf
    refine kiald (f := v_row) (n := 1002) X hP 1 rfl hc dX8_total_112 ?_
    refine lv_icmp_ge (tgt := 137) hx hb dX8_total_113 (by decide) (fun hc => ?_) (fun hc => ?_)
    · have hf := ofpos hf hc
      exact hK137 i40 i41 _ _ _ hP hD hS (lv_sub hl [3] rfl) hf
    · have hf := ofneg hf hc
      refine lv_iload_n hx hb dX8_total_116 rfl (lv_at hl 2 rfl) ?_
      refine lv_iconst (v := 3) hx hb dX8_total_117 (by decide) ?_
      refine lv_icmp_ne (tgt := 137) hx hb dX8_total_118 (by decide) (fun hc => ?_) (fun hc => ?_)
      · have hf := ofneg hf hc
        exact hK137 i40 i41 _ _ _ hP hD hS (lv_sub hl [3] rfl) hf
      · have hf := ofpos hf hc
        refine lv_lload_n hx hb dX8_total_121 rfl (lv_at hl 3 rfl) ?_
        refine lv_aload_n hx hb dX8_total_122 rfl (lv_at hl 0 rfl) ?_
        refine lv_iload_n hx hb dX8_total_123 rfl (lv_at hl 1 rfl) ?_
        refine lv_iload hx hb dX8_total_124 (lv_at hl 4 rfl) ?_
        obtain ⟨r53, hg_r53, hf⟩ := ofbind hf
        refine kcV (bs := [W_Model k b0 o0 v_row v_number v_saved c42 c43 c44 c45 c46 c47 c48 c49 c50 c51 c52 v_text v_length v_at v_readKey v_readCount v_keys v_h]) (br := []) (bc := [W_Model k b0 o0 v_row v_number v_saved c42 c43 c44 c45 c46 c47 c48 c49 c50 c51 c52 v_text v_length v_at v_readKey v_readCount v_keys v_h]) (bc' := [W_Model k b0 o0 v_row v_number v_saved c42 c43 c44 c45 c46 c47 c48 c49 c50 c51 c52 v_text v_length v_at v_readKey v_readCount v_keys v_h]) X hP hD hS (c_Model_aboveAt l D k t b0 o0 v_row v_number v_saved c42 c43 c44 c45 c46 c47 c48 c49 c50 c51 c52 v_text v_length v_at v_readKey v_readCount v_keys v_h i38 i41 r53 hg_r53) mv_X8_124 hl [] [0] 8 ⟨rfl, rfl⟩ ⟨Nat.le_of_ble_eq_true rfl, Nat.le_of_ble_eq_true rfl⟩ rfl rfl rfl rfl rfl rfl rfl (Nat.le_of_ble_eq_true rfl) dX8_total_126 (fun H locs hP hD hS => ?_)
        have hP : va_P D vwCl [W_Model k b0 o0 v_row v_number v_saved c42 c43 c44 c45 c46 c47 c48 c49 c50 c51 c52 v_text v_length v_at v_readKey v_readCount v_keys v_h].flatten _ := hP
        have hD : va_D A [W_Model k b0 o0 v_row v_number v_saved c42 c43 c44 c45 c46 c47 c48 c49 c50 c51 c52 v_text v_length v_at v_readKey v_readCount v_keys v_h].flatten := hD
        refine lv_ladd hx hb dX8_total_129 ?_
        refine lv_lstore_n (lv' := [(3, .long (i40 + r53)), (0, .ref (b0 o0)), (1, .int i38), (2, .int i39), (5, .int i41)]) hx hb dX8_total_130 rfl hl (by decide) rfl (fun ls hl => ?_)
        refine lv_iinc (v := i41 + 1) (lv' := [(5, .int (i41 + 1)), (3, .long (i40 + r53)), (0, .ref (b0 o0)), (1, .int i38), (2, .int i39)]) hx hb dX8_total_131 hl (k := 4) rfl rfl (by decide) rfl (fun ls hl => ?_)
        refine lv_goto (tgt := 105) hx hb dX8_total_134 (by decide) ?_
        exact ih (i40 + r53) (i41 + 1) _ _ _ hP hD hS (lv_sub hl [2, 3, 4, 1, 0] rfl) hf
set_option maxRecDepth 100000 in
set_option maxHeartbeats 1000000 in
theorem w_Model_total_J102 {p : Program} {l : Launch} {e : Env} {s : State} {m : MethodId} {below : List Frame} {meth : Method} {c : Code} {args : Array Value} {A : Nat → Prop} {D : va_G} {k : Nat → ClassId} {t : Nat → Nat} (X : BX l D k t p s m args meth c cX8_total 6 RX8 (some .long) A) (b0 : Nat → Nat) (o0 : Nat) (v_row : FI) (v_number : FJ) (v_saved : Int32) (v_place : FI) (v_low : FJ) (v_high : FJ) (v_lowBefore : FJ) (v_highBefore : FJ) (v_least : FJ) (v_greatest : FJ) (v_things : Int32) (v_changing : Int32) (v_overLow : FJ) (v_overHigh : FJ) (v_text : FI) (v_length : Int32) (v_at : Int32) (v_readKey : FI) (v_readCount : FJ) (v_keys : Int32) (v_h : Int64) (N : Nat) (j23 : Int32) (j24 : Int32) (j25 : Int64) (c26 : FI) (c27 : FJ) (c28 : FJ) (c29 : FJ) (c30 : FJ) (c31 : FJ) (c32 : FJ) (c33 : Int32) (c34 : Int32) (c35 : FJ) (c36 : FJ) (out : Int64 × FI × FJ × FJ × FJ × FJ × FJ × FJ × Int32 × Int32 × FJ × FJ) : ∀ (H : Heap) (locs : List Loc) (ls : Array Slot), va_P D vwCl [W_Model k b0 o0 v_row v_number v_saved c26 c27 c28 c29 c30 c31 c32 c33 c34 c35 c36 v_text v_length v_at v_readKey v_readCount v_keys v_h].flatten H → va_D A [W_Model k b0 o0 v_row v_number v_saved c26 c27 c28 c29 c30 c31 c32 c33 c34 c35 c36 v_text v_length v_at v_readKey v_readCount v_keys v_h].flatten → va_S A s.heap H locs → lv_has ls 6 [(0, .ref (b0 o0)), (1, .int j23), (2, .int j24), (3, .long j25)] → f_Model_total_J102 N j23 j24 j25 c26 c27 c28 c29 c30 c31 c32 c33 c34 c35 c36 v_row v_number = some out → W p l e rm_Model_total s m args below meth c H locs 0 0 (Q_Model_total below D k A args s b0 o0 v_row v_number v_saved v_place v_low v_high v_lowBefore v_highBefore v_least v_greatest v_things v_changing v_overLow v_overHigh v_text v_length v_at v_readKey v_readCount v_keys v_h out) (F0 m 102 ls []) := by
  have hx := X.1.1
  have hb := X.1.2.1
  have hml := X.1.2.2.1
  have hown := X.1.2.2.2.1
  have hts := X.1.2.2.2.2
  intro H locs ls hP hD hS hl hf
  rw [f_Model_total_J102] at hf
  refine lv_iconst (v := 0) hx hb dX8_total_102 (by decide) ?_
  refine lv_istore (lv' := [(5, .int 0), (0, .ref (b0 o0)), (1, .int j23), (2, .int j24), (3, .long j25)]) hx hb dX8_total_103 hl (by decide) rfl (fun ls hl => ?_)
  refine w_Model_total_L105 X b0 o0 v_row v_number v_saved v_place v_low v_high v_lowBefore v_highBefore v_least v_greatest v_things v_changing v_overLow v_overHigh v_text v_length v_at v_readKey v_readCount v_keys v_h N j23 j24 c26 c27 c28 c29 c30 c31 c32 c33 c34 c35 c36 out _ ?_ N j25 0 _ _ _ hP hD hS (lv_sub hl [1, 2, 3, 4, 0] rfl) hf
  · intro i54 i55 H locs ls hP hD hS hl hf
    refine lv_lload_n hx hb dX8_total_137 rfl (lv_at hl 0 rfl) ?_
    have hf := Option.some.inj hf
    subst hf
    exact klret (v := i54) X hP hD hS dX8_total_138
set_option maxRecDepth 100000 in
set_option maxHeartbeats 1000000 in
theorem c_Model_total (l : Launch) (D : va_G) (k : Nat → ClassId) (t : Nat → Nat) (b0 : Nat → Nat) (o0 : Nat) (v_row : FI) (v_number : FJ) (v_saved : Int32) (v_place : FI) (v_low : FJ) (v_high : FJ) (v_lowBefore : FJ) (v_highBefore : FJ) (v_least : FJ) (v_greatest : FJ) (v_things : Int32) (v_changing : Int32) (v_overLow : FJ) (v_overHigh : FJ) (v_text : FI) (v_length : Int32) (v_at : Int32) (v_readKey : FI) (v_readCount : FJ) (v_keys : Int32) (v_h : Int64) (x1 : Int32) (x2 : Int32) (N : Nat) (out : Int64 × FI × FJ × FJ × FJ × FJ × FJ × FJ × Int32 × Int32 × FJ × FJ) (hf : f_Model_total N x1 x2 v_row v_number v_place v_low v_high v_lowBefore v_highBefore v_least v_greatest v_things v_changing v_overLow v_overHigh = some out) : CT l D k t yX8_total cX8_total 6 (some .long) rm_Model_total [.ref (b0 o0), .int x1, .int x2] [W_Model k b0 o0 v_row v_number v_saved v_place v_low v_high v_lowBefore v_highBefore v_least v_greatest v_things v_changing v_overLow v_overHigh v_text v_length v_at v_readKey v_readCount v_keys v_h].flatten (some (.long out.1)) [W_Model k b0 o0 v_row v_number v_saved out.2.1 out.2.2.1 out.2.2.2.1 out.2.2.2.2.1 out.2.2.2.2.2.1 out.2.2.2.2.2.2.1 out.2.2.2.2.2.2.2.1 out.2.2.2.2.2.2.2.2.1 out.2.2.2.2.2.2.2.2.2.1 out.2.2.2.2.2.2.2.2.2.2.1 out.2.2.2.2.2.2.2.2.2.2.2 v_text v_length v_at v_readKey v_readCount v_keys v_h].flatten := by
  refine kofW (by decide) (Nat.le_of_ble_eq_true rfl) ?_
  intro p e s m below meth c A ls X hP hD hS hl
  have hx := X.1.1
  have hb := X.1.2.1
  have hml := X.1.2.2.1
  have hown := X.1.2.2.2.1
  have hts := X.1.2.2.2.2
  have hl : lv_has ls 6 [(0, .ref (b0 o0)), (1, .int x1), (2, .int x2)] := hl
  rw [f_Model_total] at hf
  refine lv_iload_n hx hb dX8_total_0 rfl (lv_at hl 1 rfl) ?_
  obtain ⟨r1, hg_r1, hf⟩ := ofbind hf
  refine kcS (bs := [W_Model k b0 o0 v_row v_number v_saved v_place v_low v_high v_lowBefore v_highBefore v_least v_greatest v_things v_changing v_overLow v_overHigh v_text v_length v_at v_readKey v_readCount v_keys v_h]) (br := [W_Model k b0 o0 v_row v_number v_saved v_place v_low v_high v_lowBefore v_highBefore v_least v_greatest v_things v_changing v_overLow v_overHigh v_text v_length v_at v_readKey v_readCount v_keys v_h]) (bc := []) (bc' := []) X hP hD hS (c_Model_isBraid l D k t x1 r1 hg_r1) ms_X8_100 hl [0] [] ⟨rfl, rfl⟩ ⟨Nat.le_of_ble_eq_true rfl, Nat.le_of_ble_eq_true rfl⟩ rfl rfl rfl rfl (Nat.le_of_ble_eq_true rfl) dX8_total_1 (fun H locs hP hD hS => ?_)
  have hP : va_P D vwCl [W_Model k b0 o0 v_row v_number v_saved v_place v_low v_high v_lowBefore v_highBefore v_least v_greatest v_things v_changing v_overLow v_overHigh v_text v_length v_at v_readKey v_readCount v_keys v_h].flatten _ := hP
  have hD : va_D A [W_Model k b0 o0 v_row v_number v_saved v_place v_low v_high v_lowBefore v_highBefore v_least v_greatest v_things v_changing v_overLow v_overHigh v_text v_length v_at v_readKey v_readCount v_keys v_h].flatten := hD
  refine lv_if_ne (tgt := 11) hx hb dX8_total_4 (by decide) (fun hc => ?_) (fun hc => ?_)
  · have hf := ofneg hf hc
    refine lv_iload_n hx hb dX8_total_11 rfl (lv_at hl 2 rfl) ?_
    refine lv_iconst (v := 0) hx hb dX8_total_12 (by decide) ?_
    refine lv_iconst (v := 3) hx hb dX8_total_13 (by decide) ?_
    obtain ⟨r2, hg_r2, hf⟩ := ofbind hf
    refine kcS (bs := [W_Model k b0 o0 v_row v_number v_saved v_place v_low v_high v_lowBefore v_highBefore v_least v_greatest v_things v_changing v_overLow v_overHigh v_text v_length v_at v_readKey v_readCount v_keys v_h]) (br := [W_Model k b0 o0 v_row v_number v_saved v_place v_low v_high v_lowBefore v_highBefore v_least v_greatest v_things v_changing v_overLow v_overHigh v_text v_length v_at v_readKey v_readCount v_keys v_h]) (bc := []) (bc' := []) X hP hD hS (c_Model_in l D k t x2 0 3 r2 hg_r2) ms_X8_61 hl [0] [] ⟨rfl, rfl⟩ ⟨Nat.le_of_ble_eq_true rfl, Nat.le_of_ble_eq_true rfl⟩ rfl rfl rfl rfl (Nat.le_of_ble_eq_true rfl) dX8_total_14 (fun H locs hP hD hS => ?_)
    have hP : va_P D vwCl [W_Model k b0 o0 v_row v_number v_saved v_place v_low v_high v_lowBefore v_highBefore v_least v_greatest v_things v_changing v_overLow v_overHigh v_text v_length v_at v_readKey v_readCount v_keys v_h].flatten _ := hP
    have hD : va_D A [W_Model k b0 o0 v_row v_number v_saved v_place v_low v_high v_lowBefore v_highBefore v_least v_greatest v_things v_changing v_overLow v_overHigh v_text v_length v_at v_readKey v_readCount v_keys v_h].flatten := hD
    refine lv_if_ne (tgt := 24) hx hb dX8_total_17 (by decide) (fun hc => ?_) (fun hc => ?_)
    · have hf := ofneg hf hc
      refine lv_aload_n hx hb dX8_total_24 rfl (lv_at hl 0 rfl) ?_
      refine lv_iload_n hx hb dX8_total_25 rfl (lv_at hl 1 rfl) ?_
      refine lv_aload_n hx hb dX8_total_26 rfl (lv_at hl 0 rfl) ?_
      refine kget (v := .ref (b0 (o0+1))) X hP ff_X8_7 0 rfl rfl dX8_total_27 ?_
      refine lv_iconst (v := 5) hx hb dX8_total_30 (by decide) ?_
      obtain ⟨hc, hf⟩ := ofck hf
      refine kiald (f := v_row) (n := 1002) X hP 1 rfl hc dX8_total_31 ?_
      obtain ⟨r3, hg_r3, hf⟩ := ofbind hf
      refine kcV (bs := [W_Model k b0 o0 v_row v_number v_saved v_place v_low v_high v_lowBefore v_highBefore v_least v_greatest v_things v_changing v_overLow v_overHigh v_text v_length v_at v_readKey v_readCount v_keys v_h]) (br := []) (bc := [W_Model k b0 o0 v_row v_number v_saved v_place v_low v_high v_lowBefore v_highBefore v_least v_greatest v_things v_changing v_overLow v_overHigh v_text v_length v_at v_readKey v_readCount v_keys v_h]) (bc' := [W_Model k b0 o0 v_row v_number v_saved r3.1 r3.2.1 r3.2.2.1 r3.2.2.2.1 r3.2.2.2.2.1 r3.2.2.2.2.2.1 r3.2.2.2.2.2.2.1 r3.2.2.2.2.2.2.2.1 r3.2.2.2.2.2.2.2.2.1 r3.2.2.2.2.2.2.2.2.2.1 r3.2.2.2.2.2.2.2.2.2.2 v_text v_length v_at v_readKey v_readCount v_keys v_h]) X hP hD hS (c_Model_findsFlows l D k t b0 o0 v_row v_number v_saved v_place v_low v_high v_lowBefore v_highBefore v_least v_greatest v_things v_changing v_overLow v_overHigh v_text v_length v_at v_readKey v_readCount v_keys v_h x1 (v_row (5 : Int32).toNatClampNeg) N r3 hg_r3) mv_X8_153 hl [] [0] 8 ⟨rfl, rfl⟩ ⟨Nat.le_of_ble_eq_true rfl, Nat.le_of_ble_eq_true rfl⟩ rfl rfl rfl rfl rfl rfl rfl (Nat.le_of_ble_eq_true rfl) dX8_total_32 (fun H locs hP hD hS => ?_)
      have hP : va_P D vwCl [W_Model k b0 o0 v_row v_number v_saved r3.1 r3.2.1 r3.2.2.1 r3.2.2.2.1 r3.2.2.2.2.1 r3.2.2.2.2.2.1 r3.2.2.2.2.2.2.1 r3.2.2.2.2.2.2.2.1 r3.2.2.2.2.2.2.2.2.1 r3.2.2.2.2.2.2.2.2.2.1 r3.2.2.2.2.2.2.2.2.2.2 v_text v_length v_at v_readKey v_readCount v_keys v_h].flatten _ := hP
      have hD : va_D A [W_Model k b0 o0 v_row v_number v_saved r3.1 r3.2.1 r3.2.2.1 r3.2.2.2.1 r3.2.2.2.2.1 r3.2.2.2.2.2.1 r3.2.2.2.2.2.2.1 r3.2.2.2.2.2.2.2.1 r3.2.2.2.2.2.2.2.2.1 r3.2.2.2.2.2.2.2.2.2.1 r3.2.2.2.2.2.2.2.2.2.2 v_text v_length v_at v_readKey v_readCount v_keys v_h].flatten := hD
      refine lv_lconst (v := 0) hx hb dX8_total_35 (by decide) ?_
      refine lv_lstore_n (lv' := [(3, .long 0), (0, .ref (b0 o0)), (1, .int x1), (2, .int x2)]) hx hb dX8_total_36 rfl hl (by decide) rfl (fun ls hl => ?_)
      refine lv_iconst (v := 0) hx hb dX8_total_37 (by decide) ?_
      refine lv_istore (lv' := [(5, .int 0), (3, .long 0), (0, .ref (b0 o0)), (1, .int x1), (2, .int x2)]) hx hb dX8_total_38 hl (by decide) rfl (fun ls hl => ?_)
      refine w_Model_total_L40 X b0 o0 v_row v_number v_saved v_place v_low v_high v_lowBefore v_highBefore v_least v_greatest v_things v_changing v_overLow v_overHigh v_text v_length v_at v_readKey v_readCount v_keys v_h N x1 x2 r3.1 r3.2.1 r3.2.2.1 r3.2.2.2.1 r3.2.2.2.2.1 r3.2.2.2.2.2.1 r3.2.2.2.2.2.2.1 r3.2.2.2.2.2.2.2.1 r3.2.2.2.2.2.2.2.2.1 r3.2.2.2.2.2.2.2.2.2.1 r3.2.2.2.2.2.2.2.2.2.2 out _ ?_ N 0 0 _ _ _ hP hD hS (lv_sub hl [2, 3, 4, 1, 0] rfl) hf
      · intro i21 i22 H locs ls hP hD hS hl hf
        exact w_Model_total_J102 X b0 o0 v_row v_number v_saved v_place v_low v_high v_lowBefore v_highBefore v_least v_greatest v_things v_changing v_overLow v_overHigh v_text v_length v_at v_readKey v_readCount v_keys v_h N x1 x2 i21 r3.1 r3.2.1 r3.2.2.1 r3.2.2.2.1 r3.2.2.2.2.1 r3.2.2.2.2.2.1 r3.2.2.2.2.2.2.1 r3.2.2.2.2.2.2.2.1 r3.2.2.2.2.2.2.2.2.1 r3.2.2.2.2.2.2.2.2.2.1 r3.2.2.2.2.2.2.2.2.2.2 out _ _ _ hP hD hS (lv_sub hl [0, 1, 2, 3] rfl) hf
    · have hf := ofpos hf hc
      refine lv_ldc2 (v := (-3)) hx hb hown (hts _ kc_X8_106) dX8_total_20 ?_
      have hf := Option.some.inj hf
      subst hf
      exact klret (v := (-3)) X hP hD hS dX8_total_23
  · have hf := ofpos hf hc
    refine lv_ldc2 (v := (-2)) hx hb hown (hts _ kc_X8_103) dX8_total_7 ?_
    have hf := Option.some.inj hf
    subst hf
    exact klret (v := (-2)) X hP hD hS dX8_total_10
