/-! Model_rest: public int rest(int, int); -/
abbrev rm_Model_rest : Room := ({ frames := 2, cells := 0, slots := 0, locals := 43 } : Room)
def f_Model_rest (x1 : Int32) (x2 : Int32) (v_row : FI) : Option (Int32) := (f_Model_isBraid x1).bind (fun r1 => if r1 = 0 then some (-2) else (f_Model_isCounter x2 v_row).bind (fun r2 => if r2 = 0 then some (-2) else (f_Model_restAt x1 x2 v_row).bind (fun r3 => some r3)))
abbrev Q_Model_rest (below : List Frame) (D : va_G) (k : Nat → ClassId) (A : Nat → Prop) (args : Array Value) (s : State) (b0 : Nat → Nat) (o0 : Nat) (v_row : FI) (v_number : FJ) (v_saved : Int32) (v_place : FI) (v_low : FJ) (v_high : FJ) (v_lowBefore : FJ) (v_highBefore : FJ) (v_least : FJ) (v_greatest : FJ) (v_things : Int32) (v_changing : Int32) (v_overLow : FJ) (v_overHigh : FJ) (v_text : FI) (v_length : Int32) (v_at : Int32) (v_readKey : FI) (v_readCount : FJ) (v_keys : Int32) (v_h : Int64) (out : Int32) : State → Prop := MQ below (QW D k A (some (.int out)) [W_Model k b0 o0 v_row v_number v_saved v_place v_low v_high v_lowBefore v_highBefore v_least v_greatest v_things v_changing v_overLow v_overHigh v_text v_length v_at v_readKey v_readCount v_keys v_h].flatten) args s 0 0 A
set_option maxRecDepth 100000 in
set_option maxHeartbeats 1000000 in
theorem c_Model_rest (l : Launch) (D : va_G) (k : Nat → ClassId) (t : Nat → Nat) (b0 : Nat → Nat) (o0 : Nat) (v_row : FI) (v_number : FJ) (v_saved : Int32) (v_place : FI) (v_low : FJ) (v_high : FJ) (v_lowBefore : FJ) (v_highBefore : FJ) (v_least : FJ) (v_greatest : FJ) (v_things : Int32) (v_changing : Int32) (v_overLow : FJ) (v_overHigh : FJ) (v_text : FI) (v_length : Int32) (v_at : Int32) (v_readKey : FI) (v_readCount : FJ) (v_keys : Int32) (v_h : Int64) (x1 : Int32) (x2 : Int32) (out : Int32) (hf : f_Model_rest x1 x2 v_row = some out) : CT l D k t yX8_rest cX8_rest 3 (some .int) rm_Model_rest [.ref (b0 o0), .int x1, .int x2] [W_Model k b0 o0 v_row v_number v_saved v_place v_low v_high v_lowBefore v_highBefore v_least v_greatest v_things v_changing v_overLow v_overHigh v_text v_length v_at v_readKey v_readCount v_keys v_h].flatten (some (.int out)) [W_Model k b0 o0 v_row v_number v_saved v_place v_low v_high v_lowBefore v_highBefore v_least v_greatest v_things v_changing v_overLow v_overHigh v_text v_length v_at v_readKey v_readCount v_keys v_h].flatten := by
  refine kofW (by decide) (Nat.le_of_ble_eq_true rfl) ?_
  intro p e s m below meth c A ls X hP hD hS hl
  have N : Nat := 0
  have hx := X.1.1
  have hb := X.1.2.1
  have hml := X.1.2.2.1
  have hown := X.1.2.2.2.1
  have hts := X.1.2.2.2.2
  have hl : lv_has ls 3 [(0, .ref (b0 o0)), (1, .int x1), (2, .int x2)] := hl
  rw [f_Model_rest] at hf
  refine lv_iload_n hx hb dX8_rest_0 rfl (lv_at hl 1 rfl) ?_
  obtain ⟨r1, hg_r1, hf⟩ := ofbind hf
  refine kcS (bs := [W_Model k b0 o0 v_row v_number v_saved v_place v_low v_high v_lowBefore v_highBefore v_least v_greatest v_things v_changing v_overLow v_overHigh v_text v_length v_at v_readKey v_readCount v_keys v_h]) (br := [W_Model k b0 o0 v_row v_number v_saved v_place v_low v_high v_lowBefore v_highBefore v_least v_greatest v_things v_changing v_overLow v_overHigh v_text v_length v_at v_readKey v_readCount v_keys v_h]) (bc := []) (bc' := []) X hP hD hS (c_Model_isBraid l D k t x1 r1 hg_r1) ms_X8_100 hl [0] [] ⟨rfl, rfl⟩ ⟨Nat.le_of_ble_eq_true rfl, Nat.le_of_ble_eq_true rfl⟩ rfl rfl rfl rfl (Nat.le_of_ble_eq_true rfl) dX8_rest_1 (fun H locs hP hD hS => ?_)
  have hP : va_P D vwCl [W_Model k b0 o0 v_row v_number v_saved v_place v_low v_high v_lowBefore v_highBefore v_least v_greatest v_things v_changing v_overLow v_overHigh v_text v_length v_at v_readKey v_readCount v_keys v_h].flatten _ := hP
  have hD : va_D A [W_Model k b0 o0 v_row v_number v_saved v_place v_low v_high v_lowBefore v_highBefore v_least v_greatest v_things v_changing v_overLow v_overHigh v_text v_length v_at v_readKey v_readCount v_keys v_h].flatten := hD
  refine lv_if_eq (tgt := 24) hx hb dX8_rest_4 (by decide) (fun hc => ?_) (fun hc => ?_)
  · have hf := ofpos hf hc
    refine lv_bipush (v := (-2)) hx hb dX8_rest_24 (by decide) ?_
    have hf := Option.some.inj hf
    subst hf
    exact kiret (v := (-2)) X hP hD hS dX8_rest_26
  · have hf := ofneg hf hc
    refine lv_aload_n hx hb dX8_rest_7 rfl (lv_at hl 0 rfl) ?_
    refine lv_iload_n hx hb dX8_rest_8 rfl (lv_at hl 2 rfl) ?_
    obtain ⟨r2, hg_r2, hf⟩ := ofbind hf
    refine kcV (bs := [W_Model k b0 o0 v_row v_number v_saved v_place v_low v_high v_lowBefore v_highBefore v_least v_greatest v_things v_changing v_overLow v_overHigh v_text v_length v_at v_readKey v_readCount v_keys v_h]) (br := []) (bc := [W_Model k b0 o0 v_row v_number v_saved v_place v_low v_high v_lowBefore v_highBefore v_least v_greatest v_things v_changing v_overLow v_overHigh v_text v_length v_at v_readKey v_readCount v_keys v_h]) (bc' := [W_Model k b0 o0 v_row v_number v_saved v_place v_low v_high v_lowBefore v_highBefore v_least v_greatest v_things v_changing v_overLow v_overHigh v_text v_length v_at v_readKey v_readCount v_keys v_h]) X hP hD hS (c_Model_isCounter l D k t b0 o0 v_row v_number v_saved v_place v_low v_high v_lowBefore v_highBefore v_least v_greatest v_things v_changing v_overLow v_overHigh v_text v_length v_at v_readKey v_readCount v_keys v_h x2 r2 hg_r2) mv_X8_86 hl [] [0] 8 ⟨rfl, rfl⟩ ⟨Nat.le_of_ble_eq_true rfl, Nat.le_of_ble_eq_true rfl⟩ rfl rfl rfl rfl rfl rfl rfl (Nat.le_of_ble_eq_true rfl) dX8_rest_9 (fun H locs hP hD hS => ?_)
    have hP : va_P D vwCl [W_Model k b0 o0 v_row v_number v_saved v_place v_low v_high v_lowBefore v_highBefore v_least v_greatest v_things v_changing v_overLow v_overHigh v_text v_length v_at v_readKey v_readCount v_keys v_h].flatten _ := hP
    have hD : va_D A [W_Model k b0 o0 v_row v_number v_saved v_place v_low v_high v_lowBefore v_highBefore v_least v_greatest v_things v_changing v_overLow v_overHigh v_text v_length v_at v_readKey v_readCount v_keys v_h].flatten := hD
    refine lv_if_eq (tgt := 24) hx hb dX8_rest_12 (by decide) (fun hc => ?_) (fun hc => ?_)
    · have hf := ofpos hf hc
      refine lv_bipush (v := (-2)) hx hb dX8_rest_24 (by decide) ?_
      have hf := Option.some.inj hf
      subst hf
      exact kiret (v := (-2)) X hP hD hS dX8_rest_26
    · have hf := ofneg hf hc
      refine lv_aload_n hx hb dX8_rest_15 rfl (lv_at hl 0 rfl) ?_
      refine lv_iload_n hx hb dX8_rest_16 rfl (lv_at hl 1 rfl) ?_
      refine lv_iload_n hx hb dX8_rest_17 rfl (lv_at hl 2 rfl) ?_
      obtain ⟨r3, hg_r3, hf⟩ := ofbind hf
      refine kcV (bs := [W_Model k b0 o0 v_row v_number v_saved v_place v_low v_high v_lowBefore v_highBefore v_least v_greatest v_things v_changing v_overLow v_overHigh v_text v_length v_at v_readKey v_readCount v_keys v_h]) (br := []) (bc := [W_Model k b0 o0 v_row v_number v_saved v_place v_low v_high v_lowBefore v_highBefore v_least v_greatest v_things v_changing v_overLow v_overHigh v_text v_length v_at v_readKey v_readCount v_keys v_h]) (bc' := [W_Model k b0 o0 v_row v_number v_saved v_place v_low v_high v_lowBefore v_highBefore v_least v_greatest v_things v_changing v_overLow v_overHigh v_text v_length v_at v_readKey v_readCount v_keys v_h]) X hP hD hS (c_Model_restAt l D k t b0 o0 v_row v_number v_saved v_place v_low v_high v_lowBefore v_highBefore v_least v_greatest v_things v_changing v_overLow v_overHigh v_text v_length v_at v_readKey v_readCount v_keys v_h x1 x2 r3 hg_r3) mv_X8_92 hl [] [0] 8 ⟨rfl, rfl⟩ ⟨Nat.le_of_ble_eq_true rfl, Nat.le_of_ble_eq_true rfl⟩ rfl rfl rfl rfl rfl rfl rfl (Nat.le_of_ble_eq_true rfl) dX8_rest_18 (fun H locs hP hD hS => ?_)
      have hP : va_P D vwCl [W_Model k b0 o0 v_row v_number v_saved v_place v_low v_high v_lowBefore v_highBefore v_least v_greatest v_things v_changing v_overLow v_overHigh v_text v_length v_at v_readKey v_readCount v_keys v_h].flatten _ := hP
      have hD : va_D A [W_Model k b0 o0 v_row v_number v_saved v_place v_low v_high v_lowBefore v_highBefore v_least v_greatest v_things v_changing v_overLow v_overHigh v_text v_length v_at v_readKey v_readCount v_keys v_h].flatten := hD
      refine lv_goto (tgt := 26) hx hb dX8_rest_21 (by decide) ?_
      have hf := Option.some.inj hf
      subst hf
      exact kiret (v := r3) X hP hD hS dX8_rest_26
/-! Model_isMarked: public int isMarked(int, int); -/
abbrev rm_Model_isMarked : Room := ({ frames := 2, cells := 0, slots := 0, locals := 43 } : Room)
def f_Model_isMarked (x1 : Int32) (x2 : Int32) (v_row : FI) : Option (Int32) := (f_Model_isBraid x1).bind (fun r1 => if r1 = 0 then some (-2) else (f_Model_isCounter x2 v_row).bind (fun r2 => if r2 = 0 then some (-2) else (f_Model_marked x1 x2 v_row).bind (fun r3 => if r3 = 0 then some 0 else some 1)))
abbrev Q_Model_isMarked (below : List Frame) (D : va_G) (k : Nat → ClassId) (A : Nat → Prop) (args : Array Value) (s : State) (b0 : Nat → Nat) (o0 : Nat) (v_row : FI) (v_number : FJ) (v_saved : Int32) (v_place : FI) (v_low : FJ) (v_high : FJ) (v_lowBefore : FJ) (v_highBefore : FJ) (v_least : FJ) (v_greatest : FJ) (v_things : Int32) (v_changing : Int32) (v_overLow : FJ) (v_overHigh : FJ) (v_text : FI) (v_length : Int32) (v_at : Int32) (v_readKey : FI) (v_readCount : FJ) (v_keys : Int32) (v_h : Int64) (out : Int32) : State → Prop := MQ below (QW D k A (some (.int out)) [W_Model k b0 o0 v_row v_number v_saved v_place v_low v_high v_lowBefore v_highBefore v_least v_greatest v_things v_changing v_overLow v_overHigh v_text v_length v_at v_readKey v_readCount v_keys v_h].flatten) args s 0 0 A
set_option maxRecDepth 100000 in
set_option maxHeartbeats 1000000 in
theorem c_Model_isMarked (l : Launch) (D : va_G) (k : Nat → ClassId) (t : Nat → Nat) (b0 : Nat → Nat) (o0 : Nat) (v_row : FI) (v_number : FJ) (v_saved : Int32) (v_place : FI) (v_low : FJ) (v_high : FJ) (v_lowBefore : FJ) (v_highBefore : FJ) (v_least : FJ) (v_greatest : FJ) (v_things : Int32) (v_changing : Int32) (v_overLow : FJ) (v_overHigh : FJ) (v_text : FI) (v_length : Int32) (v_at : Int32) (v_readKey : FI) (v_readCount : FJ) (v_keys : Int32) (v_h : Int64) (x1 : Int32) (x2 : Int32) (out : Int32) (hf : f_Model_isMarked x1 x2 v_row = some out) : CT l D k t yX8_isMarked cX8_isMarked 3 (some .int) rm_Model_isMarked [.ref (b0 o0), .int x1, .int x2] [W_Model k b0 o0 v_row v_number v_saved v_place v_low v_high v_lowBefore v_highBefore v_least v_greatest v_things v_changing v_overLow v_overHigh v_text v_length v_at v_readKey v_readCount v_keys v_h].flatten (some (.int out)) [W_Model k b0 o0 v_row v_number v_saved v_place v_low v_high v_lowBefore v_highBefore v_least v_greatest v_things v_changing v_overLow v_overHigh v_text v_length v_at v_readKey v_readCount v_keys v_h].flatten := by
  refine kofW (by decide) (Nat.le_of_ble_eq_true rfl) ?_
  intro p e s m below meth c A ls X hP hD hS hl
  have N : Nat := 0
  have hx := X.1.1
  have hb := X.1.2.1
  have hml := X.1.2.2.1
  have hown := X.1.2.2.2.1
  have hts := X.1.2.2.2.2
  have hl : lv_has ls 3 [(0, .ref (b0 o0)), (1, .int x1), (2, .int x2)] := hl
  rw [f_Model_isMarked] at hf
  refine lv_iload_n hx hb dX8_isMarked_0 rfl (lv_at hl 1 rfl) ?_
  obtain ⟨r1, hg_r1, hf⟩ := ofbind hf
  refine kcS (bs := [W_Model k b0 o0 v_row v_number v_saved v_place v_low v_high v_lowBefore v_highBefore v_least v_greatest v_things v_changing v_overLow v_overHigh v_text v_length v_at v_readKey v_readCount v_keys v_h]) (br := [W_Model k b0 o0 v_row v_number v_saved v_place v_low v_high v_lowBefore v_highBefore v_least v_greatest v_things v_changing v_overLow v_overHigh v_text v_length v_at v_readKey v_readCount v_keys v_h]) (bc := []) (bc' := []) X hP hD hS (c_Model_isBraid l D k t x1 r1 hg_r1) ms_X8_100 hl [0] [] ⟨rfl, rfl⟩ ⟨Nat.le_of_ble_eq_true rfl, Nat.le_of_ble_eq_true rfl⟩ rfl rfl rfl rfl (Nat.le_of_ble_eq_true rfl) dX8_isMarked_1 (fun H locs hP hD hS => ?_)
  have hP : va_P D vwCl [W_Model k b0 o0 v_row v_number v_saved v_place v_low v_high v_lowBefore v_highBefore v_least v_greatest v_things v_changing v_overLow v_overHigh v_text v_length v_at v_readKey v_readCount v_keys v_h].flatten _ := hP
  have hD : va_D A [W_Model k b0 o0 v_row v_number v_saved v_place v_low v_high v_lowBefore v_highBefore v_least v_greatest v_things v_changing v_overLow v_overHigh v_text v_length v_at v_readKey v_readCount v_keys v_h].flatten := hD
  refine lv_if_eq (tgt := 15) hx hb dX8_isMarked_4 (by decide) (fun hc => ?_) (fun hc => ?_)
  · have hf := ofpos hf hc
    refine lv_bipush (v := (-2)) hx hb dX8_isMarked_15 (by decide) ?_
    refine lv_goto (tgt := 34) hx hb dX8_isMarked_17 (by decide) ?_
    have hf := Option.some.inj hf
    subst hf
    exact kiret (v := (-2)) X hP hD hS dX8_isMarked_34
  · have hf := ofneg hf hc
    refine lv_aload_n hx hb dX8_isMarked_7 rfl (lv_at hl 0 rfl) ?_
    refine lv_iload_n hx hb dX8_isMarked_8 rfl (lv_at hl 2 rfl) ?_
    obtain ⟨r2, hg_r2, hf⟩ := ofbind hf
    refine kcV (bs := [W_Model k b0 o0 v_row v_number v_saved v_place v_low v_high v_lowBefore v_highBefore v_least v_greatest v_things v_changing v_overLow v_overHigh v_text v_length v_at v_readKey v_readCount v_keys v_h]) (br := []) (bc := [W_Model k b0 o0 v_row v_number v_saved v_place v_low v_high v_lowBefore v_highBefore v_least v_greatest v_things v_changing v_overLow v_overHigh v_text v_length v_at v_readKey v_readCount v_keys v_h]) (bc' := [W_Model k b0 o0 v_row v_number v_saved v_place v_low v_high v_lowBefore v_highBefore v_least v_greatest v_things v_changing v_overLow v_overHigh v_text v_length v_at v_readKey v_readCount v_keys v_h]) X hP hD hS (c_Model_isCounter l D k t b0 o0 v_row v_number v_saved v_place v_low v_high v_lowBefore v_highBefore v_least v_greatest v_things v_changing v_overLow v_overHigh v_text v_length v_at v_readKey v_readCount v_keys v_h x2 r2 hg_r2) mv_X8_86 hl [] [0] 8 ⟨rfl, rfl⟩ ⟨Nat.le_of_ble_eq_true rfl, Nat.le_of_ble_eq_true rfl⟩ rfl rfl rfl rfl rfl rfl rfl (Nat.le_of_ble_eq_true rfl) dX8_isMarked_9 (fun H locs hP hD hS => ?_)
    have hP : va_P D vwCl [W_Model k b0 o0 v_row v_number v_saved v_place v_low v_high v_lowBefore v_highBefore v_least v_greatest v_things v_changing v_overLow v_overHigh v_text v_length v_at v_readKey v_readCount v_keys v_h].flatten _ := hP
    have hD : va_D A [W_Model k b0 o0 v_row v_number v_saved v_place v_low v_high v_lowBefore v_highBefore v_least v_greatest v_things v_changing v_overLow v_overHigh v_text v_length v_at v_readKey v_readCount v_keys v_h].flatten := hD
    refine lv_if_ne (tgt := 20) hx hb dX8_isMarked_12 (by decide) (fun hc => ?_) (fun hc => ?_)
    · have hf := ofneg hf hc
      refine lv_aload_n hx hb dX8_isMarked_20 rfl (lv_at hl 0 rfl) ?_
      refine lv_iload_n hx hb dX8_isMarked_21 rfl (lv_at hl 1 rfl) ?_
      refine lv_iload_n hx hb dX8_isMarked_22 rfl (lv_at hl 2 rfl) ?_
      obtain ⟨r3, hg_r3, hf⟩ := ofbind hf
      refine kcV (bs := [W_Model k b0 o0 v_row v_number v_saved v_place v_low v_high v_lowBefore v_highBefore v_least v_greatest v_things v_changing v_overLow v_overHigh v_text v_length v_at v_readKey v_readCount v_keys v_h]) (br := []) (bc := [W_Model k b0 o0 v_row v_number v_saved v_place v_low v_high v_lowBefore v_highBefore v_least v_greatest v_things v_changing v_overLow v_overHigh v_text v_length v_at v_readKey v_readCount v_keys v_h]) (bc' := [W_Model k b0 o0 v_row v_number v_saved v_place v_low v_high v_lowBefore v_highBefore v_least v_greatest v_things v_changing v_overLow v_overHigh v_text v_length v_at v_readKey v_readCount v_keys v_h]) X hP hD hS (c_Model_marked l D k t b0 o0 v_row v_number v_saved v_place v_low v_high v_lowBefore v_highBefore v_least v_greatest v_things v_changing v_overLow v_overHigh v_text v_length v_at v_readKey v_readCount v_keys v_h x1 x2 r3 hg_r3) mv_X8_120 hl [] [0] 8 ⟨rfl, rfl⟩ ⟨Nat.le_of_ble_eq_true rfl, Nat.le_of_ble_eq_true rfl⟩ rfl rfl rfl rfl rfl rfl rfl (Nat.le_of_ble_eq_true rfl) dX8_isMarked_23 (fun H locs hP hD hS => ?_)
      have hP : va_P D vwCl [W_Model k b0 o0 v_row v_number v_saved v_place v_low v_high v_lowBefore v_highBefore v_least v_greatest v_things v_changing v_overLow v_overHigh v_text v_length v_at v_readKey v_readCount v_keys v_h].flatten _ := hP
      have hD : va_D A [W_Model k b0 o0 v_row v_number v_saved v_place v_low v_high v_lowBefore v_highBefore v_least v_greatest v_things v_changing v_overLow v_overHigh v_text v_length v_at v_readKey v_readCount v_keys v_h].flatten := hD
      refine lv_if_eq (tgt := 33) hx hb dX8_isMarked_26 (by decide) (fun hc => ?_) (fun hc => ?_)
      · have hf := ofpos hf hc
        refine lv_iconst (v := 0) hx hb dX8_isMarked_33 (by decide) ?_
        have hf := Option.some.inj hf
        subst hf
        exact kiret (v := 0) X hP hD hS dX8_isMarked_34
      · have hf := ofneg hf hc
        refine lv_iconst (v := 1) hx hb dX8_isMarked_29 (by decide) ?_
        refine lv_goto (tgt := 34) hx hb dX8_isMarked_30 (by decide) ?_
        have hf := Option.some.inj hf
        subst hf
        exact kiret (v := 1) X hP hD hS dX8_isMarked_34
    · have hf := ofpos hf hc
      refine lv_bipush (v := (-2)) hx hb dX8_isMarked_15 (by decide) ?_
      refine lv_goto (tgt := 34) hx hb dX8_isMarked_17 (by decide) ?_
      have hf := Option.some.inj hf
      subst hf
      exact kiret (v := (-2)) X hP hD hS dX8_isMarked_34
/-! Model_above: public long above(int, int); -/
abbrev rm_Model_above : Room := ({ frames := 2, cells := 0, slots := 0, locals := 42 } : Room)
def f_Model_above (x1 : Int32) (x2 : Int32) (v_row : FI) (v_number : FJ) : Option (Int64) := (f_Model_isBraid x1).bind (fun r1 => if r1 = 0 then some (-2) else if ck 3 1002 = true then (f_Model_in x2 0 ((v_row (3 : Int32).toNatClampNeg) - 1)).bind (fun r2 => if r2 = 0 then some (-2) else (f_Model_aboveAt x1 x2 v_number).bind (fun r3 => some r3)) else none)
abbrev Q_Model_above (below : List Frame) (D : va_G) (k : Nat → ClassId) (A : Nat → Prop) (args : Array Value) (s : State) (b0 : Nat → Nat) (o0 : Nat) (v_row : FI) (v_number : FJ) (v_saved : Int32) (v_place : FI) (v_low : FJ) (v_high : FJ) (v_lowBefore : FJ) (v_highBefore : FJ) (v_least : FJ) (v_greatest : FJ) (v_things : Int32) (v_changing : Int32) (v_overLow : FJ) (v_overHigh : FJ) (v_text : FI) (v_length : Int32) (v_at : Int32) (v_readKey : FI) (v_readCount : FJ) (v_keys : Int32) (v_h : Int64) (out : Int64) : State → Prop := MQ below (QW D k A (some (.long out)) [W_Model k b0 o0 v_row v_number v_saved v_place v_low v_high v_lowBefore v_highBefore v_least v_greatest v_things v_changing v_overLow v_overHigh v_text v_length v_at v_readKey v_readCount v_keys v_h].flatten) args s 0 0 A
set_option maxRecDepth 100000 in
set_option maxHeartbeats 1000000 in
theorem c_Model_above (l : Launch) (D : va_G) (k : Nat → ClassId) (t : Nat → Nat) (b0 : Nat → Nat) (o0 : Nat) (v_row : FI) (v_number : FJ) (v_saved : Int32) (v_place : FI) (v_low : FJ) (v_high : FJ) (v_lowBefore : FJ) (v_highBefore : FJ) (v_least : FJ) (v_greatest : FJ) (v_things : Int32) (v_changing : Int32) (v_overLow : FJ) (v_overHigh : FJ) (v_text : FI) (v_length : Int32) (v_at : Int32) (v_readKey : FI) (v_readCount : FJ) (v_keys : Int32) (v_h : Int64) (x1 : Int32) (x2 : Int32) (out : Int64) (hf : f_Model_above x1 x2 v_row v_number = some out) : CT l D k t yX8_above cX8_above 3 (some .long) rm_Model_above [.ref (b0 o0), .int x1, .int x2] [W_Model k b0 o0 v_row v_number v_saved v_place v_low v_high v_lowBefore v_highBefore v_least v_greatest v_things v_changing v_overLow v_overHigh v_text v_length v_at v_readKey v_readCount v_keys v_h].flatten (some (.long out)) [W_Model k b0 o0 v_row v_number v_saved v_place v_low v_high v_lowBefore v_highBefore v_least v_greatest v_things v_changing v_overLow v_overHigh v_text v_length v_at v_readKey v_readCount v_keys v_h].flatten := by
  refine kofW (by decide) (Nat.le_of_ble_eq_true rfl) ?_
  intro p e s m below meth c A ls X hP hD hS hl
  have N : Nat := 0
  have hx := X.1.1
  have hb := X.1.2.1
  have hml := X.1.2.2.1
  have hown := X.1.2.2.2.1
  have hts := X.1.2.2.2.2
  have hl : lv_has ls 3 [(0, .ref (b0 o0)), (1, .int x1), (2, .int x2)] := hl
  rw [f_Model_above] at hf
  refine lv_iload_n hx hb dX8_above_0 rfl (lv_at hl 1 rfl) ?_
  obtain ⟨r1, hg_r1, hf⟩ := ofbind hf
  refine kcS (bs := [W_Model k b0 o0 v_row v_number v_saved v_place v_low v_high v_lowBefore v_highBefore v_least v_greatest v_things v_changing v_overLow v_overHigh v_text v_length v_at v_readKey v_readCount v_keys v_h]) (br := [W_Model k b0 o0 v_row v_number v_saved v_place v_low v_high v_lowBefore v_highBefore v_least v_greatest v_things v_changing v_overLow v_overHigh v_text v_length v_at v_readKey v_readCount v_keys v_h]) (bc := []) (bc' := []) X hP hD hS (c_Model_isBraid l D k t x1 r1 hg_r1) ms_X8_100 hl [0] [] ⟨rfl, rfl⟩ ⟨Nat.le_of_ble_eq_true rfl, Nat.le_of_ble_eq_true rfl⟩ rfl rfl rfl rfl (Nat.le_of_ble_eq_true rfl) dX8_above_1 (fun H locs hP hD hS => ?_)
  have hP : va_P D vwCl [W_Model k b0 o0 v_row v_number v_saved v_place v_low v_high v_lowBefore v_highBefore v_least v_greatest v_things v_changing v_overLow v_overHigh v_text v_length v_at v_readKey v_readCount v_keys v_h].flatten _ := hP
  have hD : va_D A [W_Model k b0 o0 v_row v_number v_saved v_place v_low v_high v_lowBefore v_highBefore v_least v_greatest v_things v_changing v_overLow v_overHigh v_text v_length v_at v_readKey v_readCount v_keys v_h].flatten := hD
  refine lv_if_eq (tgt := 32) hx hb dX8_above_4 (by decide) (fun hc => ?_) (fun hc => ?_)
  · have hf := ofpos hf hc
    refine lv_ldc2 (v := (-2)) hx hb hown (hts _ kc_X8_103) dX8_above_32 ?_
    have hf := Option.some.inj hf
    subst hf
    exact klret (v := (-2)) X hP hD hS dX8_above_35
  · have hf := ofneg hf hc
    refine lv_iload_n hx hb dX8_above_7 rfl (lv_at hl 2 rfl) ?_
    refine lv_iconst (v := 0) hx hb dX8_above_8 (by decide) ?_
    refine lv_aload_n hx hb dX8_above_9 rfl (lv_at hl 0 rfl) ?_
    refine kget (v := .ref (b0 (o0+1))) X hP ff_X8_7 0 rfl rfl dX8_above_10 ?_
    refine lv_iconst (v := 3) hx hb dX8_above_13 (by decide) ?_
    obtain ⟨hc, hf⟩ := ofck hf
    refine kiald (f := v_row) (n := 1002) X hP 1 rfl hc dX8_above_14 ?_
    refine lv_iconst (v := 1) hx hb dX8_above_15 (by decide) ?_
    refine lv_isub hx hb dX8_above_16 ?_
    obtain ⟨r2, hg_r2, hf⟩ := ofbind hf
    refine kcS (bs := [W_Model k b0 o0 v_row v_number v_saved v_place v_low v_high v_lowBefore v_highBefore v_least v_greatest v_things v_changing v_overLow v_overHigh v_text v_length v_at v_readKey v_readCount v_keys v_h]) (br := [W_Model k b0 o0 v_row v_number v_saved v_place v_low v_high v_lowBefore v_highBefore v_least v_greatest v_things v_changing v_overLow v_overHigh v_text v_length v_at v_readKey v_readCount v_keys v_h]) (bc := []) (bc' := []) X hP hD hS (c_Model_in l D k t x2 0 ((v_row (3 : Int32).toNatClampNeg) - 1) r2 hg_r2) ms_X8_61 hl [0] [] ⟨rfl, rfl⟩ ⟨Nat.le_of_ble_eq_true rfl, Nat.le_of_ble_eq_true rfl⟩ rfl rfl rfl rfl (Nat.le_of_ble_eq_true rfl) dX8_above_17 (fun H locs hP hD hS => ?_)
    have hP : va_P D vwCl [W_Model k b0 o0 v_row v_number v_saved v_place v_low v_high v_lowBefore v_highBefore v_least v_greatest v_things v_changing v_overLow v_overHigh v_text v_length v_at v_readKey v_readCount v_keys v_h].flatten _ := hP
    have hD : va_D A [W_Model k b0 o0 v_row v_number v_saved v_place v_low v_high v_lowBefore v_highBefore v_least v_greatest v_things v_changing v_overLow v_overHigh v_text v_length v_at v_readKey v_readCount v_keys v_h].flatten := hD
    refine lv_if_eq (tgt := 32) hx hb dX8_above_20 (by decide) (fun hc => ?_) (fun hc => ?_)
    · have hf := ofpos hf hc
      refine lv_ldc2 (v := (-2)) hx hb hown (hts _ kc_X8_103) dX8_above_32 ?_
      have hf := Option.some.inj hf
      subst hf
      exact klret (v := (-2)) X hP hD hS dX8_above_35
    · have hf := ofneg hf hc
      refine lv_aload_n hx hb dX8_above_23 rfl (lv_at hl 0 rfl) ?_
      refine lv_iload_n hx hb dX8_above_24 rfl (lv_at hl 1 rfl) ?_
      refine lv_iload_n hx hb dX8_above_25 rfl (lv_at hl 2 rfl) ?_
      obtain ⟨r3, hg_r3, hf⟩ := ofbind hf
      refine kcV (bs := [W_Model k b0 o0 v_row v_number v_saved v_place v_low v_high v_lowBefore v_highBefore v_least v_greatest v_things v_changing v_overLow v_overHigh v_text v_length v_at v_readKey v_readCount v_keys v_h]) (br := []) (bc := [W_Model k b0 o0 v_row v_number v_saved v_place v_low v_high v_lowBefore v_highBefore v_least v_greatest v_things v_changing v_overLow v_overHigh v_text v_length v_at v_readKey v_readCount v_keys v_h]) (bc' := [W_Model k b0 o0 v_row v_number v_saved v_place v_low v_high v_lowBefore v_highBefore v_least v_greatest v_things v_changing v_overLow v_overHigh v_text v_length v_at v_readKey v_readCount v_keys v_h]) X hP hD hS (c_Model_aboveAt l D k t b0 o0 v_row v_number v_saved v_place v_low v_high v_lowBefore v_highBefore v_least v_greatest v_things v_changing v_overLow v_overHigh v_text v_length v_at v_readKey v_readCount v_keys v_h x1 x2 r3 hg_r3) mv_X8_124 hl [] [0] 8 ⟨rfl, rfl⟩ ⟨Nat.le_of_ble_eq_true rfl, Nat.le_of_ble_eq_true rfl⟩ rfl rfl rfl rfl rfl rfl rfl (Nat.le_of_ble_eq_true rfl) dX8_above_26 (fun H locs hP hD hS => ?_)
      have hP : va_P D vwCl [W_Model k b0 o0 v_row v_number v_saved v_place v_low v_high v_lowBefore v_highBefore v_least v_greatest v_things v_changing v_overLow v_overHigh v_text v_length v_at v_readKey v_readCount v_keys v_h].flatten _ := hP
      have hD : va_D A [W_Model k b0 o0 v_row v_number v_saved v_place v_low v_high v_lowBefore v_highBefore v_least v_greatest v_things v_changing v_overLow v_overHigh v_text v_length v_at v_readKey v_readCount v_keys v_h].flatten := hD
      refine lv_goto (tgt := 35) hx hb dX8_above_29 (by decide) ?_
      have hf := Option.some.inj hf
      subst hf
      exact klret (v := r3) X hP hD hS dX8_above_35
/-! Model_begins: private void begins(long); -/
abbrev rm_Model_begins : Room := ({ frames := 0, cells := 0, slots := 0, locals := 0 } : Room)
def f_Model_begins_J56 (j21 : Int32) (j22 : Int32) (t23 : Int32) (c25 : FJ) (v_greatest : FJ) (B29 : Int32 → FJ → Option (FJ × FJ)) : Option (FJ × FJ) := if t23 = 0 then if ck j21 24 = true then if ck j21 24 = true then B29 (j22 + 1) (vp_updL c25 j21.toNatClampNeg (c25 j21.toNatClampNeg)) else none else none else if ck j21 24 = true then if (c25 j21.toNatClampNeg) = (-1) then if ck j22 24 = true then if ck j21 24 = true then B29 (j22 + 1) (vp_updL c25 j21.toNatClampNeg (v_greatest j22.toNatClampNeg)) else none else none else if ck j22 24 = true then if ck j21 24 = true then if (c25 j21.toNatClampNeg) ≤ (v_greatest j22.toNatClampNeg) then if ck j21 24 = true then if ck j21 24 = true then B29 (j22 + 1) (vp_updL c25 j21.toNatClampNeg (c25 j21.toNatClampNeg)) else none else none else if ck j22 24 = true then if ck j21 24 = true then B29 (j22 + 1) (vp_updL c25 j21.toNatClampNeg (v_greatest j22.toNatClampNeg)) else none else none else none else none else none
def f_Model_begins_L29 (i16 : Int32) (v_place : FI) (v_greatest : FJ) (K121 : Int32 → FJ → Option (FJ × FJ)) : Nat → Int32 → FJ → Option (FJ × FJ)
  | 0, _, _ => none
  | n + 1, i17, c19 => if 24 ≤ i17 then K121 i17 c19 else if ck i16 24 = true then if (((v_place i16.toNatClampNeg) >>> (i17 &&& 31)) &&& 1) = 1 then f_Model_begins_J56 i16 i17 1 c19 v_greatest (f_Model_begins_L29 i16 v_place v_greatest K121 n) else f_Model_begins_J56 i16 i17 0 c19 v_greatest (f_Model_begins_L29 i16 v_place v_greatest K121 n) else none
def f_Model_begins_L2 (N : Nat) (i8 : Int64) (v_place : FI) (v_greatest : FJ) (v_things : Int32) (K127 : Int32 → FJ → FJ → Option (FJ × FJ)) : Nat → Int32 → FJ → FJ → Option (FJ × FJ)
  | 0, _, _, _ => none
  | n + 1, i9, c10, c11 => if v_things ≤ i9 then K127 i9 c10 c11 else if ck i9 24 = true then if ck i9 24 = true then f_Model_begins_L29 i9 v_place v_greatest (fun i30 c31 => f_Model_begins_L2 N i8 v_place v_greatest v_things K127 n (i9 + 1) (vp_updL c10 i9.toNatClampNeg i8) c31) N 0 (vp_updL c11 i9.toNatClampNeg (-1)) else none else none
def f_Model_begins (N : Nat) (x1 : Int64) (v_place : FI) (v_low : FJ) (v_high : FJ) (v_greatest : FJ) (v_things : Int32) : Option (FJ × FJ) := f_Model_begins_L2 N x1 v_place v_greatest v_things (fun i32 c33 c34 => some (c33, c34)) N 0 v_low v_high
abbrev Q_Model_begins (below : List Frame) (D : va_G) (k : Nat → ClassId) (A : Nat → Prop) (args : Array Value) (s : State) (b0 : Nat → Nat) (o0 : Nat) (v_row : FI) (v_number : FJ) (v_saved : Int32) (v_place : FI) (v_low : FJ) (v_high : FJ) (v_lowBefore : FJ) (v_highBefore : FJ) (v_least : FJ) (v_greatest : FJ) (v_things : Int32) (v_changing : Int32) (v_overLow : FJ) (v_overHigh : FJ) (v_text : FI) (v_length : Int32) (v_at : Int32) (v_readKey : FI) (v_readCount : FJ) (v_keys : Int32) (v_h : Int64) (out : FJ × FJ) : State → Prop := MQ below (QW D k A none [W_Model k b0 o0 v_row v_number v_saved v_place out.1 out.2 v_lowBefore v_highBefore v_least v_greatest v_things v_changing v_overLow v_overHigh v_text v_length v_at v_readKey v_readCount v_keys v_h].flatten) args s 0 0 A
set_option maxRecDepth 100000 in
set_option maxHeartbeats 1000000 in
theorem w_Model_begins_J56 {p : Program} {l : Launch} {e : Env} {s : State} {m : MethodId} {below : List Frame} {meth : Method} {c : Code} {args : Array Value} {A : Nat → Prop} {D : va_G} {k : Nat → ClassId} {t : Nat → Nat} (X : BX l D k t p s m args meth c cX8_begins 6 RX8 none A) (b0 : Nat → Nat) (o0 : Nat) (v_row : FI) (v_number : FJ) (v_saved : Int32) (v_place : FI) (v_low : FJ) (v_high : FJ) (v_lowBefore : FJ) (v_highBefore : FJ) (v_least : FJ) (v_greatest : FJ) (v_things : Int32) (v_changing : Int32) (v_overLow : FJ) (v_overHigh : FJ) (v_text : FI) (v_length : Int32) (v_at : Int32) (v_readKey : FI) (v_readCount : FJ) (v_keys : Int32) (v_h : Int64) (N : Nat) (j20 : Int64) (j21 : Int32) (j22 : Int32) (t23 : Int32) (c24 : FJ) (c25 : FJ) (out : FJ × FJ) (B29 : Int32 → FJ → Option (FJ × FJ)) (hB29 : ∀ (i17' : Int32) (c19' : FJ) (H : Heap) (locs : List Loc) (ls : Array Slot), va_P D vwCl [W_Model k b0 o0 v_row v_number v_saved v_place c24 c19' v_lowBefore v_highBefore v_least v_greatest v_things v_changing v_overLow v_overHigh v_text v_length v_at v_readKey v_readCount v_keys v_h].flatten H → va_D A [W_Model k b0 o0 v_row v_number v_saved v_place c24 c19' v_lowBefore v_highBefore v_least v_greatest v_things v_changing v_overLow v_overHigh v_text v_length v_at v_readKey v_readCount v_keys v_h].flatten → va_S A s.heap H locs → lv_has ls 6 [(0, .ref (b0 o0)), (1, .long j20), (3, .int j21), (4, .int i17')] → B29 i17' c19' = some out → W p l e rm_Model_begins s m args below meth c H locs 0 0 (Q_Model_begins below D k A args s b0 o0 v_row v_number v_saved v_place v_low v_high v_lowBefore v_highBefore v_least v_greatest v_things v_changing v_overLow v_overHigh v_text v_length v_at v_readKey v_readCount v_keys v_h out) (F0 m 29 ls [])) : ∀ (H : Heap) (locs : List Loc) (ls : Array Slot), va_P D vwCl [W_Model k b0 o0 v_row v_number v_saved v_place c24 c25 v_lowBefore v_highBefore v_least v_greatest v_things v_changing v_overLow v_overHigh v_text v_length v_at v_readKey v_readCount v_keys v_h].flatten H → va_D A [W_Model k b0 o0 v_row v_number v_saved v_place c24 c25 v_lowBefore v_highBefore v_least v_greatest v_things v_changing v_overLow v_overHigh v_text v_length v_at v_readKey v_readCount v_keys v_h].flatten → va_S A s.heap H locs → lv_has ls 6 [(0, .ref (b0 o0)), (1, .long j20), (3, .int j21), (4, .int j22)] → f_Model_begins_J56 j21 j22 t23 c25 v_greatest B29 = some out → W p l e rm_Model_begins s m args below meth c H locs 0 0 (Q_Model_begins below D k A args s b0 o0 v_row v_number v_saved v_place v_low v_high v_lowBefore v_highBefore v_least v_greatest v_things v_changing v_overLow v_overHigh v_text v_length v_at v_readKey v_readCount v_keys v_h out) (F0 m 56 ls [.int t23]) := by
  have hx := X.1.1
  have hb := X.1.2.1
  have hml := X.1.2.2.1
  have hown := X.1.2.2.2.1
  have hts := X.1.2.2.2.2
  intro H locs ls hP hD hS hl hf
  rw [f_Model_begins_J56] at hf
  refine lv_istore (lv' := [(5, .int t23), (0, .ref (b0 o0)), (1, .long j20), (3, .int j21), (4, .int j22)]) hx hb dX8_begins_56 hl (by decide) rfl (fun ls hl => ?_)
  refine lv_aload_n hx hb dX8_begins_58 rfl (lv_at hl 1 rfl) ?_
  refine kget (v := .ref (b0 (o0+5))) X hP ff_X8_23 0 rfl rfl dX8_begins_59 ?_
  refine lv_iload_n hx hb dX8_begins_62 rfl (lv_at hl 3 rfl) ?_
  refine lv_iload hx hb dX8_begins_63 (lv_at hl 0 rfl) ?_
  refine lv_if_eq (tgt := 108) hx hb dX8_begins_65 (by decide) (fun hc => ?_) (fun hc => ?_)
  · have hf := ofpos hf hc
    refine lv_aload_n hx hb dX8_begins_108 rfl (lv_at hl 1 rfl) ?_
    refine kget (v := .ref (b0 (o0+5))) X hP ff_X8_23 0 rfl rfl dX8_begins_109 ?_
    refine lv_iload_n hx hb dX8_begins_112 rfl (lv_at hl 3 rfl) ?_
    obtain ⟨hc, hf⟩ := ofck hf
    refine klald (f := c25) (n := 24) X hP 5 rfl hc dX8_begins_113 ?_
    obtain ⟨hc, hf⟩ := ofck hf
    generalize hc26 : vp_updL c25 j21.toNatClampNeg (c25 j21.toNatClampNeg) = c26 at hf
    refine klast2 (f := c25) (n := 24) (g := c26) X hP hD hS 5 rfl hc hc26 dX8_begins_114 (fun H locs hP hD hS => ?_)
    have hP : va_P D vwCl [W_Model k b0 o0 v_row v_number v_saved v_place c24 c26 v_lowBefore v_highBefore v_least v_greatest v_things v_changing v_overLow v_overHigh v_text v_length v_at v_readKey v_readCount v_keys v_h].flatten _ := hP
    have hD : va_D A [W_Model k b0 o0 v_row v_number v_saved v_place c24 c26 v_lowBefore v_highBefore v_least v_greatest v_things v_changing v_overLow v_overHigh v_text v_length v_at v_readKey v_readCount v_keys v_h].flatten := hD
    refine lv_iinc (v := j22 + 1) (lv' := [(4, .int (j22 + 1)), (5, .int t23), (0, .ref (b0 o0)), (1, .long j20), (3, .int j21)]) hx hb dX8_begins_115 hl (k := 4) rfl rfl (by decide) rfl (fun ls hl => ?_)
    refine lv_goto (tgt := 29) hx hb dX8_begins_118 (by decide) ?_
    exact hB29 (j22 + 1) c26 _ _ _ hP hD hS (lv_sub hl [2, 3, 4, 0] rfl) hf
  · have hf := ofneg hf hc
    refine lv_aload_n hx hb dX8_begins_68 rfl (lv_at hl 1 rfl) ?_
    refine kget (v := .ref (b0 (o0+5))) X hP ff_X8_23 0 rfl rfl dX8_begins_69 ?_
    refine lv_iload_n hx hb dX8_begins_72 rfl (lv_at hl 3 rfl) ?_
    obtain ⟨hc, hf⟩ := ofck hf
    refine klald (f := c25) (n := 24) X hP 5 rfl hc dX8_begins_73 ?_
    refine lv_ldc2 (v := (-1)) hx hb hown (hts _ kc_X8_130) dX8_begins_74 ?_
    refine W.lcmp hx hb dX8_begins_77 ?_
    refine lv_if_eq (tgt := 98) hx hb dX8_begins_78 (by decide) (fun hc => ?_) (fun hc => ?_)
    · have hc := lgq.mp hc
      have hf := ofpos hf hc
      refine lv_aload_n hx hb dX8_begins_98 rfl (lv_at hl 1 rfl) ?_
      refine kget (v := .ref (b0 (o0+9))) X hP ff_X8_35 0 rfl rfl dX8_begins_99 ?_
      refine lv_iload hx hb dX8_begins_102 (lv_at hl 4 rfl) ?_
      obtain ⟨hc, hf⟩ := ofck hf
      refine klald (f := v_greatest) (n := 24) X hP 9 rfl hc dX8_begins_104 ?_
      refine lv_goto (tgt := 114) hx hb dX8_begins_105 (by decide) ?_
      obtain ⟨hc, hf⟩ := ofck hf
      generalize hc27 : vp_updL c25 j21.toNatClampNeg (v_greatest j22.toNatClampNeg) = c27 at hf
      refine klast2 (f := c25) (n := 24) (g := c27) X hP hD hS 5 rfl hc hc27 dX8_begins_114 (fun H locs hP hD hS => ?_)
      have hP : va_P D vwCl [W_Model k b0 o0 v_row v_number v_saved v_place c24 c27 v_lowBefore v_highBefore v_least v_greatest v_things v_changing v_overLow v_overHigh v_text v_length v_at v_readKey v_readCount v_keys v_h].flatten _ := hP
      have hD : va_D A [W_Model k b0 o0 v_row v_number v_saved v_place c24 c27 v_lowBefore v_highBefore v_least v_greatest v_things v_changing v_overLow v_overHigh v_text v_length v_at v_readKey v_readCount v_keys v_h].flatten := hD
      refine lv_iinc (v := j22 + 1) (lv' := [(4, .int (j22 + 1)), (5, .int t23), (0, .ref (b0 o0)), (1, .long j20), (3, .int j21)]) hx hb dX8_begins_115 hl (k := 4) rfl rfl (by decide) rfl (fun ls hl => ?_)
      refine lv_goto (tgt := 29) hx hb dX8_begins_118 (by decide) ?_
      exact hB29 (j22 + 1) c27 _ _ _ hP hD hS (lv_sub hl [2, 3, 4, 0] rfl) hf
    · have hc := fun z => hc (lgq.mpr z)
      have hf := ofneg hf hc
      refine lv_aload_n hx hb dX8_begins_81 rfl (lv_at hl 1 rfl) ?_
      refine kget (v := .ref (b0 (o0+9))) X hP ff_X8_35 0 rfl rfl dX8_begins_82 ?_
      refine lv_iload hx hb dX8_begins_85 (lv_at hl 4 rfl) ?_
      obtain ⟨hc, hf⟩ := ofck hf
      refine klald (f := v_greatest) (n := 24) X hP 9 rfl hc dX8_begins_87 ?_
      refine lv_aload_n hx hb dX8_begins_88 rfl (lv_at hl 1 rfl) ?_
      refine kget (v := .ref (b0 (o0+5))) X hP ff_X8_23 0 rfl rfl dX8_begins_89 ?_
      refine lv_iload_n hx hb dX8_begins_92 rfl (lv_at hl 3 rfl) ?_
      obtain ⟨hc, hf⟩ := ofck hf
      refine klald (f := c25) (n := 24) X hP 5 rfl hc dX8_begins_93 ?_
      refine W.lcmp hx hb dX8_begins_94 ?_
      refine lv_if_ge (tgt := 108) hx hb dX8_begins_95 (by decide) (fun hc => ?_) (fun hc => ?_)
      · have hc := lge.mp hc
        have hf := ofpos hf hc
        refine lv_aload_n hx hb dX8_begins_108 rfl (lv_at hl 1 rfl) ?_
        refine kget (v := .ref (b0 (o0+5))) X hP ff_X8_23 0 rfl rfl dX8_begins_109 ?_
        refine lv_iload_n hx hb dX8_begins_112 rfl (lv_at hl 3 rfl) ?_
        obtain ⟨hc, hf⟩ := ofck hf
        refine klald (f := c25) (n := 24) X hP 5 rfl hc dX8_begins_113 ?_
        obtain ⟨hc, hf⟩ := ofck hf
        generalize hc28 : vp_updL c25 j21.toNatClampNeg (c25 j21.toNatClampNeg) = c28 at hf
        refine klast2 (f := c25) (n := 24) (g := c28) X hP hD hS 5 rfl hc hc28 dX8_begins_114 (fun H locs hP hD hS => ?_)
        have hP : va_P D vwCl [W_Model k b0 o0 v_row v_number v_saved v_place c24 c28 v_lowBefore v_highBefore v_least v_greatest v_things v_changing v_overLow v_overHigh v_text v_length v_at v_readKey v_readCount v_keys v_h].flatten _ := hP
        have hD : va_D A [W_Model k b0 o0 v_row v_number v_saved v_place c24 c28 v_lowBefore v_highBefore v_least v_greatest v_things v_changing v_overLow v_overHigh v_text v_length v_at v_readKey v_readCount v_keys v_h].flatten := hD
        refine lv_iinc (v := j22 + 1) (lv' := [(4, .int (j22 + 1)), (5, .int t23), (0, .ref (b0 o0)), (1, .long j20), (3, .int j21)]) hx hb dX8_begins_115 hl (k := 4) rfl rfl (by decide) rfl (fun ls hl => ?_)
        refine lv_goto (tgt := 29) hx hb dX8_begins_118 (by decide) ?_
        exact hB29 (j22 + 1) c28 _ _ _ hP hD hS (lv_sub hl [2, 3, 4, 0] rfl) hf
      · have hc := fun z => hc (lge.mpr z)
        have hf := ofneg hf hc
        refine lv_aload_n hx hb dX8_begins_98 rfl (lv_at hl 1 rfl) ?_
        refine kget (v := .ref (b0 (o0+9))) X hP ff_X8_35 0 rfl rfl dX8_begins_99 ?_
        refine lv_iload hx hb dX8_begins_102 (lv_at hl 4 rfl) ?_
        obtain ⟨hc, hf⟩ := ofck hf
        refine klald (f := v_greatest) (n := 24) X hP 9 rfl hc dX8_begins_104 ?_
        refine lv_goto (tgt := 114) hx hb dX8_begins_105 (by decide) ?_
        obtain ⟨hc, hf⟩ := ofck hf
        generalize hc29 : vp_updL c25 j21.toNatClampNeg (v_greatest j22.toNatClampNeg) = c29 at hf
        refine klast2 (f := c25) (n := 24) (g := c29) X hP hD hS 5 rfl hc hc29 dX8_begins_114 (fun H locs hP hD hS => ?_)
        have hP : va_P D vwCl [W_Model k b0 o0 v_row v_number v_saved v_place c24 c29 v_lowBefore v_highBefore v_least v_greatest v_things v_changing v_overLow v_overHigh v_text v_length v_at v_readKey v_readCount v_keys v_h].flatten _ := hP
        have hD : va_D A [W_Model k b0 o0 v_row v_number v_saved v_place c24 c29 v_lowBefore v_highBefore v_least v_greatest v_things v_changing v_overLow v_overHigh v_text v_length v_at v_readKey v_readCount v_keys v_h].flatten := hD
        refine lv_iinc (v := j22 + 1) (lv' := [(4, .int (j22 + 1)), (5, .int t23), (0, .ref (b0 o0)), (1, .long j20), (3, .int j21)]) hx hb dX8_begins_115 hl (k := 4) rfl rfl (by decide) rfl (fun ls hl => ?_)
        refine lv_goto (tgt := 29) hx hb dX8_begins_118 (by decide) ?_
        exact hB29 (j22 + 1) c29 _ _ _ hP hD hS (lv_sub hl [2, 3, 4, 0] rfl) hf
set_option maxRecDepth 100000 in
set_option maxHeartbeats 1000000 in
theorem w_Model_begins_L29 {p : Program} {l : Launch} {e : Env} {s : State} {m : MethodId} {below : List Frame} {meth : Method} {c : Code} {args : Array Value} {A : Nat → Prop} {D : va_G} {k : Nat → ClassId} {t : Nat → Nat} (X : BX l D k t p s m args meth c cX8_begins 6 RX8 none A) (b0 : Nat → Nat) (o0 : Nat) (v_row : FI) (v_number : FJ) (v_saved : Int32) (v_place : FI) (v_low : FJ) (v_high : FJ) (v_lowBefore : FJ) (v_highBefore : FJ) (v_least : FJ) (v_greatest : FJ) (v_things : Int32) (v_changing : Int32) (v_overLow : FJ) (v_overHigh : FJ) (v_text : FI) (v_length : Int32) (v_at : Int32) (v_readKey : FI) (v_readCount : FJ) (v_keys : Int32) (v_h : Int64) (N : Nat) (i15 : Int64) (i16 : Int32) (c18 : FJ) (out : FJ × FJ) (K121 : Int32 → FJ → Option (FJ × FJ)) (hK121 : ∀ (i17' : Int32) (c19' : FJ) (H : Heap) (locs : List Loc) (ls : Array Slot), va_P D vwCl [W_Model k b0 o0 v_row v_number v_saved v_place c18 c19' v_lowBefore v_highBefore v_least v_greatest v_things v_changing v_overLow v_overHigh v_text v_length v_at v_readKey v_readCount v_keys v_h].flatten H → va_D A [W_Model k b0 o0 v_row v_number v_saved v_place c18 c19' v_lowBefore v_highBefore v_least v_greatest v_things v_changing v_overLow v_overHigh v_text v_length v_at v_readKey v_readCount v_keys v_h].flatten → va_S A s.heap H locs → lv_has ls 6 [(0, .ref (b0 o0)), (1, .long i15), (3, .int i16)] → K121 i17' c19' = some out → W p l e rm_Model_begins s m args below meth c H locs 0 0 (Q_Model_begins below D k A args s b0 o0 v_row v_number v_saved v_place v_low v_high v_lowBefore v_highBefore v_least v_greatest v_things v_changing v_overLow v_overHigh v_text v_length v_at v_readKey v_readCount v_keys v_h out) (F0 m 121 ls [])) : ∀ (n : Nat) (i17 : Int32) (c19 : FJ) (H : Heap) (locs : List Loc) (ls : Array Slot), va_P D vwCl [W_Model k b0 o0 v_row v_number v_saved v_place c18 c19 v_lowBefore v_highBefore v_least v_greatest v_things v_changing v_overLow v_overHigh v_text v_length v_at v_readKey v_readCount v_keys v_h].flatten H → va_D A [W_Model k b0 o0 v_row v_number v_saved v_place c18 c19 v_lowBefore v_highBefore v_least v_greatest v_things v_changing v_overLow v_overHigh v_text v_length v_at v_readKey v_readCount v_keys v_h].flatten → va_S A s.heap H locs → lv_has ls 6 [(0, .ref (b0 o0)), (1, .long i15), (3, .int i16), (4, .int i17)] → f_Model_begins_L29 i16 v_place v_greatest K121 n i17 c19 = some out → W p l e rm_Model_begins s m args below meth c H locs 0 0 (Q_Model_begins below D k A args s b0 o0 v_row v_number v_saved v_place v_low v_high v_lowBefore v_highBefore v_least v_greatest v_things v_changing v_overLow v_overHigh v_text v_length v_at v_readKey v_readCount v_keys v_h out) (F0 m 29 ls []) := by
  have hx := X.1.1
  have hb := X.1.2.1
  have hml := X.1.2.2.1
  have hown := X.1.2.2.2.1
  have hts := X.1.2.2.2.2
  intro n
  induction n with
  | zero =>
    intro i17 c19 H locs ls hP hD hS hl hf
    rw [f_Model_begins_L29] at hf
    cases hf
  | succ n ih =>
    intro i17 c19 H locs ls hP hD hS hl hf
    rw [f_Model_begins_L29] at hf
    refine lv_iload hx hb dX8_begins_29 (lv_at hl 3 rfl) ?_
    refine lv_bipush (v := 24) hx hb dX8_begins_31 (by decide) ?_
    refine lv_icmp_ge (tgt := 121) hx hb dX8_begins_33 (by decide) (fun hc => ?_) (fun hc => ?_)
    · have hf := ofpos hf hc
      exact hK121 i17 c19 _ _ _ hP hD hS (lv_sub hl [0, 1, 2] rfl) hf
    · have hf := ofneg hf hc
      refine lv_aload_n hx hb dX8_begins_36 rfl (lv_at hl 0 rfl) ?_
      refine kget (v := .ref (b0 (o0+3))) X hP ff_X8_17 0 rfl rfl dX8_begins_37 ?_
      refine lv_iload_n hx hb dX8_begins_40 rfl (lv_at hl 2 rfl) ?_
      obtain ⟨hc, hf⟩ := ofck hf
      refine kiald (f := v_place) (n := 24) X hP 3 rfl hc dX8_begins_41 ?_
      refine lv_iload hx hb dX8_begins_42 (lv_at hl 3 rfl) ?_
      refine lv_ishr hx hb dX8_begins_44 ?_
      refine lv_iconst (v := 1) hx hb dX8_begins_45 (by decide) ?_
      refine lv_iand hx hb dX8_begins_46 ?_
      refine lv_iconst (v := 1) hx hb dX8_begins_47 (by decide) ?_
      refine lv_icmp_ne (tgt := 55) hx hb dX8_begins_48 (by decide) (fun hc => ?_) (fun hc => ?_)
      · have hf := ofneg hf hc
        refine lv_iconst (v := 0) hx hb dX8_begins_55 (by decide) ?_
        exact w_Model_begins_J56 X b0 o0 v_row v_number v_saved v_place v_low v_high v_lowBefore v_highBefore v_least v_greatest v_things v_changing v_overLow v_overHigh v_text v_length v_at v_readKey v_readCount v_keys v_h N i15 i16 i17 0 c18 c19 out _ ih _ _ _ hP hD hS (lv_sub hl [0, 1, 2, 3] rfl) hf
      · have hf := ofpos hf hc
        refine lv_iconst (v := 1) hx hb dX8_begins_51 (by decide) ?_
        refine lv_goto (tgt := 56) hx hb dX8_begins_52 (by decide) ?_
        exact w_Model_begins_J56 X b0 o0 v_row v_number v_saved v_place v_low v_high v_lowBefore v_highBefore v_least v_greatest v_things v_changing v_overLow v_overHigh v_text v_length v_at v_readKey v_readCount v_keys v_h N i15 i16 i17 1 c18 c19 out _ ih _ _ _ hP hD hS (lv_sub hl [0, 1, 2, 3] rfl) hf
set_option maxRecDepth 100000 in
set_option maxHeartbeats 1000000 in
theorem w_Model_begins_L2 {p : Program} {l : Launch} {e : Env} {s : State} {m : MethodId} {below : List Frame} {meth : Method} {c : Code} {args : Array Value} {A : Nat → Prop} {D : va_G} {k : Nat → ClassId} {t : Nat → Nat} (X : BX l D k t p s m args meth c cX8_begins 6 RX8 none A) (b0 : Nat → Nat) (o0 : Nat) (v_row : FI) (v_number : FJ) (v_saved : Int32) (v_place : FI) (v_low : FJ) (v_high : FJ) (v_lowBefore : FJ) (v_highBefore : FJ) (v_least : FJ) (v_greatest : FJ) (v_things : Int32) (v_changing : Int32) (v_overLow : FJ) (v_overHigh : FJ) (v_text : FI) (v_length : Int32) (v_at : Int32) (v_readKey : FI) (v_readCount : FJ) (v_keys : Int32) (v_h : Int64) (N : Nat) (i8 : Int64) (out : FJ × FJ) (K127 : Int32 → FJ → FJ → Option (FJ × FJ)) (hK127 : ∀ (i9' : Int32) (c10' : FJ) (c11' : FJ) (H : Heap) (locs : List Loc) (ls : Array Slot), va_P D vwCl [W_Model k b0 o0 v_row v_number v_saved v_place c10' c11' v_lowBefore v_highBefore v_least v_greatest v_things v_changing v_overLow v_overHigh v_text v_length v_at v_readKey v_readCount v_keys v_h].flatten H → va_D A [W_Model k b0 o0 v_row v_number v_saved v_place c10' c11' v_lowBefore v_highBefore v_least v_greatest v_things v_changing v_overLow v_overHigh v_text v_length v_at v_readKey v_readCount v_keys v_h].flatten → va_S A s.heap H locs → lv_has ls 6 [] → K127 i9' c10' c11' = some out → W p l e rm_Model_begins s m args below meth c H locs 0 0 (Q_Model_begins below D k A args s b0 o0 v_row v_number v_saved v_place v_low v_high v_lowBefore v_highBefore v_least v_greatest v_things v_changing v_overLow v_overHigh v_text v_length v_at v_readKey v_readCount v_keys v_h out) (F0 m 127 ls [])) : ∀ (n : Nat) (i9 : Int32) (c10 : FJ) (c11 : FJ) (H : Heap) (locs : List Loc) (ls : Array Slot), va_P D vwCl [W_Model k b0 o0 v_row v_number v_saved v_place c10 c11 v_lowBefore v_highBefore v_least v_greatest v_things v_changing v_overLow v_overHigh v_text v_length v_at v_readKey v_readCount v_keys v_h].flatten H → va_D A [W_Model k b0 o0 v_row v_number v_saved v_place c10 c11 v_lowBefore v_highBefore v_least v_greatest v_things v_changing v_overLow v_overHigh v_text v_length v_at v_readKey v_readCount v_keys v_h].flatten → va_S A s.heap H locs → lv_has ls 6 [(0, .ref (b0 o0)), (1, .long i8), (3, .int i9)] → f_Model_begins_L2 N i8 v_place v_greatest v_things K127 n i9 c10 c11 = some out → W p l e rm_Model_begins s m args below meth c H locs 0 0 (Q_Model_begins below D k A args s b0 o0 v_row v_number v_saved v_place v_low v_high v_lowBefore v_highBefore v_least v_greatest v_things v_changing v_overLow v_overHigh v_text v_length v_at v_readKey v_readCount v_keys v_h out) (F0 m 2 ls []) := by
  have hx := X.1.1
  have hb := X.1.2.1
  have hml := X.1.2.2.1
  have hown := X.1.2.2.2.1
  have hts := X.1.2.2.2.2
  intro n
  induction n with
  | zero =>
    intro i9 c10 c11 H locs ls hP hD hS hl hf
    rw [f_Model_begins_L2] at hf
    cases hf
  | succ n ih =>
    intro i9 c10 c11 H locs ls hP hD hS hl hf
    rw [f_Model_begins_L2] at hf
    refine lv_iload_n hx hb dX8_begins_2 rfl (lv_at hl 2 rfl) ?_
    refine lv_aload_n hx hb dX8_begins_3 rfl (lv_at hl 0 rfl) ?_
    refine kget (v := .int v_things) X hP ff_X8_127 0 rfl rfl dX8_begins_4 ?_
    refine lv_icmp_ge (tgt := 127) hx hb dX8_begins_7 (by decide) (fun hc => ?_) (fun hc => ?_)
    · have hf := ofpos hf hc
      exact hK127 i9 c10 c11 _ _ _ hP hD hS (lv_sub hl [] rfl) hf
    · have hf := ofneg hf hc
      refine lv_aload_n hx hb dX8_begins_10 rfl (lv_at hl 0 rfl) ?_
      refine kget (v := .ref (b0 (o0+4))) X hP ff_X8_20 0 rfl rfl dX8_begins_11 ?_
      refine lv_iload_n hx hb dX8_begins_14 rfl (lv_at hl 2 rfl) ?_
      refine lv_lload_n hx hb dX8_begins_15 rfl (lv_at hl 1 rfl) ?_
      obtain ⟨hc, hf⟩ := ofck hf
      generalize hc12 : vp_updL c10 i9.toNatClampNeg i8 = c12 at hf
      refine klast2 (f := c10) (n := 24) (g := c12) X hP hD hS 4 rfl hc hc12 dX8_begins_16 (fun H locs hP hD hS => ?_)
      have hP : va_P D vwCl [W_Model k b0 o0 v_row v_number v_saved v_place c12 c11 v_lowBefore v_highBefore v_least v_greatest v_things v_changing v_overLow v_overHigh v_text v_length v_at v_readKey v_readCount v_keys v_h].flatten _ := hP
      have hD : va_D A [W_Model k b0 o0 v_row v_number v_saved v_place c12 c11 v_lowBefore v_highBefore v_least v_greatest v_things v_changing v_overLow v_overHigh v_text v_length v_at v_readKey v_readCount v_keys v_h].flatten := hD
      refine lv_aload_n hx hb dX8_begins_17 rfl (lv_at hl 0 rfl) ?_
      refine kget (v := .ref (b0 (o0+5))) X hP ff_X8_23 0 rfl rfl dX8_begins_18 ?_
      refine lv_iload_n hx hb dX8_begins_21 rfl (lv_at hl 2 rfl) ?_
      refine lv_ldc2 (v := (-1)) hx hb hown (hts _ kc_X8_130) dX8_begins_22 ?_
      obtain ⟨hc, hf⟩ := ofck hf
      generalize hc13 : vp_updL c11 i9.toNatClampNeg (-1) = c13 at hf
      refine klast2 (f := c11) (n := 24) (g := c13) X hP hD hS 5 rfl hc hc13 dX8_begins_25 (fun H locs hP hD hS => ?_)
      have hP : va_P D vwCl [W_Model k b0 o0 v_row v_number v_saved v_place c12 c13 v_lowBefore v_highBefore v_least v_greatest v_things v_changing v_overLow v_overHigh v_text v_length v_at v_readKey v_readCount v_keys v_h].flatten _ := hP
      have hD : va_D A [W_Model k b0 o0 v_row v_number v_saved v_place c12 c13 v_lowBefore v_highBefore v_least v_greatest v_things v_changing v_overLow v_overHigh v_text v_length v_at v_readKey v_readCount v_keys v_h].flatten := hD
      refine lv_iconst (v := 0) hx hb dX8_begins_26 (by decide) ?_
      refine lv_istore (lv' := [(4, .int 0), (0, .ref (b0 o0)), (1, .long i8), (3, .int i9)]) hx hb dX8_begins_27 hl (by decide) rfl (fun ls hl => ?_)
      refine w_Model_begins_L29 X b0 o0 v_row v_number v_saved v_place v_low v_high v_lowBefore v_highBefore v_least v_greatest v_things v_changing v_overLow v_overHigh v_text v_length v_at v_readKey v_readCount v_keys v_h N i8 i9 c12 out _ ?_ N 0 c13 _ _ _ hP hD hS (lv_sub hl [1, 2, 3, 0] rfl) hf
      · intro i30 c31 H locs ls hP hD hS hl hf
        refine lv_iinc (v := i9 + 1) (lv' := [(3, .int (i9 + 1)), (0, .ref (b0 o0)), (1, .long i8)]) hx hb dX8_begins_121 hl (k := 2) rfl rfl (by decide) rfl (fun ls hl => ?_)
        refine lv_goto (tgt := 2) hx hb dX8_begins_124 (by decide) ?_
        exact ih (i9 + 1) c12 c31 _ _ _ hP hD hS (lv_sub hl [1, 2, 0] rfl) hf
set_option maxRecDepth 100000 in
set_option maxHeartbeats 1000000 in
theorem c_Model_begins (l : Launch) (D : va_G) (k : Nat → ClassId) (t : Nat → Nat) (b0 : Nat → Nat) (o0 : Nat) (v_row : FI) (v_number : FJ) (v_saved : Int32) (v_place : FI) (v_low : FJ) (v_high : FJ) (v_lowBefore : FJ) (v_highBefore : FJ) (v_least : FJ) (v_greatest : FJ) (v_things : Int32) (v_changing : Int32) (v_overLow : FJ) (v_overHigh : FJ) (v_text : FI) (v_length : Int32) (v_at : Int32) (v_readKey : FI) (v_readCount : FJ) (v_keys : Int32) (v_h : Int64) (x1 : Int64) (N : Nat) (out : FJ × FJ) (hf : f_Model_begins N x1 v_place v_low v_high v_greatest v_things = some out) : CT l D k t yX8_begins cX8_begins 6 none rm_Model_begins [.ref (b0 o0), .long x1] [W_Model k b0 o0 v_row v_number v_saved v_place v_low v_high v_lowBefore v_highBefore v_least v_greatest v_things v_changing v_overLow v_overHigh v_text v_length v_at v_readKey v_readCount v_keys v_h].flatten none [W_Model k b0 o0 v_row v_number v_saved v_place out.1 out.2 v_lowBefore v_highBefore v_least v_greatest v_things v_changing v_overLow v_overHigh v_text v_length v_at v_readKey v_readCount v_keys v_h].flatten := by
  refine kofW (by decide) (Nat.le_of_ble_eq_true rfl) ?_
  intro p e s m below meth c A ls X hP hD hS hl
  have hx := X.1.1
  have hb := X.1.2.1
  have hml := X.1.2.2.1
  have hown := X.1.2.2.2.1
  have hts := X.1.2.2.2.2
  have hl : lv_has ls 6 [(0, .ref (b0 o0)), (1, .long x1)] := hl
  rw [f_Model_begins] at hf
  refine lv_iconst (v := 0) hx hb dX8_begins_0 (by decide) ?_
  refine lv_istore_n (lv' := [(3, .int 0), (0, .ref (b0 o0)), (1, .long x1)]) hx hb dX8_begins_1 rfl hl (by decide) rfl (fun ls hl => ?_)
  refine w_Model_begins_L2 X b0 o0 v_row v_number v_saved v_place v_low v_high v_lowBefore v_highBefore v_least v_greatest v_things v_changing v_overLow v_overHigh v_text v_length v_at v_readKey v_readCount v_keys v_h N x1 out _ ?_ N 0 v_low v_high _ _ _ hP hD hS (lv_sub hl [1, 2, 0] rfl) hf
  · intro i32 c33 c34 H locs ls hP hD hS hl hf
    have hf := Option.some.inj hf
    subst hf
    exact kvret X hP hD hS dX8_begins_127
/-! Model_others: private long others(int, int, boolean); -/
abbrev rm_Model_others : Room := ({ frames := 0, cells := 0, slots := 0, locals := 0 } : Room)
def f_Model_others_J41 (j13 : Int32) (j14 : Int64) (j15 : Int32) (t16 : Int32) (v_lowBefore : FJ) (v_highBefore : FJ) (B6 : Int64 → Int32 → Option (Int64)) : Option (Int64) := if t16 = 0 then B6 (j14 + 0) (j15 + 1) else if j13 = 0 then if ck j15 24 = true then B6 (j14 + (v_lowBefore j15.toNatClampNeg)) (j15 + 1) else none else if ck j15 24 = true then B6 (j14 + (v_highBefore j15.toNatClampNeg)) (j15 + 1) else none
def f_Model_others_J40 (j8 : Int32) (j9 : Int64) (j10 : Int32) (v_lowBefore : FJ) (v_highBefore : FJ) (B6 : Int64 → Int32 → Option (Int64)) : Option (Int64) := f_Model_others_J41 j8 j9 j10 0 v_lowBefore v_highBefore B6
def f_Model_others_L6 (i1 : Int32) (i2 : Int32) (i3 : Int32) (v_place : FI) (v_lowBefore : FJ) (v_highBefore : FJ) (v_things : Int32) (K84 : Int64 → Int32 → Option (Int64)) : Nat → Int64 → Int32 → Option (Int64)
  | 0, _, _ => none
  | n + 1, i4, i5 => if v_things ≤ i5 then K84 i4 i5 else if i5 = i1 then f_Model_others_J40 i3 i4 i5 v_lowBefore v_highBefore (f_Model_others_L6 i1 i2 i3 v_place v_lowBefore v_highBefore v_things K84 n) else if ck i5 24 = true then if (((v_place i5.toNatClampNeg) >>> (i2 &&& 31)) &&& 1) = 1 then f_Model_others_J41 i3 i4 i5 1 v_lowBefore v_highBefore (f_Model_others_L6 i1 i2 i3 v_place v_lowBefore v_highBefore v_things K84 n) else f_Model_others_J40 i3 i4 i5 v_lowBefore v_highBefore (f_Model_others_L6 i1 i2 i3 v_place v_lowBefore v_highBefore v_things K84 n) else none
def f_Model_others (N : Nat) (x1 : Int32) (x2 : Int32) (x3 : Int32) (v_place : FI) (v_lowBefore : FJ) (v_highBefore : FJ) (v_things : Int32) : Option (Int64) := f_Model_others_L6 x1 x2 x3 v_place v_lowBefore v_highBefore v_things (fun i17 i18 => some i17) N 0 0
abbrev Q_Model_others (below : List Frame) (D : va_G) (k : Nat → ClassId) (A : Nat → Prop) (args : Array Value) (s : State) (b0 : Nat → Nat) (o0 : Nat) (v_row : FI) (v_number : FJ) (v_saved : Int32) (v_place : FI) (v_low : FJ) (v_high : FJ) (v_lowBefore : FJ) (v_highBefore : FJ) (v_least : FJ) (v_greatest : FJ) (v_things : Int32) (v_changing : Int32) (v_overLow : FJ) (v_overHigh : FJ) (v_text : FI) (v_length : Int32) (v_at : Int32) (v_readKey : FI) (v_readCount : FJ) (v_keys : Int32) (v_h : Int64) (out : Int64) : State → Prop := MQ below (QW D k A (some (.long out)) [W_Model k b0 o0 v_row v_number v_saved v_place v_low v_high v_lowBefore v_highBefore v_least v_greatest v_things v_changing v_overLow v_overHigh v_text v_length v_at v_readKey v_readCount v_keys v_h].flatten) args s 0 0 A
set_option maxRecDepth 100000 in
set_option maxHeartbeats 1000000 in
theorem w_Model_others_J41 {p : Program} {l : Launch} {e : Env} {s : State} {m : MethodId} {below : List Frame} {meth : Method} {c : Code} {args : Array Value} {A : Nat → Prop} {D : va_G} {k : Nat → ClassId} {t : Nat → Nat} (X : BX l D k t p s m args meth c cX8_others 8 RX8 (some .long) A) (b0 : Nat → Nat) (o0 : Nat) (v_row : FI) (v_number : FJ) (v_saved : Int32) (v_place : FI) (v_low : FJ) (v_high : FJ) (v_lowBefore : FJ) (v_highBefore : FJ) (v_least : FJ) (v_greatest : FJ) (v_things : Int32) (v_changing : Int32) (v_overLow : FJ) (v_overHigh : FJ) (v_text : FI) (v_length : Int32) (v_at : Int32) (v_readKey : FI) (v_readCount : FJ) (v_keys : Int32) (v_h : Int64) (N : Nat) (j11 : Int32) (j12 : Int32) (j13 : Int32) (j14 : Int64) (j15 : Int32) (t16 : Int32) (out : Int64) (B6 : Int64 → Int32 → Option (Int64)) (hB6 : ∀ (i4' : Int64) (i5' : Int32) (H : Heap) (locs : List Loc) (ls : Array Slot), va_P D vwCl [W_Model k b0 o0 v_row v_number v_saved v_place v_low v_high v_lowBefore v_highBefore v_least v_greatest v_things v_changing v_overLow v_overHigh v_text v_length v_at v_readKey v_readCount v_keys v_h].flatten H → va_D A [W_Model k b0 o0 v_row v_number v_saved v_place v_low v_high v_lowBefore v_highBefore v_least v_greatest v_things v_changing v_overLow v_overHigh v_text v_length v_at v_readKey v_readCount v_keys v_h].flatten → va_S A s.heap H locs → lv_has ls 8 [(0, .ref (b0 o0)), (1, .int j11), (2, .int j12), (3, .int j13), (4, .long i4'), (6, .int i5')] → B6 i4' i5' = some out → W p l e rm_Model_others s m args below meth c H locs 0 0 (Q_Model_others below D k A args s b0 o0 v_row v_number v_saved v_place v_low v_high v_lowBefore v_highBefore v_least v_greatest v_things v_changing v_overLow v_overHigh v_text v_length v_at v_readKey v_readCount v_keys v_h out) (F0 m 6 ls [])) : ∀ (H : Heap) (locs : List Loc) (ls : Array Slot), va_P D vwCl [W_Model k b0 o0 v_row v_number v_saved v_place v_low v_high v_lowBefore v_highBefore v_least v_greatest v_things v_changing v_overLow v_overHigh v_text v_length v_at v_readKey v_readCount v_keys v_h].flatten H → va_D A [W_Model k b0 o0 v_row v_number v_saved v_place v_low v_high v_lowBefore v_highBefore v_least v_greatest v_things v_changing v_overLow v_overHigh v_text v_length v_at v_readKey v_readCount v_keys v_h].flatten → va_S A s.heap H locs → lv_has ls 8 [(0, .ref (b0 o0)), (1, .int j11), (2, .int j12), (3, .int j13), (4, .long j14), (6, .int j15)] → f_Model_others_J41 j13 j14 j15 t16 v_lowBefore v_highBefore B6 = some out → W p l e rm_Model_others s m args below meth c H locs 0 0 (Q_Model_others below D k A args s b0 o0 v_row v_number v_saved v_place v_low v_high v_lowBefore v_highBefore v_least v_greatest v_things v_changing v_overLow v_overHigh v_text v_length v_at v_readKey v_readCount v_keys v_h out) (F0 m 41 ls [.int t16]) := by
  have hx := X.1.1
  have hb := X.1.2.1
  have hml := X.1.2.2.1
  have hown := X.1.2.2.2.1
  have hts := X.1.2.2.2.2
  intro H locs ls hP hD hS hl hf
  rw [f_Model_others_J41] at hf
  refine lv_istore (lv' := [(7, .int t16), (0, .ref (b0 o0)), (1, .int j11), (2, .int j12), (3, .int j13), (4, .long j14), (6, .int j15)]) hx hb dX8_others_41 hl (by decide) rfl (fun ls hl => ?_)
  refine lv_lload hx hb dX8_others_43 (lv_at hl 5 rfl) ?_
  refine lv_iload hx hb dX8_others_45 (lv_at hl 0 rfl) ?_
  refine lv_if_eq (tgt := 74) hx hb dX8_others_47 (by decide) (fun hc => ?_) (fun hc => ?_)
  · have hf := ofpos hf hc
    refine lv_lconst (v := 0) hx hb dX8_others_74 (by decide) ?_
    refine lv_ladd hx hb dX8_others_75 ?_
    refine lv_lstore (lv' := [(4, .long (j14 + 0)), (7, .int t16), (0, .ref (b0 o0)), (1, .int j11), (2, .int j12), (3, .int j13), (6, .int j15)]) hx hb dX8_others_76 hl (by decide) rfl (fun ls hl => ?_)
    refine lv_iinc (v := j15 + 1) (lv' := [(6, .int (j15 + 1)), (4, .long (j14 + 0)), (7, .int t16), (0, .ref (b0 o0)), (1, .int j11), (2, .int j12), (3, .int j13)]) hx hb dX8_others_78 hl (k := 6) rfl rfl (by decide) rfl (fun ls hl => ?_)
    refine lv_goto (tgt := 6) hx hb dX8_others_81 (by decide) ?_
    exact hB6 (j14 + 0) (j15 + 1) _ _ _ hP hD hS (lv_sub hl [3, 4, 5, 6, 1, 0] rfl) hf
  · have hf := ofneg hf hc
    refine lv_iload_n hx hb dX8_others_50 rfl (lv_at hl 4 rfl) ?_
    refine lv_if_eq (tgt := 64) hx hb dX8_others_51 (by decide) (fun hc => ?_) (fun hc => ?_)
    · have hf := ofpos hf hc
      refine lv_aload_n hx hb dX8_others_64 rfl (lv_at hl 1 rfl) ?_
      refine kget (v := .ref (b0 (o0+6))) X hP ff_X8_26 0 rfl rfl dX8_others_65 ?_
      refine lv_iload hx hb dX8_others_68 (lv_at hl 6 rfl) ?_
      obtain ⟨hc, hf⟩ := ofck hf
      refine klald (f := v_lowBefore) (n := 24) X hP 6 rfl hc dX8_others_70 ?_
      refine lv_goto (tgt := 75) hx hb dX8_others_71 (by decide) ?_
      refine lv_ladd hx hb dX8_others_75 ?_
      refine lv_lstore (lv' := [(4, .long (j14 + (v_lowBefore j15.toNatClampNeg))), (7, .int t16), (0, .ref (b0 o0)), (1, .int j11), (2, .int j12), (3, .int j13), (6, .int j15)]) hx hb dX8_others_76 hl (by decide) rfl (fun ls hl => ?_)
      refine lv_iinc (v := j15 + 1) (lv' := [(6, .int (j15 + 1)), (4, .long (j14 + (v_lowBefore j15.toNatClampNeg))), (7, .int t16), (0, .ref (b0 o0)), (1, .int j11), (2, .int j12), (3, .int j13)]) hx hb dX8_others_78 hl (k := 6) rfl rfl (by decide) rfl (fun ls hl => ?_)
      refine lv_goto (tgt := 6) hx hb dX8_others_81 (by decide) ?_
      exact hB6 (j14 + (v_lowBefore j15.toNatClampNeg)) (j15 + 1) _ _ _ hP hD hS (lv_sub hl [3, 4, 5, 6, 1, 0] rfl) hf
    · have hf := ofneg hf hc
      refine lv_aload_n hx hb dX8_others_54 rfl (lv_at hl 1 rfl) ?_
      refine kget (v := .ref (b0 (o0+7))) X hP ff_X8_29 0 rfl rfl dX8_others_55 ?_
      refine lv_iload hx hb dX8_others_58 (lv_at hl 6 rfl) ?_
      obtain ⟨hc, hf⟩ := ofck hf
      refine klald (f := v_highBefore) (n := 24) X hP 7 rfl hc dX8_others_60 ?_
      refine lv_goto (tgt := 75) hx hb dX8_others_61 (by decide) ?_
      refine lv_ladd hx hb dX8_others_75 ?_
      refine lv_lstore (lv' := [(4, .long (j14 + (v_highBefore j15.toNatClampNeg))), (7, .int t16), (0, .ref (b0 o0)), (1, .int j11), (2, .int j12), (3, .int j13), (6, .int j15)]) hx hb dX8_others_76 hl (by decide) rfl (fun ls hl => ?_)
      refine lv_iinc (v := j15 + 1) (lv' := [(6, .int (j15 + 1)), (4, .long (j14 + (v_highBefore j15.toNatClampNeg))), (7, .int t16), (0, .ref (b0 o0)), (1, .int j11), (2, .int j12), (3, .int j13)]) hx hb dX8_others_78 hl (k := 6) rfl rfl (by decide) rfl (fun ls hl => ?_)
      refine lv_goto (tgt := 6) hx hb dX8_others_81 (by decide) ?_
      exact hB6 (j14 + (v_highBefore j15.toNatClampNeg)) (j15 + 1) _ _ _ hP hD hS (lv_sub hl [3, 4, 5, 6, 1, 0] rfl) hf
set_option maxRecDepth 100000 in
set_option maxHeartbeats 1000000 in
theorem w_Model_others_J40 {p : Program} {l : Launch} {e : Env} {s : State} {m : MethodId} {below : List Frame} {meth : Method} {c : Code} {args : Array Value} {A : Nat → Prop} {D : va_G} {k : Nat → ClassId} {t : Nat → Nat} (X : BX l D k t p s m args meth c cX8_others 8 RX8 (some .long) A) (b0 : Nat → Nat) (o0 : Nat) (v_row : FI) (v_number : FJ) (v_saved : Int32) (v_place : FI) (v_low : FJ) (v_high : FJ) (v_lowBefore : FJ) (v_highBefore : FJ) (v_least : FJ) (v_greatest : FJ) (v_things : Int32) (v_changing : Int32) (v_overLow : FJ) (v_overHigh : FJ) (v_text : FI) (v_length : Int32) (v_at : Int32) (v_readKey : FI) (v_readCount : FJ) (v_keys : Int32) (v_h : Int64) (N : Nat) (j6 : Int32) (j7 : Int32) (j8 : Int32) (j9 : Int64) (j10 : Int32) (out : Int64) (B6 : Int64 → Int32 → Option (Int64)) (hB6 : ∀ (i4' : Int64) (i5' : Int32) (H : Heap) (locs : List Loc) (ls : Array Slot), va_P D vwCl [W_Model k b0 o0 v_row v_number v_saved v_place v_low v_high v_lowBefore v_highBefore v_least v_greatest v_things v_changing v_overLow v_overHigh v_text v_length v_at v_readKey v_readCount v_keys v_h].flatten H → va_D A [W_Model k b0 o0 v_row v_number v_saved v_place v_low v_high v_lowBefore v_highBefore v_least v_greatest v_things v_changing v_overLow v_overHigh v_text v_length v_at v_readKey v_readCount v_keys v_h].flatten → va_S A s.heap H locs → lv_has ls 8 [(0, .ref (b0 o0)), (1, .int j6), (2, .int j7), (3, .int j8), (4, .long i4'), (6, .int i5')] → B6 i4' i5' = some out → W p l e rm_Model_others s m args below meth c H locs 0 0 (Q_Model_others below D k A args s b0 o0 v_row v_number v_saved v_place v_low v_high v_lowBefore v_highBefore v_least v_greatest v_things v_changing v_overLow v_overHigh v_text v_length v_at v_readKey v_readCount v_keys v_h out) (F0 m 6 ls [])) : ∀ (H : Heap) (locs : List Loc) (ls : Array Slot), va_P D vwCl [W_Model k b0 o0 v_row v_number v_saved v_place v_low v_high v_lowBefore v_highBefore v_least v_greatest v_things v_changing v_overLow v_overHigh v_text v_length v_at v_readKey v_readCount v_keys v_h].flatten H → va_D A [W_Model k b0 o0 v_row v_number v_saved v_place v_low v_high v_lowBefore v_highBefore v_least v_greatest v_things v_changing v_overLow v_overHigh v_text v_length v_at v_readKey v_readCount v_keys v_h].flatten → va_S A s.heap H locs → lv_has ls 8 [(0, .ref (b0 o0)), (1, .int j6), (2, .int j7), (3, .int j8), (4, .long j9), (6, .int j10)] → f_Model_others_J40 j8 j9 j10 v_lowBefore v_highBefore B6 = some out → W p l e rm_Model_others s m args below meth c H locs 0 0 (Q_Model_others below D k A args s b0 o0 v_row v_number v_saved v_place v_low v_high v_lowBefore v_highBefore v_least v_greatest v_things v_changing v_overLow v_overHigh v_text v_length v_at v_readKey v_readCount v_keys v_h out) (F0 m 40 ls []) := by
  have hx := X.1.1
  have hb := X.1.2.1
  have hml := X.1.2.2.1
  have hown := X.1.2.2.2.1
  have hts := X.1.2.2.2.2
  intro H locs ls hP hD hS hl hf
  rw [f_Model_others_J40] at hf
  refine lv_iconst (v := 0) hx hb dX8_others_40 (by decide) ?_
  exact w_Model_others_J41 X b0 o0 v_row v_number v_saved v_place v_low v_high v_lowBefore v_highBefore v_least v_greatest v_things v_changing v_overLow v_overHigh v_text v_length v_at v_readKey v_readCount v_keys v_h N j6 j7 j8 j9 j10 0 out _ hB6 _ _ _ hP hD hS (lv_sub hl [0, 1, 2, 3, 4, 5] rfl) hf
set_option maxRecDepth 100000 in
set_option maxHeartbeats 1000000 in
theorem w_Model_others_L6 {p : Program} {l : Launch} {e : Env} {s : State} {m : MethodId} {below : List Frame} {meth : Method} {c : Code} {args : Array Value} {A : Nat → Prop} {D : va_G} {k : Nat → ClassId} {t : Nat → Nat} (X : BX l D k t p s m args meth c cX8_others 8 RX8 (some .long) A) (b0 : Nat → Nat) (o0 : Nat) (v_row : FI) (v_number : FJ) (v_saved : Int32) (v_place : FI) (v_low : FJ) (v_high : FJ) (v_lowBefore : FJ) (v_highBefore : FJ) (v_least : FJ) (v_greatest : FJ) (v_things : Int32) (v_changing : Int32) (v_overLow : FJ) (v_overHigh : FJ) (v_text : FI) (v_length : Int32) (v_at : Int32) (v_readKey : FI) (v_readCount : FJ) (v_keys : Int32) (v_h : Int64) (N : Nat) (i1 : Int32) (i2 : Int32) (i3 : Int32) (out : Int64) (K84 : Int64 → Int32 → Option (Int64)) (hK84 : ∀ (i4' : Int64) (i5' : Int32) (H : Heap) (locs : List Loc) (ls : Array Slot), va_P D vwCl [W_Model k b0 o0 v_row v_number v_saved v_place v_low v_high v_lowBefore v_highBefore v_least v_greatest v_things v_changing v_overLow v_overHigh v_text v_length v_at v_readKey v_readCount v_keys v_h].flatten H → va_D A [W_Model k b0 o0 v_row v_number v_saved v_place v_low v_high v_lowBefore v_highBefore v_least v_greatest v_things v_changing v_overLow v_overHigh v_text v_length v_at v_readKey v_readCount v_keys v_h].flatten → va_S A s.heap H locs → lv_has ls 8 [(4, .long i4')] → K84 i4' i5' = some out → W p l e rm_Model_others s m args below meth c H locs 0 0 (Q_Model_others below D k A args s b0 o0 v_row v_number v_saved v_place v_low v_high v_lowBefore v_highBefore v_least v_greatest v_things v_changing v_overLow v_overHigh v_text v_length v_at v_readKey v_readCount v_keys v_h out) (F0 m 84 ls [])) : ∀ (n : Nat) (i4 : Int64) (i5 : Int32) (H : Heap) (locs : List Loc) (ls : Array Slot), va_P D vwCl [W_Model k b0 o0 v_row v_number v_saved v_place v_low v_high v_lowBefore v_highBefore v_least v_greatest v_things v_changing v_overLow v_overHigh v_text v_length v_at v_readKey v_readCount v_keys v_h].flatten H → va_D A [W_Model k b0 o0 v_row v_number v_saved v_place v_low v_high v_lowBefore v_highBefore v_least v_greatest v_things v_changing v_overLow v_overHigh v_text v_length v_at v_readKey v_readCount v_keys v_h].flatten → va_S A s.heap H locs → lv_has ls 8 [(0, .ref (b0 o0)), (1, .int i1), (2, .int i2), (3, .int i3), (4, .long i4), (6, .int i5)] → f_Model_others_L6 i1 i2 i3 v_place v_lowBefore v_highBefore v_things K84 n i4 i5 = some out → W p l e rm_Model_others s m args below meth c H locs 0 0 (Q_Model_others below D k A args s b0 o0 v_row v_number v_saved v_place v_low v_high v_lowBefore v_highBefore v_least v_greatest v_things v_changing v_overLow v_overHigh v_text v_length v_at v_readKey v_readCount v_keys v_h out) (F0 m 6 ls []) := by
  have hx := X.1.1
  have hb := X.1.2.1
  have hml := X.1.2.2.1
  have hown := X.1.2.2.2.1
  have hts := X.1.2.2.2.2
  intro n
  induction n with
  | zero =>
    intro i4 i5 H locs ls hP hD hS hl hf
    rw [f_Model_others_L6] at hf
    cases hf
  | succ n ih =>
    intro i4 i5 H locs ls hP hD hS hl hf
    rw [f_Model_others_L6] at hf
    refine lv_iload hx hb dX8_others_6 (lv_at hl 5 rfl) ?_
    refine lv_aload_n hx hb dX8_others_8 rfl (lv_at hl 0 rfl) ?_
    refine kget (v := .int v_things) X hP ff_X8_127 0 rfl rfl dX8_others_9 ?_
    refine lv_icmp_ge (tgt := 84) hx hb dX8_others_12 (by decide) (fun hc => ?_) (fun hc => ?_)
    · have hf := ofpos hf hc
      exact hK84 i4 i5 _ _ _ hP hD hS (lv_sub hl [4] rfl) hf
    · have hf := ofneg hf hc
      refine lv_iload hx hb dX8_others_15 (lv_at hl 5 rfl) ?_
      refine lv_iload_n hx hb dX8_others_17 rfl (lv_at hl 1 rfl) ?_
      refine lv_icmp_eq (tgt := 40) hx hb dX8_others_18 (by decide) (fun hc => ?_) (fun hc => ?_)
      · have hf := ofpos hf hc
        exact w_Model_others_J40 X b0 o0 v_row v_number v_saved v_place v_low v_high v_lowBefore v_highBefore v_least v_greatest v_things v_changing v_overLow v_overHigh v_text v_length v_at v_readKey v_readCount v_keys v_h N i1 i2 i3 i4 i5 out _ ih _ _ _ hP hD hS (lv_sub hl [0, 1, 2, 3, 4, 5] rfl) hf
      · have hf := ofneg hf hc
        refine lv_aload_n hx hb dX8_others_21 rfl (lv_at hl 0 rfl) ?_
        refine kget (v := .ref (b0 (o0+3))) X hP ff_X8_17 0 rfl rfl dX8_others_22 ?_
        refine lv_iload hx hb dX8_others_25 (lv_at hl 5 rfl) ?_
        obtain ⟨hc, hf⟩ := ofck hf
        refine kiald (f := v_place) (n := 24) X hP 3 rfl hc dX8_others_27 ?_
        refine lv_iload_n hx hb dX8_others_28 rfl (lv_at hl 2 rfl) ?_
        refine lv_ishr hx hb dX8_others_29 ?_
        refine lv_iconst (v := 1) hx hb dX8_others_30 (by decide) ?_
        refine lv_iand hx hb dX8_others_31 ?_
        refine lv_iconst (v := 1) hx hb dX8_others_32 (by decide) ?_
        refine lv_icmp_ne (tgt := 40) hx hb dX8_others_33 (by decide) (fun hc => ?_) (fun hc => ?_)
        · have hf := ofneg hf hc
          exact w_Model_others_J40 X b0 o0 v_row v_number v_saved v_place v_low v_high v_lowBefore v_highBefore v_least v_greatest v_things v_changing v_overLow v_overHigh v_text v_length v_at v_readKey v_readCount v_keys v_h N i1 i2 i3 i4 i5 out _ ih _ _ _ hP hD hS (lv_sub hl [0, 1, 2, 3, 4, 5] rfl) hf
        · have hf := ofpos hf hc
          refine lv_iconst (v := 1) hx hb dX8_others_36 (by decide) ?_
          refine lv_goto (tgt := 41) hx hb dX8_others_37 (by decide) ?_
          exact w_Model_others_J41 X b0 o0 v_row v_number v_saved v_place v_low v_high v_lowBefore v_highBefore v_least v_greatest v_things v_changing v_overLow v_overHigh v_text v_length v_at v_readKey v_readCount v_keys v_h N i1 i2 i3 i4 i5 1 out _ ih _ _ _ hP hD hS (lv_sub hl [0, 1, 2, 3, 4, 5] rfl) hf
set_option maxRecDepth 100000 in
set_option maxHeartbeats 1000000 in
theorem c_Model_others (l : Launch) (D : va_G) (k : Nat → ClassId) (t : Nat → Nat) (b0 : Nat → Nat) (o0 : Nat) (v_row : FI) (v_number : FJ) (v_saved : Int32) (v_place : FI) (v_low : FJ) (v_high : FJ) (v_lowBefore : FJ) (v_highBefore : FJ) (v_least : FJ) (v_greatest : FJ) (v_things : Int32) (v_changing : Int32) (v_overLow : FJ) (v_overHigh : FJ) (v_text : FI) (v_length : Int32) (v_at : Int32) (v_readKey : FI) (v_readCount : FJ) (v_keys : Int32) (v_h : Int64) (x1 : Int32) (x2 : Int32) (x3 : Int32) (N : Nat) (out : Int64) (hf : f_Model_others N x1 x2 x3 v_place v_lowBefore v_highBefore v_things = some out) : CT l D k t yX8_others cX8_others 8 (some .long) rm_Model_others [.ref (b0 o0), .int x1, .int x2, .int x3] [W_Model k b0 o0 v_row v_number v_saved v_place v_low v_high v_lowBefore v_highBefore v_least v_greatest v_things v_changing v_overLow v_overHigh v_text v_length v_at v_readKey v_readCount v_keys v_h].flatten (some (.long out)) [W_Model k b0 o0 v_row v_number v_saved v_place v_low v_high v_lowBefore v_highBefore v_least v_greatest v_things v_changing v_overLow v_overHigh v_text v_length v_at v_readKey v_readCount v_keys v_h].flatten := by
  refine kofW (by decide) (Nat.le_of_ble_eq_true rfl) ?_
  intro p e s m below meth c A ls X hP hD hS hl
  have hx := X.1.1
  have hb := X.1.2.1
  have hml := X.1.2.2.1
  have hown := X.1.2.2.2.1
  have hts := X.1.2.2.2.2
  have hl : lv_has ls 8 [(0, .ref (b0 o0)), (1, .int x1), (2, .int x2), (3, .int x3)] := hl
  rw [f_Model_others] at hf
  refine lv_lconst (v := 0) hx hb dX8_others_0 (by decide) ?_
  refine lv_lstore (lv' := [(4, .long 0), (0, .ref (b0 o0)), (1, .int x1), (2, .int x2), (3, .int x3)]) hx hb dX8_others_1 hl (by decide) rfl (fun ls hl => ?_)
  refine lv_iconst (v := 0) hx hb dX8_others_3 (by decide) ?_
  refine lv_istore (lv' := [(6, .int 0), (4, .long 0), (0, .ref (b0 o0)), (1, .int x1), (2, .int x2), (3, .int x3)]) hx hb dX8_others_4 hl (by decide) rfl (fun ls hl => ?_)
  refine w_Model_others_L6 X b0 o0 v_row v_number v_saved v_place v_low v_high v_lowBefore v_highBefore v_least v_greatest v_things v_changing v_overLow v_overHigh v_text v_length v_at v_readKey v_readCount v_keys v_h N x1 x2 x3 out _ ?_ N 0 0 _ _ _ hP hD hS (lv_sub hl [2, 3, 4, 5, 1, 0] rfl) hf
  · intro i17 i18 H locs ls hP hD hS hl hf
    refine lv_lload hx hb dX8_others_84 (lv_at hl 0 rfl) ?_
    have hf := Option.some.inj hf
    subst hf
    exact klret (v := i17) X hP hD hS dX8_others_86
/-! Model_round: private boolean round(); -/
abbrev rm_Model_round : Room := ({ frames := 1, cells := 0, slots := 0, locals := 27 } : Room)
def f_Model_round_L4 (c5 : FJ) (c6 : FJ) (v_things : Int32) (K42 : Int32 → FJ → FJ → Option (Int32 × FJ × FJ × FJ × FJ)) : Nat → Int32 → FJ → FJ → Option (Int32 × FJ × FJ × FJ × FJ)
  | 0, _, _, _ => none
  | n + 1, i4, c7, c8 => if v_things ≤ i4 then K42 i4 c7 c8 else if ck i4 24 = true then if ck i4 24 = true then if ck i4 24 = true then if ck i4 24 = true then f_Model_round_L4 c5 c6 v_things K42 n (i4 + 1) (vp_updL c7 i4.toNatClampNeg (c5 i4.toNatClampNeg)) (vp_updL c8 i4.toNatClampNeg (c6 i4.toNatClampNeg)) else none else none else none else none
def f_Model_round_J168 (j58 : Int32) (j59 : Int32) (j60 : Int32) (j61 : Int64) (t62 : Int32) (t63 : Int64) (c64 : FJ) (c65 : FJ) (B54 : Int32 → Int32 → FJ → FJ → Option (Int32 × FJ × FJ × FJ × FJ)) : Option (Int32 × FJ × FJ × FJ × FJ) := if ck t62 24 = true then if ck j59 24 = true then if j61 ≤ (c64 j59.toNatClampNeg) then if ck j59 24 = true then if ck j59 24 = true then B54 j58 (j60 + 1) (vp_updL c64 j59.toNatClampNeg (c64 j59.toNatClampNeg)) (vp_updL c65 t62.toNatClampNeg t63) else none else none else if ck j59 24 = true then B54 j58 (j60 + 1) (vp_updL c64 j59.toNatClampNeg j61) (vp_updL c65 t62.toNatClampNeg t63) else none else none else none
def f_Model_round_J139 (j49 : Int32) (j50 : Int32) (j51 : Int64) (j52 : Int64) (t53 : Int32) (c54 : FJ) (c55 : FJ) (B54 : Int32 → Int32 → FJ → FJ → Option (Int32 × FJ × FJ × FJ × FJ)) : Option (Int32 × FJ × FJ × FJ × FJ) := if ck j49 24 = true then if (c55 j49.toNatClampNeg) ≤ j51 then if ck j49 24 = true then f_Model_round_J168 t53 j49 j50 j52 j49 (c55 j49.toNatClampNeg) c54 c55 B54 else none else f_Model_round_J168 t53 j49 j50 j52 j49 j51 c54 c55 B54 else none
def f_Model_round_J134 (j41 : Int32) (j42 : Int32) (j43 : Int64) (j44 : Int64) (c45 : FJ) (c46 : FJ) (B54 : Int32 → Int32 → FJ → FJ → Option (Int32 × FJ × FJ × FJ × FJ)) : Option (Int32 × FJ × FJ × FJ × FJ) := f_Model_round_J139 j41 j42 j43 j44 1 c45 c46 B54
def f_Model_round_L54 (N : Nat) (i33 : Int32) (c37 : FJ) (c38 : FJ) (v_place : FI) (v_least : FJ) (v_greatest : FJ) (v_things : Int32) (K204 : Int32 → Int32 → FJ → FJ → Option (Int32 × FJ × FJ × FJ × FJ)) : Nat → Int32 → Int32 → FJ → FJ → Option (Int32 × FJ × FJ × FJ × FJ)
  | 0, _, _, _, _ => none
  | n + 1, i32, i34, c35, c36 => if 24 ≤ i34 then K204 i32 i34 c35 c36 else if ck i33 24 = true then if (((v_place i33.toNatClampNeg) >>> (i34 &&& 31)) &&& 1) = 1 then if ck i34 24 = true then (f_Model_others N i33 i34 0 v_place c37 c38 v_things).bind (fun r39 => if ck i34 24 = true then (f_Model_others N i33 i34 1 v_place c37 c38 v_things).bind (fun r40 => if i32 = 0 then if ck i33 24 = true then if ((v_greatest i34.toNatClampNeg) - r39) < (c36 i33.toNatClampNeg) then f_Model_round_J134 i33 i34 ((v_greatest i34.toNatClampNeg) - r39) ((v_least i34.toNatClampNeg) - r40) c35 c36 (f_Model_round_L54 N i33 c37 c38 v_place v_least v_greatest v_things K204 n) else if ck i33 24 = true then if ((v_least i34.toNatClampNeg) - r40) ≤ (c35 i33.toNatClampNeg) then f_Model_round_J139 i33 i34 ((v_greatest i34.toNatClampNeg) - r39) ((v_least i34.toNatClampNeg) - r40) 0 c35 c36 (f_Model_round_L54 N i33 c37 c38 v_place v_least v_greatest v_things K204 n) else f_Model_round_J134 i33 i34 ((v_greatest i34.toNatClampNeg) - r39) ((v_least i34.toNatClampNeg) - r40) c35 c36 (f_Model_round_L54 N i33 c37 c38 v_place v_least v_greatest v_things K204 n) else none else none else f_Model_round_J134 i33 i34 ((v_greatest i34.toNatClampNeg) - r39) ((v_least i34.toNatClampNeg) - r40) c35 c36 (f_Model_round_L54 N i33 c37 c38 v_place v_least v_greatest v_things K204 n)) else none) else none else f_Model_round_L54 N i33 c37 c38 v_place v_least v_greatest v_things K204 n i32 (i34 + 1) c35 c36 else none
def f_Model_round_L44 (N : Nat) (c24 : FJ) (c25 : FJ) (v_place : FI) (v_least : FJ) (v_greatest : FJ) (v_things : Int32) (K210 : Int32 → Int32 → FJ → FJ → Option (Int32 × FJ × FJ × FJ × FJ)) : Nat → Int32 → Int32 → FJ → FJ → Option (Int32 × FJ × FJ × FJ × FJ)
  | 0, _, _, _, _ => none
  | n + 1, i20, i21, c22, c23 => if v_things ≤ i21 then K210 i20 i21 c22 c23 else f_Model_round_L54 N i21 c24 c25 v_place v_least v_greatest v_things (fun i71 i72 c73 c74 => f_Model_round_L44 N c24 c25 v_place v_least v_greatest v_things K210 n i71 (i21 + 1) c73 c74) N i20 0 c22 c23
def f_Model_round (N : Nat) (v_place : FI) (v_low : FJ) (v_high : FJ) (v_lowBefore : FJ) (v_highBefore : FJ) (v_least : FJ) (v_greatest : FJ) (v_things : Int32) : Option (Int32 × FJ × FJ × FJ × FJ) := f_Model_round_L4 v_low v_high v_things (fun i11 c12 c13 => f_Model_round_L44 N c12 c13 v_place v_least v_greatest v_things (fun i75 i76 c77 c78 => if i75 = 0 ∨ i75 = 1 then some (i75, c77, c78, c12, c13) else none) N 0 0 v_low v_high) N 0 v_lowBefore v_highBefore
abbrev Q_Model_round (below : List Frame) (D : va_G) (k : Nat → ClassId) (A : Nat → Prop) (args : Array Value) (s : State) (b0 : Nat → Nat) (o0 : Nat) (v_row : FI) (v_number : FJ) (v_saved : Int32) (v_place : FI) (v_low : FJ) (v_high : FJ) (v_lowBefore : FJ) (v_highBefore : FJ) (v_least : FJ) (v_greatest : FJ) (v_things : Int32) (v_changing : Int32) (v_overLow : FJ) (v_overHigh : FJ) (v_text : FI) (v_length : Int32) (v_at : Int32) (v_readKey : FI) (v_readCount : FJ) (v_keys : Int32) (v_h : Int64) (out : Int32 × FJ × FJ × FJ × FJ) : State → Prop := MQ below (QW D k A (some (.int out.1)) [W_Model k b0 o0 v_row v_number v_saved v_place out.2.1 out.2.2.1 out.2.2.2.1 out.2.2.2.2 v_least v_greatest v_things v_changing v_overLow v_overHigh v_text v_length v_at v_readKey v_readCount v_keys v_h].flatten) args s 0 0 A
set_option maxRecDepth 100000 in
set_option maxHeartbeats 1000000 in
theorem w_Model_round_L4 {p : Program} {l : Launch} {e : Env} {s : State} {m : MethodId} {below : List Frame} {meth : Method} {c : Code} {args : Array Value} {A : Nat → Prop} {D : va_G} {k : Nat → ClassId} {t : Nat → Nat} (X : BX l D k t p s m args meth c cX8_round 8 RX8 (some .boolean) A) (b0 : Nat → Nat) (o0 : Nat) (v_row : FI) (v_number : FJ) (v_saved : Int32) (v_place : FI) (v_low : FJ) (v_high : FJ) (v_lowBefore : FJ) (v_highBefore : FJ) (v_least : FJ) (v_greatest : FJ) (v_things : Int32) (v_changing : Int32) (v_overLow : FJ) (v_overHigh : FJ) (v_text : FI) (v_length : Int32) (v_at : Int32) (v_readKey : FI) (v_readCount : FJ) (v_keys : Int32) (v_h : Int64) (N : Nat) (i3 : Int32) (c5 : FJ) (c6 : FJ) (out : Int32 × FJ × FJ × FJ × FJ) (K42 : Int32 → FJ → FJ → Option (Int32 × FJ × FJ × FJ × FJ)) (hK42 : ∀ (i4' : Int32) (c7' : FJ) (c8' : FJ) (H : Heap) (locs : List Loc) (ls : Array Slot), va_P D vwCl [W_Model k b0 o0 v_row v_number v_saved v_place c5 c6 c7' c8' v_least v_greatest v_things v_changing v_overLow v_overHigh v_text v_length v_at v_readKey v_readCount v_keys v_h].flatten H → va_D A [W_Model k b0 o0 v_row v_number v_saved v_place c5 c6 c7' c8' v_least v_greatest v_things v_changing v_overLow v_overHigh v_text v_length v_at v_readKey v_readCount v_keys v_h].flatten → va_S A s.heap H locs → lv_has ls 8 [(0, .ref (b0 o0)), (1, .int i3)] → K42 i4' c7' c8' = some out → W p l e rm_Model_round s m args below meth c H locs 0 0 (Q_Model_round below D k A args s b0 o0 v_row v_number v_saved v_place v_low v_high v_lowBefore v_highBefore v_least v_greatest v_things v_changing v_overLow v_overHigh v_text v_length v_at v_readKey v_readCount v_keys v_h out) (F0 m 42 ls [])) : ∀ (n : Nat) (i4 : Int32) (c7 : FJ) (c8 : FJ) (H : Heap) (locs : List Loc) (ls : Array Slot), va_P D vwCl [W_Model k b0 o0 v_row v_number v_saved v_place c5 c6 c7 c8 v_least v_greatest v_things v_changing v_overLow v_overHigh v_text v_length v_at v_readKey v_readCount v_keys v_h].flatten H → va_D A [W_Model k b0 o0 v_row v_number v_saved v_place c5 c6 c7 c8 v_least v_greatest v_things v_changing v_overLow v_overHigh v_text v_length v_at v_readKey v_readCount v_keys v_h].flatten → va_S A s.heap H locs → lv_has ls 8 [(0, .ref (b0 o0)), (1, .int i3), (2, .int i4)] → f_Model_round_L4 c5 c6 v_things K42 n i4 c7 c8 = some out → W p l e rm_Model_round s m args below meth c H locs 0 0 (Q_Model_round below D k A args s b0 o0 v_row v_number v_saved v_place v_low v_high v_lowBefore v_highBefore v_least v_greatest v_things v_changing v_overLow v_overHigh v_text v_length v_at v_readKey v_readCount v_keys v_h out) (F0 m 4 ls []) := by
  have hx := X.1.1
  have hb := X.1.2.1
  have hml := X.1.2.2.1
  have hown := X.1.2.2.2.1
  have hts := X.1.2.2.2.2
  intro n
  induction n with
  | zero =>
    intro i4 c7 c8 H locs ls hP hD hS hl hf
    rw [f_Model_round_L4] at hf
    cases hf
  | succ n ih =>
    intro i4 c7 c8 H locs ls hP hD hS hl hf
    rw [f_Model_round_L4] at hf
    refine lv_iload_n hx hb dX8_round_4 rfl (lv_at hl 2 rfl) ?_
    refine lv_aload_n hx hb dX8_round_5 rfl (lv_at hl 0 rfl) ?_
    refine kget (v := .int v_things) X hP ff_X8_127 0 rfl rfl dX8_round_6 ?_
    refine lv_icmp_ge (tgt := 42) hx hb dX8_round_9 (by decide) (fun hc => ?_) (fun hc => ?_)
    · have hf := ofpos hf hc
      exact hK42 i4 c7 c8 _ _ _ hP hD hS (lv_sub hl [0, 1] rfl) hf
    · have hf := ofneg hf hc
      refine lv_aload_n hx hb dX8_round_12 rfl (lv_at hl 0 rfl) ?_
      refine kget (v := .ref (b0 (o0+6))) X hP ff_X8_26 0 rfl rfl dX8_round_13 ?_
      refine lv_iload_n hx hb dX8_round_16 rfl (lv_at hl 2 rfl) ?_
      refine lv_aload_n hx hb dX8_round_17 rfl (lv_at hl 0 rfl) ?_
      refine kget (v := .ref (b0 (o0+4))) X hP ff_X8_20 0 rfl rfl dX8_round_18 ?_
      refine lv_iload_n hx hb dX8_round_21 rfl (lv_at hl 2 rfl) ?_
      obtain ⟨hc, hf⟩ := ofck hf
      refine klald (f := c5) (n := 24) X hP 4 rfl hc dX8_round_22 ?_
      obtain ⟨hc, hf⟩ := ofck hf
      generalize hc9 : vp_updL c7 i4.toNatClampNeg (c5 i4.toNatClampNeg) = c9 at hf
      refine klast2 (f := c7) (n := 24) (g := c9) X hP hD hS 6 rfl hc hc9 dX8_round_23 (fun H locs hP hD hS => ?_)
      have hP : va_P D vwCl [W_Model k b0 o0 v_row v_number v_saved v_place c5 c6 c9 c8 v_least v_greatest v_things v_changing v_overLow v_overHigh v_text v_length v_at v_readKey v_readCount v_keys v_h].flatten _ := hP
      have hD : va_D A [W_Model k b0 o0 v_row v_number v_saved v_place c5 c6 c9 c8 v_least v_greatest v_things v_changing v_overLow v_overHigh v_text v_length v_at v_readKey v_readCount v_keys v_h].flatten := hD
      refine lv_aload_n hx hb dX8_round_24 rfl (lv_at hl 0 rfl) ?_
      refine kget (v := .ref (b0 (o0+7))) X hP ff_X8_29 0 rfl rfl dX8_round_25 ?_
      refine lv_iload_n hx hb dX8_round_28 rfl (lv_at hl 2 rfl) ?_
      refine lv_aload_n hx hb dX8_round_29 rfl (lv_at hl 0 rfl) ?_
      refine kget (v := .ref (b0 (o0+5))) X hP ff_X8_23 0 rfl rfl dX8_round_30 ?_
      refine lv_iload_n hx hb dX8_round_33 rfl (lv_at hl 2 rfl) ?_
      obtain ⟨hc, hf⟩ := ofck hf
      refine klald (f := c6) (n := 24) X hP 5 rfl hc dX8_round_34 ?_
      obtain ⟨hc, hf⟩ := ofck hf
      generalize hc10 : vp_updL c8 i4.toNatClampNeg (c6 i4.toNatClampNeg) = c10 at hf
      refine klast2 (f := c8) (n := 24) (g := c10) X hP hD hS 7 rfl hc hc10 dX8_round_35 (fun H locs hP hD hS => ?_)
      have hP : va_P D vwCl [W_Model k b0 o0 v_row v_number v_saved v_place c5 c6 c9 c10 v_least v_greatest v_things v_changing v_overLow v_overHigh v_text v_length v_at v_readKey v_readCount v_keys v_h].flatten _ := hP
      have hD : va_D A [W_Model k b0 o0 v_row v_number v_saved v_place c5 c6 c9 c10 v_least v_greatest v_things v_changing v_overLow v_overHigh v_text v_length v_at v_readKey v_readCount v_keys v_h].flatten := hD
      refine lv_iinc (v := i4 + 1) (lv' := [(2, .int (i4 + 1)), (0, .ref (b0 o0)), (1, .int i3)]) hx hb dX8_round_36 hl (k := 2) rfl rfl (by decide) rfl (fun ls hl => ?_)
      refine lv_goto (tgt := 4) hx hb dX8_round_39 (by decide) ?_
      exact ih (i4 + 1) c9 c10 _ _ _ hP hD hS (lv_sub hl [1, 2, 0] rfl) hf
set_option maxRecDepth 100000 in
set_option maxHeartbeats 1000000 in
theorem w_Model_round_J168 {p : Program} {l : Launch} {e : Env} {s : State} {m : MethodId} {below : List Frame} {meth : Method} {c : Code} {args : Array Value} {A : Nat → Prop} {D : va_G} {k : Nat → ClassId} {t : Nat → Nat} (X : BX l D k t p s m args meth c cX8_round 8 RX8 (some .boolean) A) (b0 : Nat → Nat) (o0 : Nat) (v_row : FI) (v_number : FJ) (v_saved : Int32) (v_place : FI) (v_low : FJ) (v_high : FJ) (v_lowBefore : FJ) (v_highBefore : FJ) (v_least : FJ) (v_greatest : FJ) (v_things : Int32) (v_changing : Int32) (v_overLow : FJ) (v_overHigh : FJ) (v_text : FI) (v_length : Int32) (v_at : Int32) (v_readKey : FI) (v_readCount : FJ) (v_keys : Int32) (v_h : Int64) (N : Nat) (j58 : Int32) (j59 : Int32) (j60 : Int32) (j61 : Int64) (t62 : Int32) (t63 : Int64) (c64 : FJ) (c65 : FJ) (c66 : FJ) (c67 : FJ) (out : Int32 × FJ × FJ × FJ × FJ) (B54 : Int32 → Int32 → FJ → FJ → Option (Int32 × FJ × FJ × FJ × FJ)) (hB54 : ∀ (i32' : Int32) (i34' : Int32) (c35' : FJ) (c36' : FJ) (H : Heap) (locs : List Loc) (ls : Array Slot), va_P D vwCl [W_Model k b0 o0 v_row v_number v_saved v_place c35' c36' c66 c67 v_least v_greatest v_things v_changing v_overLow v_overHigh v_text v_length v_at v_readKey v_readCount v_keys v_h].flatten H → va_D A [W_Model k b0 o0 v_row v_number v_saved v_place c35' c36' c66 c67 v_least v_greatest v_things v_changing v_overLow v_overHigh v_text v_length v_at v_readKey v_readCount v_keys v_h].flatten → va_S A s.heap H locs → lv_has ls 8 [(0, .ref (b0 o0)), (1, .int i32'), (2, .int j59), (3, .int i34')] → B54 i32' i34' c35' c36' = some out → W p l e rm_Model_round s m args below meth c H locs 0 0 (Q_Model_round below D k A args s b0 o0 v_row v_number v_saved v_place v_low v_high v_lowBefore v_highBefore v_least v_greatest v_things v_changing v_overLow v_overHigh v_text v_length v_at v_readKey v_readCount v_keys v_h out) (F0 m 54 ls [])) : ∀ (H : Heap) (locs : List Loc) (ls : Array Slot), va_P D vwCl [W_Model k b0 o0 v_row v_number v_saved v_place c64 c65 c66 c67 v_least v_greatest v_things v_changing v_overLow v_overHigh v_text v_length v_at v_readKey v_readCount v_keys v_h].flatten H → va_D A [W_Model k b0 o0 v_row v_number v_saved v_place c64 c65 c66 c67 v_least v_greatest v_things v_changing v_overLow v_overHigh v_text v_length v_at v_readKey v_readCount v_keys v_h].flatten → va_S A s.heap H locs → lv_has ls 8 [(0, .ref (b0 o0)), (1, .int j58), (2, .int j59), (3, .int j60), (6, .long j61)] → f_Model_round_J168 j58 j59 j60 j61 t62 t63 c64 c65 B54 = some out → W p l e rm_Model_round s m args below meth c H locs 0 0 (Q_Model_round below D k A args s b0 o0 v_row v_number v_saved v_place v_low v_high v_lowBefore v_highBefore v_least v_greatest v_things v_changing v_overLow v_overHigh v_text v_length v_at v_readKey v_readCount v_keys v_h out) (F0 m 168 ls [.long t63, .int t62, .ref (b0 (o0+5))]) := by
  have hx := X.1.1
  have hb := X.1.2.1
  have hml := X.1.2.2.1
  have hown := X.1.2.2.2.1
  have hts := X.1.2.2.2.2
  intro H locs ls hP hD hS hl hf
  rw [f_Model_round_J168] at hf
  obtain ⟨hc, hf⟩ := ofck hf
  generalize hc68 : vp_updL c65 t62.toNatClampNeg t63 = c68 at hf
  refine klast2 (f := c65) (n := 24) (g := c68) X hP hD hS 5 rfl hc hc68 dX8_round_168 (fun H locs hP hD hS => ?_)
  have hP : va_P D vwCl [W_Model k b0 o0 v_row v_number v_saved v_place c64 c68 c66 c67 v_least v_greatest v_things v_changing v_overLow v_overHigh v_text v_length v_at v_readKey v_readCount v_keys v_h].flatten _ := hP
  have hD : va_D A [W_Model k b0 o0 v_row v_number v_saved v_place c64 c68 c66 c67 v_least v_greatest v_things v_changing v_overLow v_overHigh v_text v_length v_at v_readKey v_readCount v_keys v_h].flatten := hD
  refine lv_aload_n hx hb dX8_round_169 rfl (lv_at hl 0 rfl) ?_
  refine kget (v := .ref (b0 (o0+4))) X hP ff_X8_20 0 rfl rfl dX8_round_170 ?_
  refine lv_iload_n hx hb dX8_round_173 rfl (lv_at hl 2 rfl) ?_
  refine lv_lload hx hb dX8_round_174 (lv_at hl 4 rfl) ?_
  refine lv_aload_n hx hb dX8_round_176 rfl (lv_at hl 0 rfl) ?_
  refine kget (v := .ref (b0 (o0+4))) X hP ff_X8_20 0 rfl rfl dX8_round_177 ?_
  refine lv_iload_n hx hb dX8_round_180 rfl (lv_at hl 2 rfl) ?_
  obtain ⟨hc, hf⟩ := ofck hf
  refine klald (f := c64) (n := 24) X hP 4 rfl hc dX8_round_181 ?_
  refine W.lcmp hx hb dX8_round_182 ?_
  refine lv_if_le (tgt := 191) hx hb dX8_round_183 (by decide) (fun hc => ?_) (fun hc => ?_)
  · have hc := lgm.mp hc
    have hf := ofpos hf hc
    refine lv_aload_n hx hb dX8_round_191 rfl (lv_at hl 0 rfl) ?_
    refine kget (v := .ref (b0 (o0+4))) X hP ff_X8_20 0 rfl rfl dX8_round_192 ?_
    refine lv_iload_n hx hb dX8_round_195 rfl (lv_at hl 2 rfl) ?_
    obtain ⟨hc, hf⟩ := ofck hf
    refine klald (f := c64) (n := 24) X hP 4 rfl hc dX8_round_196 ?_
    obtain ⟨hc, hf⟩ := ofck hf
    generalize hc69 : vp_updL c64 j59.toNatClampNeg (c64 j59.toNatClampNeg) = c69 at hf
    refine klast2 (f := c64) (n := 24) (g := c69) X hP hD hS 4 rfl hc hc69 dX8_round_197 (fun H locs hP hD hS => ?_)
    have hP : va_P D vwCl [W_Model k b0 o0 v_row v_number v_saved v_place c69 c68 c66 c67 v_least v_greatest v_things v_changing v_overLow v_overHigh v_text v_length v_at v_readKey v_readCount v_keys v_h].flatten _ := hP
    have hD : va_D A [W_Model k b0 o0 v_row v_number v_saved v_place c69 c68 c66 c67 v_least v_greatest v_things v_changing v_overLow v_overHigh v_text v_length v_at v_readKey v_readCount v_keys v_h].flatten := hD
    refine lv_iinc (v := j60 + 1) (lv' := [(3, .int (j60 + 1)), (0, .ref (b0 o0)), (1, .int j58), (2, .int j59), (6, .long j61)]) hx hb dX8_round_198 hl (k := 3) rfl rfl (by decide) rfl (fun ls hl => ?_)
    refine lv_goto (tgt := 54) hx hb dX8_round_201 (by decide) ?_
    exact hB54 j58 (j60 + 1) c69 c68 _ _ _ hP hD hS (lv_sub hl [1, 2, 3, 0] rfl) hf
  · have hc := fun z => hc (lgm.mpr z)
    have hf := ofneg hf hc
    refine lv_lload hx hb dX8_round_186 (lv_at hl 4 rfl) ?_
    refine lv_goto (tgt := 197) hx hb dX8_round_188 (by decide) ?_
    obtain ⟨hc, hf⟩ := ofck hf
    generalize hc70 : vp_updL c64 j59.toNatClampNeg j61 = c70 at hf
    refine klast2 (f := c64) (n := 24) (g := c70) X hP hD hS 4 rfl hc hc70 dX8_round_197 (fun H locs hP hD hS => ?_)
    have hP : va_P D vwCl [W_Model k b0 o0 v_row v_number v_saved v_place c70 c68 c66 c67 v_least v_greatest v_things v_changing v_overLow v_overHigh v_text v_length v_at v_readKey v_readCount v_keys v_h].flatten _ := hP
    have hD : va_D A [W_Model k b0 o0 v_row v_number v_saved v_place c70 c68 c66 c67 v_least v_greatest v_things v_changing v_overLow v_overHigh v_text v_length v_at v_readKey v_readCount v_keys v_h].flatten := hD
    refine lv_iinc (v := j60 + 1) (lv' := [(3, .int (j60 + 1)), (0, .ref (b0 o0)), (1, .int j58), (2, .int j59), (6, .long j61)]) hx hb dX8_round_198 hl (k := 3) rfl rfl (by decide) rfl (fun ls hl => ?_)
    refine lv_goto (tgt := 54) hx hb dX8_round_201 (by decide) ?_
    exact hB54 j58 (j60 + 1) c70 c68 _ _ _ hP hD hS (lv_sub hl [1, 2, 3, 0] rfl) hf
set_option maxRecDepth 100000 in
set_option maxHeartbeats 1000000 in
theorem w_Model_round_J139 {p : Program} {l : Launch} {e : Env} {s : State} {m : MethodId} {below : List Frame} {meth : Method} {c : Code} {args : Array Value} {A : Nat → Prop} {D : va_G} {k : Nat → ClassId} {t : Nat → Nat} (X : BX l D k t p s m args meth c cX8_round 8 RX8 (some .boolean) A) (b0 : Nat → Nat) (o0 : Nat) (v_row : FI) (v_number : FJ) (v_saved : Int32) (v_place : FI) (v_low : FJ) (v_high : FJ) (v_lowBefore : FJ) (v_highBefore : FJ) (v_least : FJ) (v_greatest : FJ) (v_things : Int32) (v_changing : Int32) (v_overLow : FJ) (v_overHigh : FJ) (v_text : FI) (v_length : Int32) (v_at : Int32) (v_readKey : FI) (v_readCount : FJ) (v_keys : Int32) (v_h : Int64) (N : Nat) (j49 : Int32) (j50 : Int32) (j51 : Int64) (j52 : Int64) (t53 : Int32) (c54 : FJ) (c55 : FJ) (c56 : FJ) (c57 : FJ) (out : Int32 × FJ × FJ × FJ × FJ) (B54 : Int32 → Int32 → FJ → FJ → Option (Int32 × FJ × FJ × FJ × FJ)) (hB54 : ∀ (i32' : Int32) (i34' : Int32) (c35' : FJ) (c36' : FJ) (H : Heap) (locs : List Loc) (ls : Array Slot), va_P D vwCl [W_Model k b0 o0 v_row v_number v_saved v_place c35' c36' c56 c57 v_least v_greatest v_things v_changing v_overLow v_overHigh v_text v_length v_at v_readKey v_readCount v_keys v_h].flatten H → va_D A [W_Model k b0 o0 v_row v_number v_saved v_place c35' c36' c56 c57 v_least v_greatest v_things v_changing v_overLow v_overHigh v_text v_length v_at v_readKey v_readCount v_keys v_h].flatten → va_S A s.heap H locs → lv_has ls 8 [(0, .ref (b0 o0)), (1, .int i32'), (2, .int j49), (3, .int i34')] → B54 i32' i34' c35' c36' = some out → W p l e rm_Model_round s m args below meth c H locs 0 0 (Q_Model_round below D k A args s b0 o0 v_row v_number v_saved v_place v_low v_high v_lowBefore v_highBefore v_least v_greatest v_things v_changing v_overLow v_overHigh v_text v_length v_at v_readKey v_readCount v_keys v_h out) (F0 m 54 ls [])) : ∀ (H : Heap) (locs : List Loc) (ls : Array Slot), va_P D vwCl [W_Model k b0 o0 v_row v_number v_saved v_place c54 c55 c56 c57 v_least v_greatest v_things v_changing v_overLow v_overHigh v_text v_length v_at v_readKey v_readCount v_keys v_h].flatten H → va_D A [W_Model k b0 o0 v_row v_number v_saved v_place c54 c55 c56 c57 v_least v_greatest v_things v_changing v_overLow v_overHigh v_text v_length v_at v_readKey v_readCount v_keys v_h].flatten → va_S A s.heap H locs → lv_has ls 8 [(0, .ref (b0 o0)), (2, .int j49), (3, .int j50), (4, .long j51), (6, .long j52)] → f_Model_round_J139 j49 j50 j51 j52 t53 c54 c55 B54 = some out → W p l e rm_Model_round s m args below meth c H locs 0 0 (Q_Model_round below D k A args s b0 o0 v_row v_number v_saved v_place v_low v_high v_lowBefore v_highBefore v_least v_greatest v_things v_changing v_overLow v_overHigh v_text v_length v_at v_readKey v_readCount v_keys v_h out) (F0 m 139 ls [.int t53]) := by
  have hx := X.1.1
  have hb := X.1.2.1
  have hml := X.1.2.2.1
  have hown := X.1.2.2.2.1
  have hts := X.1.2.2.2.2
  intro H locs ls hP hD hS hl hf
  rw [f_Model_round_J139] at hf
  refine lv_istore_n (lv' := [(1, .int t53), (0, .ref (b0 o0)), (2, .int j49), (3, .int j50), (4, .long j51), (6, .long j52)]) hx hb dX8_round_139 rfl hl (by decide) rfl (fun ls hl => ?_)
  refine lv_aload_n hx hb dX8_round_140 rfl (lv_at hl 1 rfl) ?_
  refine kget (v := .ref (b0 (o0+5))) X hP ff_X8_23 0 rfl rfl dX8_round_141 ?_
  refine lv_iload_n hx hb dX8_round_144 rfl (lv_at hl 2 rfl) ?_
  refine lv_lload hx hb dX8_round_145 (lv_at hl 4 rfl) ?_
  refine lv_aload_n hx hb dX8_round_147 rfl (lv_at hl 1 rfl) ?_
  refine kget (v := .ref (b0 (o0+5))) X hP ff_X8_23 0 rfl rfl dX8_round_148 ?_
  refine lv_iload_n hx hb dX8_round_151 rfl (lv_at hl 2 rfl) ?_
  obtain ⟨hc, hf⟩ := ofck hf
  refine klald (f := c55) (n := 24) X hP 5 rfl hc dX8_round_152 ?_
  refine W.lcmp hx hb dX8_round_153 ?_
  refine lv_if_ge (tgt := 162) hx hb dX8_round_154 (by decide) (fun hc => ?_) (fun hc => ?_)
  · have hc := lge.mp hc
    have hf := ofpos hf hc
    refine lv_aload_n hx hb dX8_round_162 rfl (lv_at hl 1 rfl) ?_
    refine kget (v := .ref (b0 (o0+5))) X hP ff_X8_23 0 rfl rfl dX8_round_163 ?_
    refine lv_iload_n hx hb dX8_round_166 rfl (lv_at hl 2 rfl) ?_
    obtain ⟨hc, hf⟩ := ofck hf
    refine klald (f := c55) (n := 24) X hP 5 rfl hc dX8_round_167 ?_
    exact w_Model_round_J168 X b0 o0 v_row v_number v_saved v_place v_low v_high v_lowBefore v_highBefore v_least v_greatest v_things v_changing v_overLow v_overHigh v_text v_length v_at v_readKey v_readCount v_keys v_h N t53 j49 j50 j52 j49 (c55 j49.toNatClampNeg) c54 c55 c56 c57 out _ hB54 _ _ _ hP hD hS (lv_sub hl [1, 0, 2, 3, 5] rfl) hf
  · have hc := fun z => hc (lge.mpr z)
    have hf := ofneg hf hc
    refine lv_lload hx hb dX8_round_157 (lv_at hl 4 rfl) ?_
    refine lv_goto (tgt := 168) hx hb dX8_round_159 (by decide) ?_
    exact w_Model_round_J168 X b0 o0 v_row v_number v_saved v_place v_low v_high v_lowBefore v_highBefore v_least v_greatest v_things v_changing v_overLow v_overHigh v_text v_length v_at v_readKey v_readCount v_keys v_h N t53 j49 j50 j52 j49 j51 c54 c55 c56 c57 out _ hB54 _ _ _ hP hD hS (lv_sub hl [1, 0, 2, 3, 5] rfl) hf
set_option maxRecDepth 100000 in
set_option maxHeartbeats 1000000 in
theorem w_Model_round_J134 {p : Program} {l : Launch} {e : Env} {s : State} {m : MethodId} {below : List Frame} {meth : Method} {c : Code} {args : Array Value} {A : Nat → Prop} {D : va_G} {k : Nat → ClassId} {t : Nat → Nat} (X : BX l D k t p s m args meth c cX8_round 8 RX8 (some .boolean) A) (b0 : Nat → Nat) (o0 : Nat) (v_row : FI) (v_number : FJ) (v_saved : Int32) (v_place : FI) (v_low : FJ) (v_high : FJ) (v_lowBefore : FJ) (v_highBefore : FJ) (v_least : FJ) (v_greatest : FJ) (v_things : Int32) (v_changing : Int32) (v_overLow : FJ) (v_overHigh : FJ) (v_text : FI) (v_length : Int32) (v_at : Int32) (v_readKey : FI) (v_readCount : FJ) (v_keys : Int32) (v_h : Int64) (N : Nat) (j41 : Int32) (j42 : Int32) (j43 : Int64) (j44 : Int64) (c45 : FJ) (c46 : FJ) (c47 : FJ) (c48 : FJ) (out : Int32 × FJ × FJ × FJ × FJ) (B54 : Int32 → Int32 → FJ → FJ → Option (Int32 × FJ × FJ × FJ × FJ)) (hB54 : ∀ (i32' : Int32) (i34' : Int32) (c35' : FJ) (c36' : FJ) (H : Heap) (locs : List Loc) (ls : Array Slot), va_P D vwCl [W_Model k b0 o0 v_row v_number v_saved v_place c35' c36' c47 c48 v_least v_greatest v_things v_changing v_overLow v_overHigh v_text v_length v_at v_readKey v_readCount v_keys v_h].flatten H → va_D A [W_Model k b0 o0 v_row v_number v_saved v_place c35' c36' c47 c48 v_least v_greatest v_things v_changing v_overLow v_overHigh v_text v_length v_at v_readKey v_readCount v_keys v_h].flatten → va_S A s.heap H locs → lv_has ls 8 [(0, .ref (b0 o0)), (1, .int i32'), (2, .int j41), (3, .int i34')] → B54 i32' i34' c35' c36' = some out → W p l e rm_Model_round s m args below meth c H locs 0 0 (Q_Model_round below D k A args s b0 o0 v_row v_number v_saved v_place v_low v_high v_lowBefore v_highBefore v_least v_greatest v_things v_changing v_overLow v_overHigh v_text v_length v_at v_readKey v_readCount v_keys v_h out) (F0 m 54 ls [])) : ∀ (H : Heap) (locs : List Loc) (ls : Array Slot), va_P D vwCl [W_Model k b0 o0 v_row v_number v_saved v_place c45 c46 c47 c48 v_least v_greatest v_things v_changing v_overLow v_overHigh v_text v_length v_at v_readKey v_readCount v_keys v_h].flatten H → va_D A [W_Model k b0 o0 v_row v_number v_saved v_place c45 c46 c47 c48 v_least v_greatest v_things v_changing v_overLow v_overHigh v_text v_length v_at v_readKey v_readCount v_keys v_h].flatten → va_S A s.heap H locs → lv_has ls 8 [(0, .ref (b0 o0)), (2, .int j41), (3, .int j42), (4, .long j43), (6, .long j44)] → f_Model_round_J134 j41 j42 j43 j44 c45 c46 B54 = some out → W p l e rm_Model_round s m args below meth c H locs 0 0 (Q_Model_round below D k A args s b0 o0 v_row v_number v_saved v_place v_low v_high v_lowBefore v_highBefore v_least v_greatest v_things v_changing v_overLow v_overHigh v_text v_length v_at v_readKey v_readCount v_keys v_h out) (F0 m 134 ls []) := by
  have hx := X.1.1
  have hb := X.1.2.1
  have hml := X.1.2.2.1
  have hown := X.1.2.2.2.1
  have hts := X.1.2.2.2.2
  intro H locs ls hP hD hS hl hf
  rw [f_Model_round_J134] at hf
  refine lv_iconst (v := 1) hx hb dX8_round_134 (by decide) ?_
  refine lv_goto (tgt := 139) hx hb dX8_round_135 (by decide) ?_
  exact w_Model_round_J139 X b0 o0 v_row v_number v_saved v_place v_low v_high v_lowBefore v_highBefore v_least v_greatest v_things v_changing v_overLow v_overHigh v_text v_length v_at v_readKey v_readCount v_keys v_h N j41 j42 j43 j44 1 c45 c46 c47 c48 out _ hB54 _ _ _ hP hD hS (lv_sub hl [0, 1, 2, 3, 4] rfl) hf
set_option maxRecDepth 100000 in
set_option maxHeartbeats 1000000 in
theorem w_Model_round_L54 {p : Program} {l : Launch} {e : Env} {s : State} {m : MethodId} {below : List Frame} {meth : Method} {c : Code} {args : Array Value} {A : Nat → Prop} {D : va_G} {k : Nat → ClassId} {t : Nat → Nat} (X : BX l D k t p s m args meth c cX8_round 8 RX8 (some .boolean) A) (b0 : Nat → Nat) (o0 : Nat) (v_row : FI) (v_number : FJ) (v_saved : Int32) (v_place : FI) (v_low : FJ) (v_high : FJ) (v_lowBefore : FJ) (v_highBefore : FJ) (v_least : FJ) (v_greatest : FJ) (v_things : Int32) (v_changing : Int32) (v_overLow : FJ) (v_overHigh : FJ) (v_text : FI) (v_length : Int32) (v_at : Int32) (v_readKey : FI) (v_readCount : FJ) (v_keys : Int32) (v_h : Int64) (N : Nat) (i33 : Int32) (c37 : FJ) (c38 : FJ) (out : Int32 × FJ × FJ × FJ × FJ) (K204 : Int32 → Int32 → FJ → FJ → Option (Int32 × FJ × FJ × FJ × FJ)) (hK204 : ∀ (i32' : Int32) (i34' : Int32) (c35' : FJ) (c36' : FJ) (H : Heap) (locs : List Loc) (ls : Array Slot), va_P D vwCl [W_Model k b0 o0 v_row v_number v_saved v_place c35' c36' c37 c38 v_least v_greatest v_things v_changing v_overLow v_overHigh v_text v_length v_at v_readKey v_readCount v_keys v_h].flatten H → va_D A [W_Model k b0 o0 v_row v_number v_saved v_place c35' c36' c37 c38 v_least v_greatest v_things v_changing v_overLow v_overHigh v_text v_length v_at v_readKey v_readCount v_keys v_h].flatten → va_S A s.heap H locs → lv_has ls 8 [(0, .ref (b0 o0)), (1, .int i32'), (2, .int i33)] → K204 i32' i34' c35' c36' = some out → W p l e rm_Model_round s m args below meth c H locs 0 0 (Q_Model_round below D k A args s b0 o0 v_row v_number v_saved v_place v_low v_high v_lowBefore v_highBefore v_least v_greatest v_things v_changing v_overLow v_overHigh v_text v_length v_at v_readKey v_readCount v_keys v_h out) (F0 m 204 ls [])) : ∀ (n : Nat) (i32 : Int32) (i34 : Int32) (c35 : FJ) (c36 : FJ) (H : Heap) (locs : List Loc) (ls : Array Slot), va_P D vwCl [W_Model k b0 o0 v_row v_number v_saved v_place c35 c36 c37 c38 v_least v_greatest v_things v_changing v_overLow v_overHigh v_text v_length v_at v_readKey v_readCount v_keys v_h].flatten H → va_D A [W_Model k b0 o0 v_row v_number v_saved v_place c35 c36 c37 c38 v_least v_greatest v_things v_changing v_overLow v_overHigh v_text v_length v_at v_readKey v_readCount v_keys v_h].flatten → va_S A s.heap H locs → lv_has ls 8 [(0, .ref (b0 o0)), (1, .int i32), (2, .int i33), (3, .int i34)] → f_Model_round_L54 N i33 c37 c38 v_place v_least v_greatest v_things K204 n i32 i34 c35 c36 = some out → W p l e rm_Model_round s m args below meth c H locs 0 0 (Q_Model_round below D k A args s b0 o0 v_row v_number v_saved v_place v_low v_high v_lowBefore v_highBefore v_least v_greatest v_things v_changing v_overLow v_overHigh v_text v_length v_at v_readKey v_readCount v_keys v_h out) (F0 m 54 ls []) := by
  have hx := X.1.1
  have hb := X.1.2.1
  have hml := X.1.2.2.1
  have hown := X.1.2.2.2.1
  have hts := X.1.2.2.2.2
  intro n
  induction n with
  | zero =>
    intro i32 i34 c35 c36 H locs ls hP hD hS hl hf
    rw [f_Model_round_L54] at hf
    cases hf
  | succ n ih =>
    intro i32 i34 c35 c36 H locs ls hP hD hS hl hf
    rw [f_Model_round_L54] at hf
    refine lv_iload_n hx hb dX8_round_54 rfl (lv_at hl 3 rfl) ?_
    refine lv_bipush (v := 24) hx hb dX8_round_55 (by decide) ?_
    refine lv_icmp_ge (tgt := 204) hx hb dX8_round_57 (by decide) (fun hc => ?_) (fun hc => ?_)
    · have hf := ofpos hf hc
      exact hK204 i32 i34 c35 c36 _ _ _ hP hD hS (lv_sub hl [0, 1, 2] rfl) hf
    · have hf := ofneg hf hc
      refine lv_aload_n hx hb dX8_round_60 rfl (lv_at hl 0 rfl) ?_
      refine kget (v := .ref (b0 (o0+3))) X hP ff_X8_17 0 rfl rfl dX8_round_61 ?_
      refine lv_iload_n hx hb dX8_round_64 rfl (lv_at hl 2 rfl) ?_
      obtain ⟨hc, hf⟩ := ofck hf
      refine kiald (f := v_place) (n := 24) X hP 3 rfl hc dX8_round_65 ?_
      refine lv_iload_n hx hb dX8_round_66 rfl (lv_at hl 3 rfl) ?_
      refine lv_ishr hx hb dX8_round_67 ?_
      refine lv_iconst (v := 1) hx hb dX8_round_68 (by decide) ?_
      refine lv_iand hx hb dX8_round_69 ?_
      refine lv_iconst (v := 1) hx hb dX8_round_70 (by decide) ?_
      refine lv_icmp_ne (tgt := 198) hx hb dX8_round_71 (by decide) (fun hc => ?_) (fun hc => ?_)
      · have hf := ofneg hf hc
        refine lv_iinc (v := i34 + 1) (lv' := [(3, .int (i34 + 1)), (0, .ref (b0 o0)), (1, .int i32), (2, .int i33)]) hx hb dX8_round_198 hl (k := 3) rfl rfl (by decide) rfl (fun ls hl => ?_)
        refine lv_goto (tgt := 54) hx hb dX8_round_201 (by decide) ?_
        exact ih i32 (i34 + 1) c35 c36 _ _ _ hP hD hS (lv_sub hl [1, 2, 3, 0] rfl) hf
      · have hf := ofpos hf hc
        refine lv_aload_n hx hb dX8_round_74 rfl (lv_at hl 0 rfl) ?_
        refine kget (v := .ref (b0 (o0+9))) X hP ff_X8_35 0 rfl rfl dX8_round_75 ?_
        refine lv_iload_n hx hb dX8_round_78 rfl (lv_at hl 3 rfl) ?_
        obtain ⟨hc, hf⟩ := ofck hf
        refine klald (f := v_greatest) (n := 24) X hP 9 rfl hc dX8_round_79 ?_
        refine lv_aload_n hx hb dX8_round_80 rfl (lv_at hl 0 rfl) ?_
        refine lv_iload_n hx hb dX8_round_81 rfl (lv_at hl 2 rfl) ?_
        refine lv_iload_n hx hb dX8_round_82 rfl (lv_at hl 3 rfl) ?_
        refine lv_iconst (v := 0) hx hb dX8_round_83 (by decide) ?_
        obtain ⟨r39, hg_r39, hf⟩ := ofbind hf
        refine kcV (bs := [W_Model k b0 o0 v_row v_number v_saved v_place c35 c36 c37 c38 v_least v_greatest v_things v_changing v_overLow v_overHigh v_text v_length v_at v_readKey v_readCount v_keys v_h]) (br := []) (bc := [W_Model k b0 o0 v_row v_number v_saved v_place c35 c36 c37 c38 v_least v_greatest v_things v_changing v_overLow v_overHigh v_text v_length v_at v_readKey v_readCount v_keys v_h]) (bc' := [W_Model k b0 o0 v_row v_number v_saved v_place c35 c36 c37 c38 v_least v_greatest v_things v_changing v_overLow v_overHigh v_text v_length v_at v_readKey v_readCount v_keys v_h]) X hP hD hS (c_Model_others l D k t b0 o0 v_row v_number v_saved v_place c35 c36 c37 c38 v_least v_greatest v_things v_changing v_overLow v_overHigh v_text v_length v_at v_readKey v_readCount v_keys v_h i33 i34 0 N r39 hg_r39) mv_X8_132 hl [] [0] 8 ⟨rfl, rfl⟩ ⟨Nat.le_of_ble_eq_true rfl, Nat.le_of_ble_eq_true rfl⟩ rfl rfl rfl rfl rfl rfl rfl (Nat.le_of_ble_eq_true rfl) dX8_round_84 (fun H locs hP hD hS => ?_)
        have hP : va_P D vwCl [W_Model k b0 o0 v_row v_number v_saved v_place c35 c36 c37 c38 v_least v_greatest v_things v_changing v_overLow v_overHigh v_text v_length v_at v_readKey v_readCount v_keys v_h].flatten _ := hP
        have hD : va_D A [W_Model k b0 o0 v_row v_number v_saved v_place c35 c36 c37 c38 v_least v_greatest v_things v_changing v_overLow v_overHigh v_text v_length v_at v_readKey v_readCount v_keys v_h].flatten := hD
        refine lv_lsub hx hb dX8_round_87 ?_
        refine lv_lstore (lv' := [(4, .long ((v_greatest i34.toNatClampNeg) - r39)), (0, .ref (b0 o0)), (1, .int i32), (2, .int i33), (3, .int i34)]) hx hb dX8_round_88 hl (by decide) rfl (fun ls hl => ?_)
        refine lv_aload_n hx hb dX8_round_90 rfl (lv_at hl 1 rfl) ?_
        refine kget (v := .ref (b0 (o0+8))) X hP ff_X8_32 0 rfl rfl dX8_round_91 ?_
        refine lv_iload_n hx hb dX8_round_94 rfl (lv_at hl 4 rfl) ?_
        obtain ⟨hc, hf⟩ := ofck hf
        refine klald (f := v_least) (n := 24) X hP 8 rfl hc dX8_round_95 ?_
        refine lv_aload_n hx hb dX8_round_96 rfl (lv_at hl 1 rfl) ?_
        refine lv_iload_n hx hb dX8_round_97 rfl (lv_at hl 3 rfl) ?_
        refine lv_iload_n hx hb dX8_round_98 rfl (lv_at hl 4 rfl) ?_
        refine lv_iconst (v := 1) hx hb dX8_round_99 (by decide) ?_
        obtain ⟨r40, hg_r40, hf⟩ := ofbind hf
        refine kcV (bs := [W_Model k b0 o0 v_row v_number v_saved v_place c35 c36 c37 c38 v_least v_greatest v_things v_changing v_overLow v_overHigh v_text v_length v_at v_readKey v_readCount v_keys v_h]) (br := []) (bc := [W_Model k b0 o0 v_row v_number v_saved v_place c35 c36 c37 c38 v_least v_greatest v_things v_changing v_overLow v_overHigh v_text v_length v_at v_readKey v_readCount v_keys v_h]) (bc' := [W_Model k b0 o0 v_row v_number v_saved v_place c35 c36 c37 c38 v_least v_greatest v_things v_changing v_overLow v_overHigh v_text v_length v_at v_readKey v_readCount v_keys v_h]) X hP hD hS (c_Model_others l D k t b0 o0 v_row v_number v_saved v_place c35 c36 c37 c38 v_least v_greatest v_things v_changing v_overLow v_overHigh v_text v_length v_at v_readKey v_readCount v_keys v_h i33 i34 1 N r40 hg_r40) mv_X8_132 hl [] [0] 8 ⟨rfl, rfl⟩ ⟨Nat.le_of_ble_eq_true rfl, Nat.le_of_ble_eq_true rfl⟩ rfl rfl rfl rfl rfl rfl rfl (Nat.le_of_ble_eq_true rfl) dX8_round_100 (fun H locs hP hD hS => ?_)
        have hP : va_P D vwCl [W_Model k b0 o0 v_row v_number v_saved v_place c35 c36 c37 c38 v_least v_greatest v_things v_changing v_overLow v_overHigh v_text v_length v_at v_readKey v_readCount v_keys v_h].flatten _ := hP
        have hD : va_D A [W_Model k b0 o0 v_row v_number v_saved v_place c35 c36 c37 c38 v_least v_greatest v_things v_changing v_overLow v_overHigh v_text v_length v_at v_readKey v_readCount v_keys v_h].flatten := hD
        refine lv_lsub hx hb dX8_round_103 ?_
        refine lv_lstore (lv' := [(6, .long ((v_least i34.toNatClampNeg) - r40)), (4, .long ((v_greatest i34.toNatClampNeg) - r39)), (0, .ref (b0 o0)), (1, .int i32), (2, .int i33), (3, .int i34)]) hx hb dX8_round_104 hl (by decide) rfl (fun ls hl => ?_)
        refine lv_iload_n hx hb dX8_round_106 rfl (lv_at hl 3 rfl) ?_
        refine lv_if_ne (tgt := 134) hx hb dX8_round_107 (by decide) (fun hc => ?_) (fun hc => ?_)
        · have hf := ofneg hf hc
          exact w_Model_round_J134 X b0 o0 v_row v_number v_saved v_place v_low v_high v_lowBefore v_highBefore v_least v_greatest v_things v_changing v_overLow v_overHigh v_text v_length v_at v_readKey v_readCount v_keys v_h N i33 i34 ((v_greatest i34.toNatClampNeg) - r39) ((v_least i34.toNatClampNeg) - r40) c35 c36 c37 c38 out _ ih _ _ _ hP hD hS (lv_sub hl [2, 4, 5, 1, 0] rfl) hf
        · have hf := ofpos hf hc
          refine lv_lload hx hb dX8_round_110 (lv_at hl 1 rfl) ?_
          refine lv_aload_n hx hb dX8_round_112 rfl (lv_at hl 2 rfl) ?_
          refine kget (v := .ref (b0 (o0+5))) X hP ff_X8_23 0 rfl rfl dX8_round_113 ?_
          refine lv_iload_n hx hb dX8_round_116 rfl (lv_at hl 4 rfl) ?_
          obtain ⟨hc, hf⟩ := ofck hf
          refine klald (f := c36) (n := 24) X hP 5 rfl hc dX8_round_117 ?_
          refine W.lcmp hx hb dX8_round_118 ?_
          refine lv_if_lt (tgt := 134) hx hb dX8_round_119 (by decide) (fun hc => ?_) (fun hc => ?_)
          · have hc := lgl.mp hc
            have hf := ofpos hf hc
            exact w_Model_round_J134 X b0 o0 v_row v_number v_saved v_place v_low v_high v_lowBefore v_highBefore v_least v_greatest v_things v_changing v_overLow v_overHigh v_text v_length v_at v_readKey v_readCount v_keys v_h N i33 i34 ((v_greatest i34.toNatClampNeg) - r39) ((v_least i34.toNatClampNeg) - r40) c35 c36 c37 c38 out _ ih _ _ _ hP hD hS (lv_sub hl [2, 4, 5, 1, 0] rfl) hf
          · have hc := fun z => hc (lgl.mpr z)
            have hf := ofneg hf hc
            refine lv_lload hx hb dX8_round_122 (lv_at hl 0 rfl) ?_
            refine lv_aload_n hx hb dX8_round_124 rfl (lv_at hl 2 rfl) ?_
            refine kget (v := .ref (b0 (o0+4))) X hP ff_X8_20 0 rfl rfl dX8_round_125 ?_
            refine lv_iload_n hx hb dX8_round_128 rfl (lv_at hl 4 rfl) ?_
            obtain ⟨hc, hf⟩ := ofck hf
            refine klald (f := c35) (n := 24) X hP 4 rfl hc dX8_round_129 ?_
            refine W.lcmp hx hb dX8_round_130 ?_
            refine lv_if_le (tgt := 138) hx hb dX8_round_131 (by decide) (fun hc => ?_) (fun hc => ?_)
            · have hc := lgm.mp hc
              have hf := ofpos hf hc
              refine lv_iconst (v := 0) hx hb dX8_round_138 (by decide) ?_
              exact w_Model_round_J139 X b0 o0 v_row v_number v_saved v_place v_low v_high v_lowBefore v_highBefore v_least v_greatest v_things v_changing v_overLow v_overHigh v_text v_length v_at v_readKey v_readCount v_keys v_h N i33 i34 ((v_greatest i34.toNatClampNeg) - r39) ((v_least i34.toNatClampNeg) - r40) 0 c35 c36 c37 c38 out _ ih _ _ _ hP hD hS (lv_sub hl [2, 4, 5, 1, 0] rfl) hf
            · have hc := fun z => hc (lgm.mpr z)
              have hf := ofneg hf hc
              exact w_Model_round_J134 X b0 o0 v_row v_number v_saved v_place v_low v_high v_lowBefore v_highBefore v_least v_greatest v_things v_changing v_overLow v_overHigh v_text v_length v_at v_readKey v_readCount v_keys v_h N i33 i34 ((v_greatest i34.toNatClampNeg) - r39) ((v_least i34.toNatClampNeg) - r40) c35 c36 c37 c38 out _ ih _ _ _ hP hD hS (lv_sub hl [2, 4, 5, 1, 0] rfl) hf
set_option maxRecDepth 100000 in
set_option maxHeartbeats 1000000 in
theorem w_Model_round_L44 {p : Program} {l : Launch} {e : Env} {s : State} {m : MethodId} {below : List Frame} {meth : Method} {c : Code} {args : Array Value} {A : Nat → Prop} {D : va_G} {k : Nat → ClassId} {t : Nat → Nat} (X : BX l D k t p s m args meth c cX8_round 8 RX8 (some .boolean) A) (b0 : Nat → Nat) (o0 : Nat) (v_row : FI) (v_number : FJ) (v_saved : Int32) (v_place : FI) (v_low : FJ) (v_high : FJ) (v_lowBefore : FJ) (v_highBefore : FJ) (v_least : FJ) (v_greatest : FJ) (v_things : Int32) (v_changing : Int32) (v_overLow : FJ) (v_overHigh : FJ) (v_text : FI) (v_length : Int32) (v_at : Int32) (v_readKey : FI) (v_readCount : FJ) (v_keys : Int32) (v_h : Int64) (N : Nat) (c24 : FJ) (c25 : FJ) (out : Int32 × FJ × FJ × FJ × FJ) (K210 : Int32 → Int32 → FJ → FJ → Option (Int32 × FJ × FJ × FJ × FJ)) (hK210 : ∀ (i20' : Int32) (i21' : Int32) (c22' : FJ) (c23' : FJ) (H : Heap) (locs : List Loc) (ls : Array Slot), va_P D vwCl [W_Model k b0 o0 v_row v_number v_saved v_place c22' c23' c24 c25 v_least v_greatest v_things v_changing v_overLow v_overHigh v_text v_length v_at v_readKey v_readCount v_keys v_h].flatten H → va_D A [W_Model k b0 o0 v_row v_number v_saved v_place c22' c23' c24 c25 v_least v_greatest v_things v_changing v_overLow v_overHigh v_text v_length v_at v_readKey v_readCount v_keys v_h].flatten → va_S A s.heap H locs → lv_has ls 8 [(1, .int i20')] → K210 i20' i21' c22' c23' = some out → W p l e rm_Model_round s m args below meth c H locs 0 0 (Q_Model_round below D k A args s b0 o0 v_row v_number v_saved v_place v_low v_high v_lowBefore v_highBefore v_least v_greatest v_things v_changing v_overLow v_overHigh v_text v_length v_at v_readKey v_readCount v_keys v_h out) (F0 m 210 ls [])) : ∀ (n : Nat) (i20 : Int32) (i21 : Int32) (c22 : FJ) (c23 : FJ) (H : Heap) (locs : List Loc) (ls : Array Slot), va_P D vwCl [W_Model k b0 o0 v_row v_number v_saved v_place c22 c23 c24 c25 v_least v_greatest v_things v_changing v_overLow v_overHigh v_text v_length v_at v_readKey v_readCount v_keys v_h].flatten H → va_D A [W_Model k b0 o0 v_row v_number v_saved v_place c22 c23 c24 c25 v_least v_greatest v_things v_changing v_overLow v_overHigh v_text v_length v_at v_readKey v_readCount v_keys v_h].flatten → va_S A s.heap H locs → lv_has ls 8 [(0, .ref (b0 o0)), (1, .int i20), (2, .int i21)] → f_Model_round_L44 N c24 c25 v_place v_least v_greatest v_things K210 n i20 i21 c22 c23 = some out → W p l e rm_Model_round s m args below meth c H locs 0 0 (Q_Model_round below D k A args s b0 o0 v_row v_number v_saved v_place v_low v_high v_lowBefore v_highBefore v_least v_greatest v_things v_changing v_overLow v_overHigh v_text v_length v_at v_readKey v_readCount v_keys v_h out) (F0 m 44 ls []) := by
  have hx := X.1.1
  have hb := X.1.2.1
  have hml := X.1.2.2.1
  have hown := X.1.2.2.2.1
  have hts := X.1.2.2.2.2
  intro n
  induction n with
  | zero =>
    intro i20 i21 c22 c23 H locs ls hP hD hS hl hf
    rw [f_Model_round_L44] at hf
    cases hf
  | succ n ih =>
    intro i20 i21 c22 c23 H locs ls hP hD hS hl hf
    rw [f_Model_round_L44] at hf
    refine lv_iload_n hx hb dX8_round_44 rfl (lv_at hl 2 rfl) ?_
    refine lv_aload_n hx hb dX8_round_45 rfl (lv_at hl 0 rfl) ?_
    refine kget (v := .int v_things) X hP ff_X8_127 0 rfl rfl dX8_round_46 ?_
    refine lv_icmp_ge (tgt := 210) hx hb dX8_round_49 (by decide) (fun hc => ?_) (fun hc => ?_)
    · have hf := ofpos hf hc
      exact hK210 i20 i21 c22 c23 _ _ _ hP hD hS (lv_sub hl [1] rfl) hf
    · have hf := ofneg hf hc
      refine lv_iconst (v := 0) hx hb dX8_round_52 (by decide) ?_
      refine lv_istore_n (lv' := [(3, .int 0), (0, .ref (b0 o0)), (1, .int i20), (2, .int i21)]) hx hb dX8_round_53 rfl hl (by decide) rfl (fun ls hl => ?_)
      refine w_Model_round_L54 X b0 o0 v_row v_number v_saved v_place v_low v_high v_lowBefore v_highBefore v_least v_greatest v_things v_changing v_overLow v_overHigh v_text v_length v_at v_readKey v_readCount v_keys v_h N i21 c24 c25 out _ ?_ N i20 0 c22 c23 _ _ _ hP hD hS (lv_sub hl [1, 2, 3, 0] rfl) hf
      · intro i71 i72 c73 c74 H locs ls hP hD hS hl hf
        refine lv_iinc (v := i21 + 1) (lv' := [(2, .int (i21 + 1)), (0, .ref (b0 o0)), (1, .int i71)]) hx hb dX8_round_204 hl (k := 2) rfl rfl (by decide) rfl (fun ls hl => ?_)
        refine lv_goto (tgt := 44) hx hb dX8_round_207 (by decide) ?_
        exact ih i71 (i21 + 1) c73 c74 _ _ _ hP hD hS (lv_sub hl [1, 2, 0] rfl) hf
set_option maxRecDepth 100000 in
set_option maxHeartbeats 1000000 in
theorem c_Model_round (l : Launch) (D : va_G) (k : Nat → ClassId) (t : Nat → Nat) (b0 : Nat → Nat) (o0 : Nat) (v_row : FI) (v_number : FJ) (v_saved : Int32) (v_place : FI) (v_low : FJ) (v_high : FJ) (v_lowBefore : FJ) (v_highBefore : FJ) (v_least : FJ) (v_greatest : FJ) (v_things : Int32) (v_changing : Int32) (v_overLow : FJ) (v_overHigh : FJ) (v_text : FI) (v_length : Int32) (v_at : Int32) (v_readKey : FI) (v_readCount : FJ) (v_keys : Int32) (v_h : Int64) (N : Nat) (out : Int32 × FJ × FJ × FJ × FJ) (hf : f_Model_round N v_place v_low v_high v_lowBefore v_highBefore v_least v_greatest v_things = some out) : CT l D k t yX8_round cX8_round 8 (some .boolean) rm_Model_round [.ref (b0 o0)] [W_Model k b0 o0 v_row v_number v_saved v_place v_low v_high v_lowBefore v_highBefore v_least v_greatest v_things v_changing v_overLow v_overHigh v_text v_length v_at v_readKey v_readCount v_keys v_h].flatten (some (.int out.1)) [W_Model k b0 o0 v_row v_number v_saved v_place out.2.1 out.2.2.1 out.2.2.2.1 out.2.2.2.2 v_least v_greatest v_things v_changing v_overLow v_overHigh v_text v_length v_at v_readKey v_readCount v_keys v_h].flatten := by
  refine kofW (by decide) (Nat.le_of_ble_eq_true rfl) ?_
  intro p e s m below meth c A ls X hP hD hS hl
  have hx := X.1.1
  have hb := X.1.2.1
  have hml := X.1.2.2.1
  have hown := X.1.2.2.2.1
  have hts := X.1.2.2.2.2
  have hl : lv_has ls 8 [(0, .ref (b0 o0))] := hl
  rw [f_Model_round] at hf
  refine lv_iconst (v := 0) hx hb dX8_round_0 (by decide) ?_
  refine lv_istore_n (lv' := [(1, .int 0), (0, .ref (b0 o0))]) hx hb dX8_round_1 rfl hl (by decide) rfl (fun ls hl => ?_)
  refine lv_iconst (v := 0) hx hb dX8_round_2 (by decide) ?_
  refine lv_istore_n (lv' := [(2, .int 0), (1, .int 0), (0, .ref (b0 o0))]) hx hb dX8_round_3 rfl hl (by decide) rfl (fun ls hl => ?_)
  refine w_Model_round_L4 X b0 o0 v_row v_number v_saved v_place v_low v_high v_lowBefore v_highBefore v_least v_greatest v_things v_changing v_overLow v_overHigh v_text v_length v_at v_readKey v_readCount v_keys v_h N 0 v_low v_high out _ ?_ N 0 v_lowBefore v_highBefore _ _ _ hP hD hS (lv_sub hl [2, 1, 0] rfl) hf
  · intro i11 c12 c13 H locs ls hP hD hS hl hf
    refine lv_iconst (v := 0) hx hb dX8_round_42 (by decide) ?_
    refine lv_istore_n (lv' := [(2, .int 0), (0, .ref (b0 o0)), (1, .int 0)]) hx hb dX8_round_43 rfl hl (by decide) rfl (fun ls hl => ?_)
    refine w_Model_round_L44 X b0 o0 v_row v_number v_saved v_place v_low v_high v_lowBefore v_highBefore v_least v_greatest v_things v_changing v_overLow v_overHigh v_text v_length v_at v_readKey v_readCount v_keys v_h N c12 c13 out _ ?_ N 0 0 v_low v_high _ _ _ hP hD hS (lv_sub hl [1, 2, 0] rfl) hf
    · intro i75 i76 c77 c78 H locs ls hP hD hS hl hf
      refine lv_iload_n hx hb dX8_round_210 rfl (lv_at hl 0 rfl) ?_
      obtain ⟨hz, hf⟩ := ofif hf
      have hf := Option.some.inj hf
      subst hf
      exact kzret (v := i75) X hP hD hS (zck_n hz) dX8_round_211
