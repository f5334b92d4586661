/-! Model_type: public int type(int); -/
abbrev rm_Model_type : Room := ({ frames := 1, cells := 0, slots := 0, locals := 22 } : Room)
def f_Model_type (x1 : Int32) (v_text : FI) (v_length : Int32) : Option (Int32 × FI × Int32) := (f_Model_in x1 0 255).bind (fun r1 => if r1 = 0 then some ((-3), v_text, v_length) else if v_length = 100 then some ((-5), v_text, v_length) else if ck v_length 100 = true then some ((v_length + 1), (upd v_text v_length.toNatClampNeg x1), (v_length + 1)) else none)
abbrev Q_Model_type (below : List Frame) (D : va_G) (k : Nat → ClassId) (A : Nat → Prop) (args : Array Value) (s : State) (b0 : Nat → Nat) (o0 : Nat) (v_row : FI) (v_number : FJ) (v_saved : Int32) (v_place : FI) (v_low : FJ) (v_high : FJ) (v_lowBefore : FJ) (v_highBefore : FJ) (v_least : FJ) (v_greatest : FJ) (v_things : Int32) (v_changing : Int32) (v_overLow : FJ) (v_overHigh : FJ) (v_text : FI) (v_length : Int32) (v_at : Int32) (v_readKey : FI) (v_readCount : FJ) (v_keys : Int32) (v_h : Int64) (out : Int32 × FI × Int32) : State → Prop := MQ below (QW D k A (some (.int out.1)) [W_Model k b0 o0 v_row v_number v_saved v_place v_low v_high v_lowBefore v_highBefore v_least v_greatest v_things v_changing v_overLow v_overHigh out.2.1 out.2.2 v_at v_readKey v_readCount v_keys v_h].flatten) args s 0 0 A
set_option maxRecDepth 100000 in
set_option maxHeartbeats 1000000 in
theorem c_Model_type (l : Launch) (D : va_G) (k : Nat → ClassId) (t : Nat → Nat) (b0 : Nat → Nat) (o0 : Nat) (v_row : FI) (v_number : FJ) (v_saved : Int32) (v_place : FI) (v_low : FJ) (v_high : FJ) (v_lowBefore : FJ) (v_highBefore : FJ) (v_least : FJ) (v_greatest : FJ) (v_things : Int32) (v_changing : Int32) (v_overLow : FJ) (v_overHigh : FJ) (v_text : FI) (v_length : Int32) (v_at : Int32) (v_readKey : FI) (v_readCount : FJ) (v_keys : Int32) (v_h : Int64) (x1 : Int32) (out : Int32 × FI × Int32) (hf : f_Model_type x1 v_text v_length = some out) : CT l D k t yX8_type cX8_type 2 (some .int) rm_Model_type [.ref (b0 o0), .int x1] [W_Model k b0 o0 v_row v_number v_saved v_place v_low v_high v_lowBefore v_highBefore v_least v_greatest v_things v_changing v_overLow v_overHigh v_text v_length v_at v_readKey v_readCount v_keys v_h].flatten (some (.int out.1)) [W_Model k b0 o0 v_row v_number v_saved v_place v_low v_high v_lowBefore v_highBefore v_least v_greatest v_things v_changing v_overLow v_overHigh out.2.1 out.2.2 v_at v_readKey v_readCount v_keys v_h].flatten := by
  refine kofW (by decide) (Nat.le_of_ble_eq_true rfl) ?_
  intro p e s m below meth c A ls X hP hD hS hl
  have N : Nat := 0
  have hx := X.1.1
  have hb := X.1.2.1
  have hml := X.1.2.2.1
  have hown := X.1.2.2.2.1
  have hts := X.1.2.2.2.2
  have hl : lv_has ls 2 [(0, .ref (b0 o0)), (1, .int x1)] := hl
  rw [f_Model_type] at hf
  refine lv_iload_n hx hb dX8_type_0 rfl (lv_at hl 1 rfl) ?_
  refine lv_iconst (v := 0) hx hb dX8_type_1 (by decide) ?_
  refine lv_sipush (v := 255) hx hb dX8_type_2 (by decide) ?_
  obtain ⟨r1, hg_r1, hf⟩ := ofbind hf
  refine kcS (bs := [W_Model k b0 o0 v_row v_number v_saved v_place v_low v_high v_lowBefore v_highBefore v_least v_greatest v_things v_changing v_overLow v_overHigh v_text v_length v_at v_readKey v_readCount v_keys v_h]) (br := [W_Model k b0 o0 v_row v_number v_saved v_place v_low v_high v_lowBefore v_highBefore v_least v_greatest v_things v_changing v_overLow v_overHigh v_text v_length v_at v_readKey v_readCount v_keys v_h]) (bc := []) (bc' := []) X hP hD hS (c_Model_in l D k t x1 0 255 r1 hg_r1) ms_X8_61 hl [0] [] ⟨rfl, rfl⟩ ⟨Nat.le_of_ble_eq_true rfl, Nat.le_of_ble_eq_true rfl⟩ rfl rfl rfl rfl (Nat.le_of_ble_eq_true rfl) dX8_type_5 (fun H locs hP hD hS => ?_)
  have hP : va_P D vwCl [W_Model k b0 o0 v_row v_number v_saved v_place v_low v_high v_lowBefore v_highBefore v_least v_greatest v_things v_changing v_overLow v_overHigh v_text v_length v_at v_readKey v_readCount v_keys v_h].flatten _ := hP
  have hD : va_D A [W_Model k b0 o0 v_row v_number v_saved v_place v_low v_high v_lowBefore v_highBefore v_least v_greatest v_things v_changing v_overLow v_overHigh v_text v_length v_at v_readKey v_readCount v_keys v_h].flatten := hD
  refine lv_if_ne (tgt := 14) hx hb dX8_type_8 (by decide) (fun hc => ?_) (fun hc => ?_)
  · have hf := ofneg hf hc
    refine lv_aload_n hx hb dX8_type_14 rfl (lv_at hl 0 rfl) ?_
    refine kget (v := .int v_length) X hP ff_X8_175 0 rfl rfl dX8_type_15 ?_
    refine lv_bipush (v := 100) hx hb dX8_type_18 (by decide) ?_
    refine lv_icmp_ne (tgt := 26) hx hb dX8_type_20 (by decide) (fun hc => ?_) (fun hc => ?_)
    · have hf := ofneg hf hc
      refine lv_aload_n hx hb dX8_type_26 rfl (lv_at hl 0 rfl) ?_
      refine kget (v := .ref (b0 (o0+12))) X hP ff_X8_44 0 rfl rfl dX8_type_27 ?_
      refine lv_aload_n hx hb dX8_type_30 rfl (lv_at hl 0 rfl) ?_
      refine kget (v := .int v_length) X hP ff_X8_175 0 rfl rfl dX8_type_31 ?_
      refine lv_iload_n hx hb dX8_type_34 rfl (lv_at hl 1 rfl) ?_
      obtain ⟨hc, hf⟩ := ofck hf
      generalize hc2 : upd v_text v_length.toNatClampNeg x1 = c2 at hf
      refine kiast2 (f := v_text) (n := 100) (g := c2) X hP hD hS 12 rfl hc hc2 dX8_type_35 (fun H locs hP hD hS => ?_)
      have hP : va_P D vwCl [W_Model k b0 o0 v_row v_number v_saved v_place v_low v_high v_lowBefore v_highBefore v_least v_greatest v_things v_changing v_overLow v_overHigh c2 v_length v_at v_readKey v_readCount v_keys v_h].flatten _ := hP
      have hD : va_D A [W_Model k b0 o0 v_row v_number v_saved v_place v_low v_high v_lowBefore v_highBefore v_least v_greatest v_things v_changing v_overLow v_overHigh c2 v_length v_at v_readKey v_readCount v_keys v_h].flatten := hD
      refine lv_aload_n hx hb dX8_type_36 rfl (lv_at hl 0 rfl) ?_
      refine lv_dup hx hb dX8_type_37 rfl ?_
      refine kget (v := .int v_length) X hP ff_X8_175 0 rfl rfl dX8_type_38 ?_
      refine lv_iconst (v := 1) hx hb dX8_type_41 (by decide) ?_
      refine lv_iadd hx hb dX8_type_42 ?_
      generalize hy3 : v_length + 1 = y3 at hf ⊢
      refine kputi (v := y3) X hP hD hS fp_X8_175 0 rfl (Nat.le_of_ble_eq_true rfl) dX8_type_43 (fun H locs hP hD hS => ?_)
      have hP : va_P D vwCl [W_Model k b0 o0 v_row v_number v_saved v_place v_low v_high v_lowBefore v_highBefore v_least v_greatest v_things v_changing v_overLow v_overHigh c2 y3 v_at v_readKey v_readCount v_keys v_h].flatten _ := hP
      have hD : va_D A [W_Model k b0 o0 v_row v_number v_saved v_place v_low v_high v_lowBefore v_highBefore v_least v_greatest v_things v_changing v_overLow v_overHigh c2 y3 v_at v_readKey v_readCount v_keys v_h].flatten := hD
      refine lv_aload_n hx hb dX8_type_46 rfl (lv_at hl 0 rfl) ?_
      refine kget (v := .int y3) X hP ff_X8_175 0 rfl rfl dX8_type_47 ?_
      have hf := Option.some.inj hf
      subst hf
      exact kiret (v := y3) X hP hD hS dX8_type_50
    · have hf := ofpos hf hc
      refine lv_bipush (v := (-5)) hx hb dX8_type_23 (by decide) ?_
      have hf := Option.some.inj hf
      subst hf
      exact kiret (v := (-5)) X hP hD hS dX8_type_25
  · have hf := ofpos hf hc
    refine lv_bipush (v := (-3)) hx hb dX8_type_11 (by decide) ?_
    have hf := Option.some.inj hf
    subst hf
    exact kiret (v := (-3)) X hP hD hS dX8_type_13
/-! Model_clearText: public int clearText(); -/
abbrev rm_Model_clearText : Room := ({ frames := 0, cells := 0, slots := 0, locals := 0 } : Room)
def f_Model_clearText (v_length : Int32) : Option (Int32 × Int32) := some (v_length, 0)
abbrev Q_Model_clearText (below : List Frame) (D : va_G) (k : Nat → ClassId) (A : Nat → Prop) (args : Array Value) (s : State) (b0 : Nat → Nat) (o0 : Nat) (v_row : FI) (v_number : FJ) (v_saved : Int32) (v_place : FI) (v_low : FJ) (v_high : FJ) (v_lowBefore : FJ) (v_highBefore : FJ) (v_least : FJ) (v_greatest : FJ) (v_things : Int32) (v_changing : Int32) (v_overLow : FJ) (v_overHigh : FJ) (v_text : FI) (v_length : Int32) (v_at : Int32) (v_readKey : FI) (v_readCount : FJ) (v_keys : Int32) (v_h : Int64) (out : Int32 × Int32) : State → Prop := MQ below (QW D k A (some (.int out.1)) [W_Model k b0 o0 v_row v_number v_saved v_place v_low v_high v_lowBefore v_highBefore v_least v_greatest v_things v_changing v_overLow v_overHigh v_text out.2 v_at v_readKey v_readCount v_keys v_h].flatten) args s 0 0 A
set_option maxRecDepth 100000 in
set_option maxHeartbeats 1000000 in
theorem c_Model_clearText (l : Launch) (D : va_G) (k : Nat → ClassId) (t : Nat → Nat) (b0 : Nat → Nat) (o0 : Nat) (v_row : FI) (v_number : FJ) (v_saved : Int32) (v_place : FI) (v_low : FJ) (v_high : FJ) (v_lowBefore : FJ) (v_highBefore : FJ) (v_least : FJ) (v_greatest : FJ) (v_things : Int32) (v_changing : Int32) (v_overLow : FJ) (v_overHigh : FJ) (v_text : FI) (v_length : Int32) (v_at : Int32) (v_readKey : FI) (v_readCount : FJ) (v_keys : Int32) (v_h : Int64) (out : Int32 × Int32) (hf : f_Model_clearText v_length = some out) : CT l D k t yX8_clearText cX8_clearText 2 (some .int) rm_Model_clearText [.ref (b0 o0)] [W_Model k b0 o0 v_row v_number v_saved v_place v_low v_high v_lowBefore v_highBefore v_least v_greatest v_things v_changing v_overLow v_overHigh v_text v_length v_at v_readKey v_readCount v_keys v_h].flatten (some (.int out.1)) [W_Model k b0 o0 v_row v_number v_saved v_place v_low v_high v_lowBefore v_highBefore v_least v_greatest v_things v_changing v_overLow v_overHigh v_text out.2 v_at v_readKey v_readCount v_keys v_h].flatten := by
  refine kofW (by decide) (Nat.le_of_ble_eq_true rfl) ?_
  intro p e s m below meth c A ls X hP hD hS hl
  have N : Nat := 0
  have hx := X.1.1
  have hb := X.1.2.1
  have hml := X.1.2.2.1
  have hown := X.1.2.2.2.1
  have hts := X.1.2.2.2.2
  have hl : lv_has ls 2 [(0, .ref (b0 o0))] := hl
  rw [f_Model_clearText] at hf
  refine lv_aload_n hx hb dX8_clearText_0 rfl (lv_at hl 0 rfl) ?_
  refine kget (v := .int v_length) X hP ff_X8_175 0 rfl rfl dX8_clearText_1 ?_
  refine lv_istore_n (lv' := [(1, .int v_length), (0, .ref (b0 o0))]) hx hb dX8_clearText_4 rfl hl (by decide) rfl (fun ls hl => ?_)
  refine lv_aload_n hx hb dX8_clearText_5 rfl (lv_at hl 1 rfl) ?_
  refine lv_iconst (v := 0) hx hb dX8_clearText_6 (by decide) ?_
  refine kputi (v := 0) X hP hD hS fp_X8_175 0 rfl (Nat.le_of_ble_eq_true rfl) dX8_clearText_7 (fun H locs hP hD hS => ?_)
  have hP : va_P D vwCl [W_Model k b0 o0 v_row v_number v_saved v_place v_low v_high v_lowBefore v_highBefore v_least v_greatest v_things v_changing v_overLow v_overHigh v_text 0 v_at v_readKey v_readCount v_keys v_h].flatten _ := hP
  have hD : va_D A [W_Model k b0 o0 v_row v_number v_saved v_place v_low v_high v_lowBefore v_highBefore v_least v_greatest v_things v_changing v_overLow v_overHigh v_text 0 v_at v_readKey v_readCount v_keys v_h].flatten := hD
  refine lv_iload_n hx hb dX8_clearText_10 rfl (lv_at hl 0 rfl) ?_
  have hf := Option.some.inj hf
  subst hf
  exact kiret (v := v_length) X hP hD hS dX8_clearText_11
