/-! Model_adds: private int adds(int); -/
abbrev rm_Model_adds : Room := ({ frames := 0, cells := 0, slots := 0, locals := 0 } : Room)
def f_Model_adds (x1 : Int32) (v_row : FI) (v_number : FJ) : Option (Int32 × FI × FJ) := if ck 6 1002 = true then if ck (7 + (v_row (6 : Int32).toNatClampNeg)) 1002 = true then if ck 6 1002 = true then if ck ((upd v_row (7 + (v_row (6 : Int32).toNatClampNeg)).toNatClampNeg x1) (6 : Int32).toNatClampNeg) 576 = true then if ck 6 1002 = true then if ck (32 + ((upd v_row (7 + (v_row (6 : Int32).toNatClampNeg)).toNatClampNeg x1) (6 : Int32).toNatClampNeg)) 576 = true then if ck 6 1002 = true then if ck 6 1002 = true then if ck 6 1002 = true then some (((upd (upd v_row (7 + (v_row (6 : Int32).toNatClampNeg)).toNatClampNeg x1) (6 : Int32).toNatClampNeg (((upd v_row (7 + (v_row (6 : Int32).toNatClampNeg)).toNatClampNeg x1) (6 : Int32).toNatClampNeg) + 1)) (6 : Int32).toNatClampNeg) - 1, (upd (upd v_row (7 + (v_row (6 : Int32).toNatClampNeg)).toNatClampNeg x1) (6 : Int32).toNatClampNeg (((upd v_row (7 + (v_row (6 : Int32).toNatClampNeg)).toNatClampNeg x1) (6 : Int32).toNatClampNeg) + 1)), (vp_updL (vp_updL v_number ((upd v_row (7 + (v_row (6 : Int32).toNatClampNeg)).toNatClampNeg x1) (6 : Int32).toNatClampNeg).toNatClampNeg 0) (32 + ((upd v_row (7 + (v_row (6 : Int32).toNatClampNeg)).toNatClampNeg x1) (6 : Int32).toNatClampNeg)).toNatClampNeg 0)) else none else none else none else none else none else none else none else none else none
abbrev Q_Model_adds (below : List Frame) (D : va_G) (k : Nat → ClassId) (A : Nat → Prop) (args : Array Value) (s : State) (b0 : Nat → Nat) (o0 : Nat) (v_row : FI) (v_number : FJ) (v_saved : Int32) (v_place : FI) (v_low : FJ) (v_high : FJ) (v_lowBefore : FJ) (v_highBefore : FJ) (v_least : FJ) (v_greatest : FJ) (v_things : Int32) (v_changing : Int32) (v_overLow : FJ) (v_overHigh : FJ) (v_text : FI) (v_length : Int32) (v_at : Int32) (v_readKey : FI) (v_readCount : FJ) (v_keys : Int32) (v_h : Int64) (out : Int32 × FI × FJ) : State → Prop := MQ below (QW D k A (some (.int out.1)) [W_Model k b0 o0 out.2.1 out.2.2 v_saved v_place v_low v_high v_lowBefore v_highBefore v_least v_greatest v_things v_changing v_overLow v_overHigh v_text v_length v_at v_readKey v_readCount v_keys v_h].flatten) args s 0 0 A
set_option maxRecDepth 100000 in
set_option maxHeartbeats 1000000 in
theorem c_Model_adds (l : Launch) (D : va_G) (k : Nat → ClassId) (t : Nat → Nat) (b0 : Nat → Nat) (o0 : Nat) (v_row : FI) (v_number : FJ) (v_saved : Int32) (v_place : FI) (v_low : FJ) (v_high : FJ) (v_lowBefore : FJ) (v_highBefore : FJ) (v_least : FJ) (v_greatest : FJ) (v_things : Int32) (v_changing : Int32) (v_overLow : FJ) (v_overHigh : FJ) (v_text : FI) (v_length : Int32) (v_at : Int32) (v_readKey : FI) (v_readCount : FJ) (v_keys : Int32) (v_h : Int64) (x1 : Int32) (out : Int32 × FI × FJ) (hf : f_Model_adds x1 v_row v_number = some out) : CT l D k t yX8_adds cX8_adds 2 (some .int) rm_Model_adds [.ref (b0 o0), .int x1] [W_Model k b0 o0 v_row v_number v_saved v_place v_low v_high v_lowBefore v_highBefore v_least v_greatest v_things v_changing v_overLow v_overHigh v_text v_length v_at v_readKey v_readCount v_keys v_h].flatten (some (.int out.1)) [W_Model k b0 o0 out.2.1 out.2.2 v_saved v_place v_low v_high v_lowBefore v_highBefore v_least v_greatest v_things v_changing v_overLow v_overHigh v_text v_length v_at v_readKey v_readCount v_keys v_h].flatten := by
  refine kofW (by decide) (Nat.le_of_ble_eq_true rfl) ?_
  intro p e s m below meth c A ls X hP hD hS hl
  have N : Nat := 0
  have hx := X.1.1
  have hb := X.1.2.1
  have hml := X.1.2.2.1
  have hown := X.1.2.2.2.1
  have hts := X.1.2.2.2.2
  have hl : lv_has ls 2 [(0, .ref (b0 o0)), (1, .int x1)] := hl
  rw [f_Model_adds] at hf
  refine lv_aload_n hx hb dX8_adds_0 rfl (lv_at hl 0 rfl) ?_
  refine kget (v := .ref (b0 (o0+1))) X hP ff_X8_7 0 rfl rfl dX8_adds_1 ?_
  refine lv_bipush (v := 7) hx hb dX8_adds_4 (by decide) ?_
  refine lv_aload_n hx hb dX8_adds_6 rfl (lv_at hl 0 rfl) ?_
  refine kget (v := .ref (b0 (o0+1))) X hP ff_X8_7 0 rfl rfl dX8_adds_7 ?_
  refine lv_bipush (v := 6) hx hb dX8_adds_10 (by decide) ?_
  obtain ⟨hc, hf⟩ := ofck hf
  refine kiald (f := v_row) (n := 1002) X hP 1 rfl hc dX8_adds_12 ?_
  refine lv_iadd hx hb dX8_adds_13 ?_
  refine lv_iload_n hx hb dX8_adds_14 rfl (lv_at hl 1 rfl) ?_
  obtain ⟨hc, hf⟩ := ofck hf
  generalize hc1 : upd v_row (7 + (v_row (6 : Int32).toNatClampNeg)).toNatClampNeg x1 = c1 at hf
  refine kiast2 (f := v_row) (n := 1002) (g := c1) X hP hD hS 1 rfl hc hc1 dX8_adds_15 (fun H locs hP hD hS => ?_)
  have hP : va_P D vwCl [W_Model k b0 o0 c1 v_number v_saved v_place v_low v_high v_lowBefore v_highBefore v_least v_greatest v_things v_changing v_overLow v_overHigh v_text v_length v_at v_readKey v_readCount v_keys v_h].flatten _ := hP
  have hD : va_D A [W_Model k b0 o0 c1 v_number v_saved v_place v_low v_high v_lowBefore v_highBefore v_least v_greatest v_things v_changing v_overLow v_overHigh v_text v_length v_at v_readKey v_readCount v_keys v_h].flatten := hD
  refine lv_aload_n hx hb dX8_adds_16 rfl (lv_at hl 0 rfl) ?_
  refine kget (v := .ref (b0 (o0+2))) X hP ff_X8_13 0 rfl rfl dX8_adds_17 ?_
  refine lv_aload_n hx hb dX8_adds_20 rfl (lv_at hl 0 rfl) ?_
  refine kget (v := .ref (b0 (o0+1))) X hP ff_X8_7 0 rfl rfl dX8_adds_21 ?_
  refine lv_bipush (v := 6) hx hb dX8_adds_24 (by decide) ?_
  obtain ⟨hc, hf⟩ := ofck hf
  refine kiald (f := c1) (n := 1002) X hP 1 rfl hc dX8_adds_26 ?_
  refine lv_lconst (v := 0) hx hb dX8_adds_27 (by decide) ?_
  obtain ⟨hc, hf⟩ := ofck hf
  generalize hc2 : vp_updL v_number (c1 (6 : Int32).toNatClampNeg).toNatClampNeg 0 = c2 at hf
  refine klast2 (f := v_number) (n := 576) (g := c2) X hP hD hS 2 rfl hc hc2 dX8_adds_28 (fun H locs hP hD hS => ?_)
  have hP : va_P D vwCl [W_Model k b0 o0 c1 c2 v_saved v_place v_low v_high v_lowBefore v_highBefore v_least v_greatest v_things v_changing v_overLow v_overHigh v_text v_length v_at v_readKey v_readCount v_keys v_h].flatten _ := hP
  have hD : va_D A [W_Model k b0 o0 c1 c2 v_saved v_place v_low v_high v_lowBefore v_highBefore v_least v_greatest v_things v_changing v_overLow v_overHigh v_text v_length v_at v_readKey v_readCount v_keys v_h].flatten := hD
  refine lv_aload_n hx hb dX8_adds_29 rfl (lv_at hl 0 rfl) ?_
  refine kget (v := .ref (b0 (o0+2))) X hP ff_X8_13 0 rfl rfl dX8_adds_30 ?_
  refine lv_bipush (v := 32) hx hb dX8_adds_33 (by decide) ?_
  refine lv_aload_n hx hb dX8_adds_35 rfl (lv_at hl 0 rfl) ?_
  refine kget (v := .ref (b0 (o0+1))) X hP ff_X8_7 0 rfl rfl dX8_adds_36 ?_
  refine lv_bipush (v := 6) hx hb dX8_adds_39 (by decide) ?_
  obtain ⟨hc, hf⟩ := ofck hf
  refine kiald (f := c1) (n := 1002) X hP 1 rfl hc dX8_adds_41 ?_
  refine lv_iadd hx hb dX8_adds_42 ?_
  refine lv_lconst (v := 0) hx hb dX8_adds_43 (by decide) ?_
  obtain ⟨hc, hf⟩ := ofck hf
  generalize hc3 : vp_updL c2 (32 + (c1 (6 : Int32).toNatClampNeg)).toNatClampNeg 0 = c3 at hf
  refine klast2 (f := c2) (n := 576) (g := c3) X hP hD hS 2 rfl hc hc3 dX8_adds_44 (fun H locs hP hD hS => ?_)
  have hP : va_P D vwCl [W_Model k b0 o0 c1 c3 v_saved v_place v_low v_high v_lowBefore v_highBefore v_least v_greatest v_things v_changing v_overLow v_overHigh v_text v_length v_at v_readKey v_readCount v_keys v_h].flatten _ := hP
  have hD : va_D A [W_Model k b0 o0 c1 c3 v_saved v_place v_low v_high v_lowBefore v_highBefore v_least v_greatest v_things v_changing v_overLow v_overHigh v_text v_length v_at v_readKey v_readCount v_keys v_h].flatten := hD
  refine lv_aload_n hx hb dX8_adds_45 rfl (lv_at hl 0 rfl) ?_
  refine kget (v := .ref (b0 (o0+1))) X hP ff_X8_7 0 rfl rfl dX8_adds_46 ?_
  refine lv_bipush (v := 6) hx hb dX8_adds_49 (by decide) ?_
  refine lv_dup2_11 hx hb dX8_adds_51 rfl rfl ?_
  obtain ⟨hc, hf⟩ := ofck hf
  refine kiald (f := c1) (n := 1002) X hP 1 rfl hc dX8_adds_52 ?_
  refine lv_iconst (v := 1) hx hb dX8_adds_53 (by decide) ?_
  refine lv_iadd hx hb dX8_adds_54 ?_
  obtain ⟨hc, hf⟩ := ofck hf
  generalize hc4 : upd c1 (6 : Int32).toNatClampNeg ((c1 (6 : Int32).toNatClampNeg) + 1) = c4 at hf
  refine kiast2 (f := c1) (n := 1002) (g := c4) X hP hD hS 1 rfl hc hc4 dX8_adds_55 (fun H locs hP hD hS => ?_)
  have hP : va_P D vwCl [W_Model k b0 o0 c4 c3 v_saved v_place v_low v_high v_lowBefore v_highBefore v_least v_greatest v_things v_changing v_overLow v_overHigh v_text v_length v_at v_readKey v_readCount v_keys v_h].flatten _ := hP
  have hD : va_D A [W_Model k b0 o0 c4 c3 v_saved v_place v_low v_high v_lowBefore v_highBefore v_least v_greatest v_things v_changing v_overLow v_overHigh v_text v_length v_at v_readKey v_readCount v_keys v_h].flatten := hD
  refine lv_aload_n hx hb dX8_adds_56 rfl (lv_at hl 0 rfl) ?_
  refine kget (v := .ref (b0 (o0+1))) X hP ff_X8_7 0 rfl rfl dX8_adds_57 ?_
  refine lv_bipush (v := 6) hx hb dX8_adds_60 (by decide) ?_
  obtain ⟨hc, hf⟩ := ofck hf
  refine kiald (f := c4) (n := 1002) X hP 1 rfl hc dX8_adds_62 ?_
  refine lv_iconst (v := 1) hx hb dX8_adds_63 (by decide) ?_
  refine lv_isub hx hb dX8_adds_64 ?_
  have hf := Option.some.inj hf
  subst hf
  exact kiret (v := (c4 (6 : Int32).toNatClampNeg) - 1) X hP hD hS dX8_adds_65
/-! Model_addFlow: public int addFlow(int); -/
abbrev rm_Model_addFlow : Room := ({ frames := 2, cells := 0, slots := 0, locals := 44 } : Room)
def f_Model_addFlow (N : Nat) (x1 : Int32) (v_row : FI) (v_number : FJ) (v_saved : Int32) : Option (Int32 × FI × FJ × Int32) := (f_Model_in x1 0 999).bind (fun r1 => if r1 = 0 then some ((-3), v_row, v_number, v_saved) else (f_Model_find N x1 v_row).bind (fun r2 => if r2 = (-1) then if ck 6 1002 = true then if (v_row (6 : Int32).toNatClampNeg) = 16 then some ((-5), v_row, v_number, v_saved) else (f_Model_saves N v_row v_number v_saved).bind (fun r3 => (f_Model_adds x1 r3.1 r3.2.1).bind (fun r4 => some (r4.1, r4.2.1, r4.2.2, r3.2.2))) else none else some ((-4), v_row, v_number, v_saved)))
abbrev Q_Model_addFlow (below : List Frame) (D : va_G) (k : Nat → ClassId) (A : Nat → Prop) (args : Array Value) (s : State) (b0 : Nat → Nat) (o0 : Nat) (v_row : FI) (v_number : FJ) (v_saved : Int32) (v_place : FI) (v_low : FJ) (v_high : FJ) (v_lowBefore : FJ) (v_highBefore : FJ) (v_least : FJ) (v_greatest : FJ) (v_things : Int32) (v_changing : Int32) (v_overLow : FJ) (v_overHigh : FJ) (v_text : FI) (v_length : Int32) (v_at : Int32) (v_readKey : FI) (v_readCount : FJ) (v_keys : Int32) (v_h : Int64) (out : Int32 × FI × FJ × Int32) : State → Prop := MQ below (QW D k A (some (.int out.1)) [W_Model k b0 o0 out.2.1 out.2.2.1 out.2.2.2 v_place v_low v_high v_lowBefore v_highBefore v_least v_greatest v_things v_changing v_overLow v_overHigh v_text v_length v_at v_readKey v_readCount v_keys v_h].flatten) args s 0 0 A
set_option maxRecDepth 100000 in
set_option maxHeartbeats 1000000 in
theorem c_Model_addFlow (l : Launch) (D : va_G) (k : Nat → ClassId) (t : Nat → Nat) (b0 : Nat → Nat) (o0 : Nat) (v_row : FI) (v_number : FJ) (v_saved : Int32) (v_place : FI) (v_low : FJ) (v_high : FJ) (v_lowBefore : FJ) (v_highBefore : FJ) (v_least : FJ) (v_greatest : FJ) (v_things : Int32) (v_changing : Int32) (v_overLow : FJ) (v_overHigh : FJ) (v_text : FI) (v_length : Int32) (v_at : Int32) (v_readKey : FI) (v_readCount : FJ) (v_keys : Int32) (v_h : Int64) (x1 : Int32) (N : Nat) (out : Int32 × FI × FJ × Int32) (hf : f_Model_addFlow N x1 v_row v_number v_saved = some out) : CT l D k t yX8_addFlow cX8_addFlow 2 (some .int) rm_Model_addFlow [.ref (b0 o0), .int x1] [W_Model k b0 o0 v_row v_number v_saved v_place v_low v_high v_lowBefore v_highBefore v_least v_greatest v_things v_changing v_overLow v_overHigh v_text v_length v_at v_readKey v_readCount v_keys v_h].flatten (some (.int out.1)) [W_Model k b0 o0 out.2.1 out.2.2.1 out.2.2.2 v_place v_low v_high v_lowBefore v_highBefore v_least v_greatest v_things v_changing v_overLow v_overHigh v_text v_length v_at v_readKey v_readCount v_keys v_h].flatten := by
  refine kofW (by decide) (Nat.le_of_ble_eq_true rfl) ?_
  intro p e s m below meth c A ls X hP hD hS hl
  have hx := X.1.1
  have hb := X.1.2.1
  have hml := X.1.2.2.1
  have hown := X.1.2.2.2.1
  have hts := X.1.2.2.2.2
  have hl : lv_has ls 2 [(0, .ref (b0 o0)), (1, .int x1)] := hl
  rw [f_Model_addFlow] at hf
  refine lv_iload_n hx hb dX8_addFlow_0 rfl (lv_at hl 1 rfl) ?_
  refine lv_iconst (v := 0) hx hb dX8_addFlow_1 (by decide) ?_
  refine lv_sipush (v := 999) hx hb dX8_addFlow_2 (by decide) ?_
  obtain ⟨r1, hg_r1, hf⟩ := ofbind hf
  refine kcS (bs := [W_Model k b0 o0 v_row v_number v_saved v_place v_low v_high v_lowBefore v_highBefore v_least v_greatest v_things v_changing v_overLow v_overHigh v_text v_length v_at v_readKey v_readCount v_keys v_h]) (br := [W_Model k b0 o0 v_row v_number v_saved v_place v_low v_high v_lowBefore v_highBefore v_least v_greatest v_things v_changing v_overLow v_overHigh v_text v_length v_at v_readKey v_readCount v_keys v_h]) (bc := []) (bc' := []) X hP hD hS (c_Model_in l D k t x1 0 999 r1 hg_r1) ms_X8_61 hl [0] [] ⟨rfl, rfl⟩ ⟨Nat.le_of_ble_eq_true rfl, Nat.le_of_ble_eq_true rfl⟩ rfl rfl rfl rfl (Nat.le_of_ble_eq_true rfl) dX8_addFlow_5 (fun H locs hP hD hS => ?_)
  have hP : va_P D vwCl [W_Model k b0 o0 v_row v_number v_saved v_place v_low v_high v_lowBefore v_highBefore v_least v_greatest v_things v_changing v_overLow v_overHigh v_text v_length v_at v_readKey v_readCount v_keys v_h].flatten _ := hP
  have hD : va_D A [W_Model k b0 o0 v_row v_number v_saved v_place v_low v_high v_lowBefore v_highBefore v_least v_greatest v_things v_changing v_overLow v_overHigh v_text v_length v_at v_readKey v_readCount v_keys v_h].flatten := hD
  refine lv_if_ne (tgt := 14) hx hb dX8_addFlow_8 (by decide) (fun hc => ?_) (fun hc => ?_)
  · have hf := ofneg hf hc
    refine lv_aload_n hx hb dX8_addFlow_14 rfl (lv_at hl 0 rfl) ?_
    refine lv_iload_n hx hb dX8_addFlow_15 rfl (lv_at hl 1 rfl) ?_
    obtain ⟨r2, hg_r2, hf⟩ := ofbind hf
    refine kcV (bs := [W_Model k b0 o0 v_row v_number v_saved v_place v_low v_high v_lowBefore v_highBefore v_least v_greatest v_things v_changing v_overLow v_overHigh v_text v_length v_at v_readKey v_readCount v_keys v_h]) (br := []) (bc := [W_Model k b0 o0 v_row v_number v_saved v_place v_low v_high v_lowBefore v_highBefore v_least v_greatest v_things v_changing v_overLow v_overHigh v_text v_length v_at v_readKey v_readCount v_keys v_h]) (bc' := [W_Model k b0 o0 v_row v_number v_saved v_place v_low v_high v_lowBefore v_highBefore v_least v_greatest v_things v_changing v_overLow v_overHigh v_text v_length v_at v_readKey v_readCount v_keys v_h]) X hP hD hS (c_Model_find l D k t b0 o0 v_row v_number v_saved v_place v_low v_high v_lowBefore v_highBefore v_least v_greatest v_things v_changing v_overLow v_overHigh v_text v_length v_at v_readKey v_readCount v_keys v_h x1 N r2 hg_r2) mv_X8_72 hl [] [0] 8 ⟨rfl, rfl⟩ ⟨Nat.le_of_ble_eq_true rfl, Nat.le_of_ble_eq_true rfl⟩ rfl rfl rfl rfl rfl rfl rfl (Nat.le_of_ble_eq_true rfl) dX8_addFlow_16 (fun H locs hP hD hS => ?_)
    have hP : va_P D vwCl [W_Model k b0 o0 v_row v_number v_saved v_place v_low v_high v_lowBefore v_highBefore v_least v_greatest v_things v_changing v_overLow v_overHigh v_text v_length v_at v_readKey v_readCount v_keys v_h].flatten _ := hP
    have hD : va_D A [W_Model k b0 o0 v_row v_number v_saved v_place v_low v_high v_lowBefore v_highBefore v_least v_greatest v_things v_changing v_overLow v_overHigh v_text v_length v_at v_readKey v_readCount v_keys v_h].flatten := hD
    refine lv_iconst (v := (-1)) hx hb dX8_addFlow_19 (by decide) ?_
    refine lv_icmp_eq (tgt := 26) hx hb dX8_addFlow_20 (by decide) (fun hc => ?_) (fun hc => ?_)
    · have hf := ofpos hf hc
      refine lv_aload_n hx hb dX8_addFlow_26 rfl (lv_at hl 0 rfl) ?_
      refine kget (v := .ref (b0 (o0+1))) X hP ff_X8_7 0 rfl rfl dX8_addFlow_27 ?_
      refine lv_bipush (v := 6) hx hb dX8_addFlow_30 (by decide) ?_
      obtain ⟨hc, hf⟩ := ofck hf
      refine kiald (f := v_row) (n := 1002) X hP 1 rfl hc dX8_addFlow_32 ?_
      refine lv_bipush (v := 16) hx hb dX8_addFlow_33 (by decide) ?_
      refine lv_icmp_ne (tgt := 41) hx hb dX8_addFlow_35 (by decide) (fun hc => ?_) (fun hc => ?_)
      · have hf := ofneg hf hc
        refine lv_aload_n hx hb dX8_addFlow_41 rfl (lv_at hl 0 rfl) ?_
        obtain ⟨r3, hg_r3, hf⟩ := ofbind hf
        refine kcV (bs := [W_Model k b0 o0 v_row v_number v_saved v_place v_low v_high v_lowBefore v_highBefore v_least v_greatest v_things v_changing v_overLow v_overHigh v_text v_length v_at v_readKey v_readCount v_keys v_h]) (br := []) (bc := [W_Model k b0 o0 v_row v_number v_saved v_place v_low v_high v_lowBefore v_highBefore v_least v_greatest v_things v_changing v_overLow v_overHigh v_text v_length v_at v_readKey v_readCount v_keys v_h]) (bc' := [W_Model k b0 o0 r3.1 r3.2.1 r3.2.2 v_place v_low v_high v_lowBefore v_highBefore v_least v_greatest v_things v_changing v_overLow v_overHigh v_text v_length v_at v_readKey v_readCount v_keys v_h]) X hP hD hS (c_Model_saves l D k t b0 o0 v_row v_number v_saved v_place v_low v_high v_lowBefore v_highBefore v_least v_greatest v_things v_changing v_overLow v_overHigh v_text v_length v_at v_readKey v_readCount v_keys v_h N r3 hg_r3) mv_X8_65 hl [] [0] 8 ⟨rfl, rfl⟩ ⟨Nat.le_of_ble_eq_true rfl, Nat.le_of_ble_eq_true rfl⟩ rfl rfl rfl rfl rfl rfl rfl (Nat.le_of_ble_eq_true rfl) dX8_addFlow_42 (fun H locs hP hD hS => ?_)
        have hP : va_P D vwCl [W_Model k b0 o0 r3.1 r3.2.1 r3.2.2 v_place v_low v_high v_lowBefore v_highBefore v_least v_greatest v_things v_changing v_overLow v_overHigh v_text v_length v_at v_readKey v_readCount v_keys v_h].flatten _ := hP
        have hD : va_D A [W_Model k b0 o0 r3.1 r3.2.1 r3.2.2 v_place v_low v_high v_lowBefore v_highBefore v_least v_greatest v_things v_changing v_overLow v_overHigh v_text v_length v_at v_readKey v_readCount v_keys v_h].flatten := hD
        refine lv_aload_n hx hb dX8_addFlow_45 rfl (lv_at hl 0 rfl) ?_
        refine lv_iload_n hx hb dX8_addFlow_46 rfl (lv_at hl 1 rfl) ?_
        obtain ⟨r4, hg_r4, hf⟩ := ofbind hf
        refine kcV (bs := [W_Model k b0 o0 r3.1 r3.2.1 r3.2.2 v_place v_low v_high v_lowBefore v_highBefore v_least v_greatest v_things v_changing v_overLow v_overHigh v_text v_length v_at v_readKey v_readCount v_keys v_h]) (br := []) (bc := [W_Model k b0 o0 r3.1 r3.2.1 r3.2.2 v_place v_low v_high v_lowBefore v_highBefore v_least v_greatest v_things v_changing v_overLow v_overHigh v_text v_length v_at v_readKey v_readCount v_keys v_h]) (bc' := [W_Model k b0 o0 r4.2.1 r4.2.2 r3.2.2 v_place v_low v_high v_lowBefore v_highBefore v_least v_greatest v_things v_changing v_overLow v_overHigh v_text v_length v_at v_readKey v_readCount v_keys v_h]) X hP hD hS (c_Model_adds l D k t b0 o0 r3.1 r3.2.1 r3.2.2 v_place v_low v_high v_lowBefore v_highBefore v_least v_greatest v_things v_changing v_overLow v_overHigh v_text v_length v_at v_readKey v_readCount v_keys v_h x1 r4 hg_r4) mv_X8_76 hl [] [0] 8 ⟨rfl, rfl⟩ ⟨Nat.le_of_ble_eq_true rfl, Nat.le_of_ble_eq_true rfl⟩ rfl rfl rfl rfl rfl rfl rfl (Nat.le_of_ble_eq_true rfl) dX8_addFlow_47 (fun H locs hP hD hS => ?_)
        have hP : va_P D vwCl [W_Model k b0 o0 r4.2.1 r4.2.2 r3.2.2 v_place v_low v_high v_lowBefore v_highBefore v_least v_greatest v_things v_changing v_overLow v_overHigh v_text v_length v_at v_readKey v_readCount v_keys v_h].flatten _ := hP
        have hD : va_D A [W_Model k b0 o0 r4.2.1 r4.2.2 r3.2.2 v_place v_low v_high v_lowBefore v_highBefore v_least v_greatest v_things v_changing v_overLow v_overHigh v_text v_length v_at v_readKey v_readCount v_keys v_h].flatten := hD
        have hf := Option.some.inj hf
        subst hf
        exact kiret (v := r4.1) X hP hD hS dX8_addFlow_50
      · have hf := ofpos hf hc
        refine lv_bipush (v := (-5)) hx hb dX8_addFlow_38 (by decide) ?_
        have hf := Option.some.inj hf
        subst hf
        exact kiret (v := (-5)) X hP hD hS dX8_addFlow_40
    · have hf := ofneg hf hc
      refine lv_bipush (v := (-4)) hx hb dX8_addFlow_23 (by decide) ?_
      have hf := Option.some.inj hf
      subst hf
      exact kiret (v := (-4)) X hP hD hS dX8_addFlow_25
  · have hf := ofpos hf hc
    refine lv_bipush (v := (-3)) hx hb dX8_addFlow_11 (by decide) ?_
    have hf := Option.some.inj hf
    subst hf
    exact kiret (v := (-3)) X hP hD hS dX8_addFlow_13
/-! Model_key: public int key(int); -/
abbrev rm_Model_key : Room := ({ frames := 2, cells := 0, slots := 0, locals := 43 } : Room)
def f_Model_key (x1 : Int32) (v_row : FI) : Option (Int32) := (f_Model_isFlow x1 v_row).bind (fun r1 => if r1 = 0 then some (-2) else if ck (7 + x1) 1002 = true then some (v_row (7 + x1).toNatClampNeg) else none)
abbrev Q_Model_key (below : List Frame) (D : va_G) (k : Nat → ClassId) (A : Nat → Prop) (args : Array Value) (s : State) (b0 : Nat → Nat) (o0 : Nat) (v_row : FI) (v_number : FJ) (v_saved : Int32) (v_place : FI) (v_low : FJ) (v_high : FJ) (v_lowBefore : FJ) (v_highBefore : FJ) (v_least : FJ) (v_greatest : FJ) (v_things : Int32) (v_changing : Int32) (v_overLow : FJ) (v_overHigh : FJ) (v_text : FI) (v_length : Int32) (v_at : Int32) (v_readKey : FI) (v_readCount : FJ) (v_keys : Int32) (v_h : Int64) (out : Int32) : State → Prop := MQ below (QW D k A (some (.int out)) [W_Model k b0 o0 v_row v_number v_saved v_place v_low v_high v_lowBefore v_highBefore v_least v_greatest v_things v_changing v_overLow v_overHigh v_text v_length v_at v_readKey v_readCount v_keys v_h].flatten) args s 0 0 A
set_option maxRecDepth 100000 in
set_option maxHeartbeats 1000000 in
theorem c_Model_key (l : Launch) (D : va_G) (k : Nat → ClassId) (t : Nat → Nat) (b0 : Nat → Nat) (o0 : Nat) (v_row : FI) (v_number : FJ) (v_saved : Int32) (v_place : FI) (v_low : FJ) (v_high : FJ) (v_lowBefore : FJ) (v_highBefore : FJ) (v_least : FJ) (v_greatest : FJ) (v_things : Int32) (v_changing : Int32) (v_overLow : FJ) (v_overHigh : FJ) (v_text : FI) (v_length : Int32) (v_at : Int32) (v_readKey : FI) (v_readCount : FJ) (v_keys : Int32) (v_h : Int64) (x1 : Int32) (out : Int32) (hf : f_Model_key x1 v_row = some out) : CT l D k t yX8_key cX8_key 2 (some .int) rm_Model_key [.ref (b0 o0), .int x1] [W_Model k b0 o0 v_row v_number v_saved v_place v_low v_high v_lowBefore v_highBefore v_least v_greatest v_things v_changing v_overLow v_overHigh v_text v_length v_at v_readKey v_readCount v_keys v_h].flatten (some (.int out)) [W_Model k b0 o0 v_row v_number v_saved v_place v_low v_high v_lowBefore v_highBefore v_least v_greatest v_things v_changing v_overLow v_overHigh v_text v_length v_at v_readKey v_readCount v_keys v_h].flatten := by
  refine kofW (by decide) (Nat.le_of_ble_eq_true rfl) ?_
  intro p e s m below meth c A ls X hP hD hS hl
  have N : Nat := 0
  have hx := X.1.1
  have hb := X.1.2.1
  have hml := X.1.2.2.1
  have hown := X.1.2.2.2.1
  have hts := X.1.2.2.2.2
  have hl : lv_has ls 2 [(0, .ref (b0 o0)), (1, .int x1)] := hl
  rw [f_Model_key] at hf
  refine lv_aload_n hx hb dX8_key_0 rfl (lv_at hl 0 rfl) ?_
  refine lv_iload_n hx hb dX8_key_1 rfl (lv_at hl 1 rfl) ?_
  obtain ⟨r1, hg_r1, hf⟩ := ofbind hf
  refine kcV (bs := [W_Model k b0 o0 v_row v_number v_saved v_place v_low v_high v_lowBefore v_highBefore v_least v_greatest v_things v_changing v_overLow v_overHigh v_text v_length v_at v_readKey v_readCount v_keys v_h]) (br := []) (bc := [W_Model k b0 o0 v_row v_number v_saved v_place v_low v_high v_lowBefore v_highBefore v_least v_greatest v_things v_changing v_overLow v_overHigh v_text v_length v_at v_readKey v_readCount v_keys v_h]) (bc' := [W_Model k b0 o0 v_row v_number v_saved v_place v_low v_high v_lowBefore v_highBefore v_least v_greatest v_things v_changing v_overLow v_overHigh v_text v_length v_at v_readKey v_readCount v_keys v_h]) X hP hD hS (c_Model_isFlow l D k t b0 o0 v_row v_number v_saved v_place v_low v_high v_lowBefore v_highBefore v_least v_greatest v_things v_changing v_overLow v_overHigh v_text v_length v_at v_readKey v_readCount v_keys v_h x1 r1 hg_r1) mv_X8_79 hl [] [0] 8 ⟨rfl, rfl⟩ ⟨Nat.le_of_ble_eq_true rfl, Nat.le_of_ble_eq_true rfl⟩ rfl rfl rfl rfl rfl rfl rfl (Nat.le_of_ble_eq_true rfl) dX8_key_2 (fun H locs hP hD hS => ?_)
  have hP : va_P D vwCl [W_Model k b0 o0 v_row v_number v_saved v_place v_low v_high v_lowBefore v_highBefore v_least v_greatest v_things v_changing v_overLow v_overHigh v_text v_length v_at v_readKey v_readCount v_keys v_h].flatten _ := hP
  have hD : va_D A [W_Model k b0 o0 v_row v_number v_saved v_place v_low v_high v_lowBefore v_highBefore v_least v_greatest v_things v_changing v_overLow v_overHigh v_text v_length v_at v_readKey v_readCount v_keys v_h].flatten := hD
  refine lv_if_eq (tgt := 20) hx hb dX8_key_5 (by decide) (fun hc => ?_) (fun hc => ?_)
  · have hf := ofpos hf hc
    refine lv_bipush (v := (-2)) hx hb dX8_key_20 (by decide) ?_
    have hf := Option.some.inj hf
    subst hf
    exact kiret (v := (-2)) X hP hD hS dX8_key_22
  · have hf := ofneg hf hc
    refine lv_aload_n hx hb dX8_key_8 rfl (lv_at hl 0 rfl) ?_
    refine kget (v := .ref (b0 (o0+1))) X hP ff_X8_7 0 rfl rfl dX8_key_9 ?_
    refine lv_bipush (v := 7) hx hb dX8_key_12 (by decide) ?_
    refine lv_iload_n hx hb dX8_key_14 rfl (lv_at hl 1 rfl) ?_
    refine lv_iadd hx hb dX8_key_15 ?_
    obtain ⟨hc, hf⟩ := ofck hf
    refine kiald (f := v_row) (n := 1002) X hP 1 rfl hc dX8_key_16 ?_
    refine lv_goto (tgt := 22) hx hb dX8_key_17 (by decide) ?_
    have hf := Option.some.inj hf
    subst hf
    exact kiret (v := v_row (7 + x1).toNatClampNeg) X hP hD hS dX8_key_22
/-! Model_flowOf: public int flowOf(int); -/
abbrev rm_Model_flowOf : Room := ({ frames := 1, cells := 0, slots := 0, locals := 23 } : Room)
def f_Model_flowOf (N : Nat) (x1 : Int32) (v_row : FI) : Option (Int32) := (f_Model_in x1 0 999).bind (fun r1 => if r1 = 0 then some (-3) else (f_Model_find N x1 v_row).bind (fun r2 => some r2))
abbrev Q_Model_flowOf (below : List Frame) (D : va_G) (k : Nat → ClassId) (A : Nat → Prop) (args : Array Value) (s : State) (b0 : Nat → Nat) (o0 : Nat) (v_row : FI) (v_number : FJ) (v_saved : Int32) (v_place : FI) (v_low : FJ) (v_high : FJ) (v_lowBefore : FJ) (v_highBefore : FJ) (v_least : FJ) (v_greatest : FJ) (v_things : Int32) (v_changing : Int32) (v_overLow : FJ) (v_overHigh : FJ) (v_text : FI) (v_length : Int32) (v_at : Int32) (v_readKey : FI) (v_readCount : FJ) (v_keys : Int32) (v_h : Int64) (out : Int32) : State → Prop := MQ below (QW D k A (some (.int out)) [W_Model k b0 o0 v_row v_number v_saved v_place v_low v_high v_lowBefore v_highBefore v_least v_greatest v_things v_changing v_overLow v_overHigh v_text v_length v_at v_readKey v_readCount v_keys v_h].flatten) args s 0 0 A
set_option maxRecDepth 100000 in
set_option maxHeartbeats 1000000 in
theorem c_Model_flowOf (l : Launch) (D : va_G) (k : Nat → ClassId) (t : Nat → Nat) (b0 : Nat → Nat) (o0 : Nat) (v_row : FI) (v_number : FJ) (v_saved : Int32) (v_place : FI) (v_low : FJ) (v_high : FJ) (v_lowBefore : FJ) (v_highBefore : FJ) (v_least : FJ) (v_greatest : FJ) (v_things : Int32) (v_changing : Int32) (v_overLow : FJ) (v_overHigh : FJ) (v_text : FI) (v_length : Int32) (v_at : Int32) (v_readKey : FI) (v_readCount : FJ) (v_keys : Int32) (v_h : Int64) (x1 : Int32) (N : Nat) (out : Int32) (hf : f_Model_flowOf N x1 v_row = some out) : CT l D k t yX8_flowOf cX8_flowOf 2 (some .int) rm_Model_flowOf [.ref (b0 o0), .int x1] [W_Model k b0 o0 v_row v_number v_saved v_place v_low v_high v_lowBefore v_highBefore v_least v_greatest v_things v_changing v_overLow v_overHigh v_text v_length v_at v_readKey v_readCount v_keys v_h].flatten (some (.int out)) [W_Model k b0 o0 v_row v_number v_saved v_place v_low v_high v_lowBefore v_highBefore v_least v_greatest v_things v_changing v_overLow v_overHigh v_text v_length v_at v_readKey v_readCount v_keys v_h].flatten := by
  refine kofW (by decide) (Nat.le_of_ble_eq_true rfl) ?_
  intro p e s m below meth c A ls X hP hD hS hl
  have hx := X.1.1
  have hb := X.1.2.1
  have hml := X.1.2.2.1
  have hown := X.1.2.2.2.1
  have hts := X.1.2.2.2.2
  have hl : lv_has ls 2 [(0, .ref (b0 o0)), (1, .int x1)] := hl
  rw [f_Model_flowOf] at hf
  refine lv_iload_n hx hb dX8_flowOf_0 rfl (lv_at hl 1 rfl) ?_
  refine lv_iconst (v := 0) hx hb dX8_flowOf_1 (by decide) ?_
  refine lv_sipush (v := 999) hx hb dX8_flowOf_2 (by decide) ?_
  obtain ⟨r1, hg_r1, hf⟩ := ofbind hf
  refine kcS (bs := [W_Model k b0 o0 v_row v_number v_saved v_place v_low v_high v_lowBefore v_highBefore v_least v_greatest v_things v_changing v_overLow v_overHigh v_text v_length v_at v_readKey v_readCount v_keys v_h]) (br := [W_Model k b0 o0 v_row v_number v_saved v_place v_low v_high v_lowBefore v_highBefore v_least v_greatest v_things v_changing v_overLow v_overHigh v_text v_length v_at v_readKey v_readCount v_keys v_h]) (bc := []) (bc' := []) X hP hD hS (c_Model_in l D k t x1 0 999 r1 hg_r1) ms_X8_61 hl [0] [] ⟨rfl, rfl⟩ ⟨Nat.le_of_ble_eq_true rfl, Nat.le_of_ble_eq_true rfl⟩ rfl rfl rfl rfl (Nat.le_of_ble_eq_true rfl) dX8_flowOf_5 (fun H locs hP hD hS => ?_)
  have hP : va_P D vwCl [W_Model k b0 o0 v_row v_number v_saved v_place v_low v_high v_lowBefore v_highBefore v_least v_greatest v_things v_changing v_overLow v_overHigh v_text v_length v_at v_readKey v_readCount v_keys v_h].flatten _ := hP
  have hD : va_D A [W_Model k b0 o0 v_row v_number v_saved v_place v_low v_high v_lowBefore v_highBefore v_least v_greatest v_things v_changing v_overLow v_overHigh v_text v_length v_at v_readKey v_readCount v_keys v_h].flatten := hD
  refine lv_if_eq (tgt := 19) hx hb dX8_flowOf_8 (by decide) (fun hc => ?_) (fun hc => ?_)
  · have hf := ofpos hf hc
    refine lv_bipush (v := (-3)) hx hb dX8_flowOf_19 (by decide) ?_
    have hf := Option.some.inj hf
    subst hf
    exact kiret (v := (-3)) X hP hD hS dX8_flowOf_21
  · have hf := ofneg hf hc
    refine lv_aload_n hx hb dX8_flowOf_11 rfl (lv_at hl 0 rfl) ?_
    refine lv_iload_n hx hb dX8_flowOf_12 rfl (lv_at hl 1 rfl) ?_
    obtain ⟨r2, hg_r2, hf⟩ := ofbind hf
    refine kcV (bs := [W_Model k b0 o0 v_row v_number v_saved v_place v_low v_high v_lowBefore v_highBefore v_least v_greatest v_things v_changing v_overLow v_overHigh v_text v_length v_at v_readKey v_readCount v_keys v_h]) (br := []) (bc := [W_Model k b0 o0 v_row v_number v_saved v_place v_low v_high v_lowBefore v_highBefore v_least v_greatest v_things v_changing v_overLow v_overHigh v_text v_length v_at v_readKey v_readCount v_keys v_h]) (bc' := [W_Model k b0 o0 v_row v_number v_saved v_place v_low v_high v_lowBefore v_highBefore v_least v_greatest v_things v_changing v_overLow v_overHigh v_text v_length v_at v_readKey v_readCount v_keys v_h]) X hP hD hS (c_Model_find l D k t b0 o0 v_row v_number v_saved v_place v_low v_high v_lowBefore v_highBefore v_least v_greatest v_things v_changing v_overLow v_overHigh v_text v_length v_at v_readKey v_readCount v_keys v_h x1 N r2 hg_r2) mv_X8_72 hl [] [0] 8 ⟨rfl, rfl⟩ ⟨Nat.le_of_ble_eq_true rfl, Nat.le_of_ble_eq_true rfl⟩ rfl rfl rfl rfl rfl rfl rfl (Nat.le_of_ble_eq_true rfl) dX8_flowOf_13 (fun H locs hP hD hS => ?_)
    have hP : va_P D vwCl [W_Model k b0 o0 v_row v_number v_saved v_place v_low v_high v_lowBefore v_highBefore v_least v_greatest v_things v_changing v_overLow v_overHigh v_text v_length v_at v_readKey v_readCount v_keys v_h].flatten _ := hP
    have hD : va_D A [W_Model k b0 o0 v_row v_number v_saved v_place v_low v_high v_lowBefore v_highBefore v_least v_greatest v_things v_changing v_overLow v_overHigh v_text v_length v_at v_readKey v_readCount v_keys v_h].flatten := hD
    refine lv_goto (tgt := 21) hx hb dX8_flowOf_16 (by decide) ?_
    have hf := Option.some.inj hf
    subst hf
    exact kiret (v := r2) X hP hD hS dX8_flowOf_21
/-! Model_places: public int places(int); -/
abbrev rm_Model_places : Room := ({ frames := 2, cells := 0, slots := 0, locals := 43 } : Room)
def f_Model_places (N : Nat) (x1 : Int32) (v_row : FI) : Option (Int32) := (f_Model_isFlow x1 v_row).bind (fun r1 => if r1 = 0 then some (-2) else if ck (7 + x1) 1002 = true then (f_Model_placesOf N (v_row (7 + x1).toNatClampNeg) v_row).bind (fun r2 => some r2) else none)
abbrev Q_Model_places (below : List Frame) (D : va_G) (k : Nat → ClassId) (A : Nat → Prop) (args : Array Value) (s : State) (b0 : Nat → Nat) (o0 : Nat) (v_row : FI) (v_number : FJ) (v_saved : Int32) (v_place : FI) (v_low : FJ) (v_high : FJ) (v_lowBefore : FJ) (v_highBefore : FJ) (v_least : FJ) (v_greatest : FJ) (v_things : Int32) (v_changing : Int32) (v_overLow : FJ) (v_overHigh : FJ) (v_text : FI) (v_length : Int32) (v_at : Int32) (v_readKey : FI) (v_readCount : FJ) (v_keys : Int32) (v_h : Int64) (out : Int32) : State → Prop := MQ below (QW D k A (some (.int out)) [W_Model k b0 o0 v_row v_number v_saved v_place v_low v_high v_lowBefore v_highBefore v_least v_greatest v_things v_changing v_overLow v_overHigh v_text v_length v_at v_readKey v_readCount v_keys v_h].flatten) args s 0 0 A
set_option maxRecDepth 100000 in
set_option maxHeartbeats 1000000 in
theorem c_Model_places (l : Launch) (D : va_G) (k : Nat → ClassId) (t : Nat → Nat) (b0 : Nat → Nat) (o0 : Nat) (v_row : FI) (v_number : FJ) (v_saved : Int32) (v_place : FI) (v_low : FJ) (v_high : FJ) (v_lowBefore : FJ) (v_highBefore : FJ) (v_least : FJ) (v_greatest : FJ) (v_things : Int32) (v_changing : Int32) (v_overLow : FJ) (v_overHigh : FJ) (v_text : FI) (v_length : Int32) (v_at : Int32) (v_readKey : FI) (v_readCount : FJ) (v_keys : Int32) (v_h : Int64) (x1 : Int32) (N : Nat) (out : Int32) (hf : f_Model_places N x1 v_row = some out) : CT l D k t yX8_places cX8_places 2 (some .int) rm_Model_places [.ref (b0 o0), .int x1] [W_Model k b0 o0 v_row v_number v_saved v_place v_low v_high v_lowBefore v_highBefore v_least v_greatest v_things v_changing v_overLow v_overHigh v_text v_length v_at v_readKey v_readCount v_keys v_h].flatten (some (.int out)) [W_Model k b0 o0 v_row v_number v_saved v_place v_low v_high v_lowBefore v_highBefore v_least v_greatest v_things v_changing v_overLow v_overHigh v_text v_length v_at v_readKey v_readCount v_keys v_h].flatten := by
  refine kofW (by decide) (Nat.le_of_ble_eq_true rfl) ?_
  intro p e s m below meth c A ls X hP hD hS hl
  have hx := X.1.1
  have hb := X.1.2.1
  have hml := X.1.2.2.1
  have hown := X.1.2.2.2.1
  have hts := X.1.2.2.2.2
  have hl : lv_has ls 2 [(0, .ref (b0 o0)), (1, .int x1)] := hl
  rw [f_Model_places] at hf
  refine lv_aload_n hx hb dX8_places_0 rfl (lv_at hl 0 rfl) ?_
  refine lv_iload_n hx hb dX8_places_1 rfl (lv_at hl 1 rfl) ?_
  obtain ⟨r1, hg_r1, hf⟩ := ofbind hf
  refine kcV (bs := [W_Model k b0 o0 v_row v_number v_saved v_place v_low v_high v_lowBefore v_highBefore v_least v_greatest v_things v_changing v_overLow v_overHigh v_text v_length v_at v_readKey v_readCount v_keys v_h]) (br := []) (bc := [W_Model k b0 o0 v_row v_number v_saved v_place v_low v_high v_lowBefore v_highBefore v_least v_greatest v_things v_changing v_overLow v_overHigh v_text v_length v_at v_readKey v_readCount v_keys v_h]) (bc' := [W_Model k b0 o0 v_row v_number v_saved v_place v_low v_high v_lowBefore v_highBefore v_least v_greatest v_things v_changing v_overLow v_overHigh v_text v_length v_at v_readKey v_readCount v_keys v_h]) X hP hD hS (c_Model_isFlow l D k t b0 o0 v_row v_number v_saved v_place v_low v_high v_lowBefore v_highBefore v_least v_greatest v_things v_changing v_overLow v_overHigh v_text v_length v_at v_readKey v_readCount v_keys v_h x1 r1 hg_r1) mv_X8_79 hl [] [0] 8 ⟨rfl, rfl⟩ ⟨Nat.le_of_ble_eq_true rfl, Nat.le_of_ble_eq_true rfl⟩ rfl rfl rfl rfl rfl rfl rfl (Nat.le_of_ble_eq_true rfl) dX8_places_2 (fun H locs hP hD hS => ?_)
  have hP : va_P D vwCl [W_Model k b0 o0 v_row v_number v_saved v_place v_low v_high v_lowBefore v_highBefore v_least v_greatest v_things v_changing v_overLow v_overHigh v_text v_length v_at v_readKey v_readCount v_keys v_h].flatten _ := hP
  have hD : va_D A [W_Model k b0 o0 v_row v_number v_saved v_place v_low v_high v_lowBefore v_highBefore v_least v_greatest v_things v_changing v_overLow v_overHigh v_text v_length v_at v_readKey v_readCount v_keys v_h].flatten := hD
  refine lv_if_eq (tgt := 24) hx hb dX8_places_5 (by decide) (fun hc => ?_) (fun hc => ?_)
  · have hf := ofpos hf hc
    refine lv_bipush (v := (-2)) hx hb dX8_places_24 (by decide) ?_
    have hf := Option.some.inj hf
    subst hf
    exact kiret (v := (-2)) X hP hD hS dX8_places_26
  · have hf := ofneg hf hc
    refine lv_aload_n hx hb dX8_places_8 rfl (lv_at hl 0 rfl) ?_
    refine lv_aload_n hx hb dX8_places_9 rfl (lv_at hl 0 rfl) ?_
    refine kget (v := .ref (b0 (o0+1))) X hP ff_X8_7 0 rfl rfl dX8_places_10 ?_
    refine lv_bipush (v := 7) hx hb dX8_places_13 (by decide) ?_
    refine lv_iload_n hx hb dX8_places_15 rfl (lv_at hl 1 rfl) ?_
    refine lv_iadd hx hb dX8_places_16 ?_
    obtain ⟨hc, hf⟩ := ofck hf
    refine kiald (f := v_row) (n := 1002) X hP 1 rfl hc dX8_places_17 ?_
    obtain ⟨r2, hg_r2, hf⟩ := ofbind hf
    refine kcV (bs := [W_Model k b0 o0 v_row v_number v_saved v_place v_low v_high v_lowBefore v_highBefore v_least v_greatest v_things v_changing v_overLow v_overHigh v_text v_length v_at v_readKey v_readCount v_keys v_h]) (br := []) (bc := [W_Model k b0 o0 v_row v_number v_saved v_place v_low v_high v_lowBefore v_highBefore v_least v_greatest v_things v_changing v_overLow v_overHigh v_text v_length v_at v_readKey v_readCount v_keys v_h]) (bc' := [W_Model k b0 o0 v_row v_number v_saved v_place v_low v_high v_lowBefore v_highBefore v_least v_greatest v_things v_changing v_overLow v_overHigh v_text v_length v_at v_readKey v_readCount v_keys v_h]) X hP hD hS (c_Model_placesOf l D k t b0 o0 v_row v_number v_saved v_place v_low v_high v_lowBefore v_highBefore v_least v_greatest v_things v_changing v_overLow v_overHigh v_text v_length v_at v_readKey v_readCount v_keys v_h (v_row (7 + x1).toNatClampNeg) N r2 hg_r2) mv_X8_83 hl [] [0] 8 ⟨rfl, rfl⟩ ⟨Nat.le_of_ble_eq_true rfl, Nat.le_of_ble_eq_true rfl⟩ rfl rfl rfl rfl rfl rfl rfl (Nat.le_of_ble_eq_true rfl) dX8_places_18 (fun H locs hP hD hS => ?_)
    have hP : va_P D vwCl [W_Model k b0 o0 v_row v_number v_saved v_place v_low v_high v_lowBefore v_highBefore v_least v_greatest v_things v_changing v_overLow v_overHigh v_text v_length v_at v_readKey v_readCount v_keys v_h].flatten _ := hP
    have hD : va_D A [W_Model k b0 o0 v_row v_number v_saved v_place v_low v_high v_lowBefore v_highBefore v_least v_greatest v_things v_changing v_overLow v_overHigh v_text v_length v_at v_readKey v_readCount v_keys v_h].flatten := hD
    refine lv_goto (tgt := 26) hx hb dX8_places_21 (by decide) ?_
    have hf := Option.some.inj hf
    subst hf
    exact kiret (v := r2) X hP hD hS dX8_places_26
/-! Model_placesAbove: public int placesAbove(int); -/
abbrev rm_Model_placesAbove : Room := ({ frames := 2, cells := 0, slots := 0, locals := 43 } : Room)
def f_Model_placesAbove (N : Nat) (x1 : Int32) (v_row : FI) : Option (Int32) := (f_Model_isCounter x1 v_row).bind (fun r1 => if r1 = 0 then some (-2) else (f_Model_placesUp N x1 v_row).bind (fun r2 => some r2))
abbrev Q_Model_placesAbove (below : List Frame) (D : va_G) (k : Nat → ClassId) (A : Nat → Prop) (args : Array Value) (s : State) (b0 : Nat → Nat) (o0 : Nat) (v_row : FI) (v_number : FJ) (v_saved : Int32) (v_place : FI) (v_low : FJ) (v_high : FJ) (v_lowBefore : FJ) (v_highBefore : FJ) (v_least : FJ) (v_greatest : FJ) (v_things : Int32) (v_changing : Int32) (v_overLow : FJ) (v_overHigh : FJ) (v_text : FI) (v_length : Int32) (v_at : Int32) (v_readKey : FI) (v_readCount : FJ) (v_keys : Int32) (v_h : Int64) (out : Int32) : State → Prop := MQ below (QW D k A (some (.int out)) [W_Model k b0 o0 v_row v_number v_saved v_place v_low v_high v_lowBefore v_highBefore v_least v_greatest v_things v_changing v_overLow v_overHigh v_text v_length v_at v_readKey v_readCount v_keys v_h].flatten) args s 0 0 A
set_option maxRecDepth 100000 in
set_option maxHeartbeats 1000000 in
theorem c_Model_placesAbove (l : Launch) (D : va_G) (k : Nat → ClassId) (t : Nat → Nat) (b0 : Nat → Nat) (o0 : Nat) (v_row : FI) (v_number : FJ) (v_saved : Int32) (v_place : FI) (v_low : FJ) (v_high : FJ) (v_lowBefore : FJ) (v_highBefore : FJ) (v_least : FJ) (v_greatest : FJ) (v_things : Int32) (v_changing : Int32) (v_overLow : FJ) (v_overHigh : FJ) (v_text : FI) (v_length : Int32) (v_at : Int32) (v_readKey : FI) (v_readCount : FJ) (v_keys : Int32) (v_h : Int64) (x1 : Int32) (N : Nat) (out : Int32) (hf : f_Model_placesAbove N x1 v_row = some out) : CT l D k t yX8_placesAbove cX8_placesAbove 2 (some .int) rm_Model_placesAbove [.ref (b0 o0), .int x1] [W_Model k b0 o0 v_row v_number v_saved v_place v_low v_high v_lowBefore v_highBefore v_least v_greatest v_things v_changing v_overLow v_overHigh v_text v_length v_at v_readKey v_readCount v_keys v_h].flatten (some (.int out)) [W_Model k b0 o0 v_row v_number v_saved v_place v_low v_high v_lowBefore v_highBefore v_least v_greatest v_things v_changing v_overLow v_overHigh v_text v_length v_at v_readKey v_readCount v_keys v_h].flatten := by
  refine kofW (by decide) (Nat.le_of_ble_eq_true rfl) ?_
  intro p e s m below meth c A ls X hP hD hS hl
  have hx := X.1.1
  have hb := X.1.2.1
  have hml := X.1.2.2.1
  have hown := X.1.2.2.2.1
  have hts := X.1.2.2.2.2
  have hl : lv_has ls 2 [(0, .ref (b0 o0)), (1, .int x1)] := hl
  rw [f_Model_placesAbove] at hf
  refine lv_aload_n hx hb dX8_placesAbove_0 rfl (lv_at hl 0 rfl) ?_
  refine lv_iload_n hx hb dX8_placesAbove_1 rfl (lv_at hl 1 rfl) ?_
  obtain ⟨r1, hg_r1, hf⟩ := ofbind hf
  refine kcV (bs := [W_Model k b0 o0 v_row v_number v_saved v_place v_low v_high v_lowBefore v_highBefore v_least v_greatest v_things v_changing v_overLow v_overHigh v_text v_length v_at v_readKey v_readCount v_keys v_h]) (br := []) (bc := [W_Model k b0 o0 v_row v_number v_saved v_place v_low v_high v_lowBefore v_highBefore v_least v_greatest v_things v_changing v_overLow v_overHigh v_text v_length v_at v_readKey v_readCount v_keys v_h]) (bc' := [W_Model k b0 o0 v_row v_number v_saved v_place v_low v_high v_lowBefore v_highBefore v_least v_greatest v_things v_changing v_overLow v_overHigh v_text v_length v_at v_readKey v_readCount v_keys v_h]) X hP hD hS (c_Model_isCounter l D k t b0 o0 v_row v_number v_saved v_place v_low v_high v_lowBefore v_highBefore v_least v_greatest v_things v_changing v_overLow v_overHigh v_text v_length v_at v_readKey v_readCount v_keys v_h x1 r1 hg_r1) mv_X8_86 hl [] [0] 8 ⟨rfl, rfl⟩ ⟨Nat.le_of_ble_eq_true rfl, Nat.le_of_ble_eq_true rfl⟩ rfl rfl rfl rfl rfl rfl rfl (Nat.le_of_ble_eq_true rfl) dX8_placesAbove_2 (fun H locs hP hD hS => ?_)
  have hP : va_P D vwCl [W_Model k b0 o0 v_row v_number v_saved v_place v_low v_high v_lowBefore v_highBefore v_least v_greatest v_things v_changing v_overLow v_overHigh v_text v_length v_at v_readKey v_readCount v_keys v_h].flatten _ := hP
  have hD : va_D A [W_Model k b0 o0 v_row v_number v_saved v_place v_low v_high v_lowBefore v_highBefore v_least v_greatest v_things v_changing v_overLow v_overHigh v_text v_length v_at v_readKey v_readCount v_keys v_h].flatten := hD
  refine lv_if_eq (tgt := 16) hx hb dX8_placesAbove_5 (by decide) (fun hc => ?_) (fun hc => ?_)
  · have hf := ofpos hf hc
    refine lv_bipush (v := (-2)) hx hb dX8_placesAbove_16 (by decide) ?_
    have hf := Option.some.inj hf
    subst hf
    exact kiret (v := (-2)) X hP hD hS dX8_placesAbove_18
  · have hf := ofneg hf hc
    refine lv_aload_n hx hb dX8_placesAbove_8 rfl (lv_at hl 0 rfl) ?_
    refine lv_iload_n hx hb dX8_placesAbove_9 rfl (lv_at hl 1 rfl) ?_
    obtain ⟨r2, hg_r2, hf⟩ := ofbind hf
    refine kcV (bs := [W_Model k b0 o0 v_row v_number v_saved v_place v_low v_high v_lowBefore v_highBefore v_least v_greatest v_things v_changing v_overLow v_overHigh v_text v_length v_at v_readKey v_readCount v_keys v_h]) (br := []) (bc := [W_Model k b0 o0 v_row v_number v_saved v_place v_low v_high v_lowBefore v_highBefore v_least v_greatest v_things v_changing v_overLow v_overHigh v_text v_length v_at v_readKey v_readCount v_keys v_h]) (bc' := [W_Model k b0 o0 v_row v_number v_saved v_place v_low v_high v_lowBefore v_highBefore v_least v_greatest v_things v_changing v_overLow v_overHigh v_text v_length v_at v_readKey v_readCount v_keys v_h]) X hP hD hS (c_Model_placesUp l D k t b0 o0 v_row v_number v_saved v_place v_low v_high v_lowBefore v_highBefore v_least v_greatest v_things v_changing v_overLow v_overHigh v_text v_length v_at v_readKey v_readCount v_keys v_h x1 N r2 hg_r2) mv_X8_89 hl [] [0] 8 ⟨rfl, rfl⟩ ⟨Nat.le_of_ble_eq_true rfl, Nat.le_of_ble_eq_true rfl⟩ rfl rfl rfl rfl rfl rfl rfl (Nat.le_of_ble_eq_true rfl) dX8_placesAbove_10 (fun H locs hP hD hS => ?_)
    have hP : va_P D vwCl [W_Model k b0 o0 v_row v_number v_saved v_place v_low v_high v_lowBefore v_highBefore v_least v_greatest v_things v_changing v_overLow v_overHigh v_text v_length v_at v_readKey v_readCount v_keys v_h].flatten _ := hP
    have hD : va_D A [W_Model k b0 o0 v_row v_number v_saved v_place v_low v_high v_lowBefore v_highBefore v_least v_greatest v_things v_changing v_overLow v_overHigh v_text v_length v_at v_readKey v_readCount v_keys v_h].flatten := hD
    refine lv_goto (tgt := 18) hx hb dX8_placesAbove_13 (by decide) ?_
    have hf := Option.some.inj hf
    subst hf
    exact kiret (v := r2) X hP hD hS dX8_placesAbove_18
