/-! Model_sign: private boolean sign(int); -/
abbrev rm_Model_sign : Room := ({ frames := 1, cells := 0, slots := 0, locals := 20 } : Room)
def f_Model_sign_J13 (t2 : Int32) (c3 : Int32) : Option (Int32 × Int32) := if t2 = 0 then if t2 = 0 ∨ t2 = 1 then some (t2, (c3 + 0)) else none else if t2 = 0 ∨ t2 = 1 then some (t2, (c3 + 1)) else none
def f_Model_sign (N : Nat) (x1 : Int32) (v_text : FI) (v_length : Int32) (v_at : Int32) : Option (Int32 × Int32) := (f_Model_here N v_text v_length v_at).bind (fun r1 => if r1.1 = x1 then f_Model_sign_J13 1 r1.2 else f_Model_sign_J13 0 r1.2)
abbrev Q_Model_sign (below : List Frame) (D : va_G) (k : Nat → ClassId) (A : Nat → Prop) (args : Array Value) (s : State) (b0 : Nat → Nat) (o0 : Nat) (v_row : FI) (v_number : FJ) (v_saved : Int32) (v_place : FI) (v_low : FJ) (v_high : FJ) (v_lowBefore : FJ) (v_highBefore : FJ) (v_least : FJ) (v_greatest : FJ) (v_things : Int32) (v_changing : Int32) (v_overLow : FJ) (v_overHigh : FJ) (v_text : FI) (v_length : Int32) (v_at : Int32) (v_readKey : FI) (v_readCount : FJ) (v_keys : Int32) (v_h : Int64) (out : Int32 × Int32) : State → Prop := MQ below (QW D k A (some (.int out.1)) [W_Model k b0 o0 v_row v_number v_saved v_place v_low v_high v_lowBefore v_highBefore v_least v_greatest v_things v_changing v_overLow v_overHigh v_text v_length out.2 v_readKey v_readCount v_keys v_h].flatten) args s 0 0 A
set_option maxRecDepth 100000 in
set_option maxHeartbeats 1000000 in
theorem w_Model_sign_J13 {p : Program} {l : Launch} {e : Env} {s : State} {m : MethodId} {below : List Frame} {meth : Method} {c : Code} {args : Array Value} {A : Nat → Prop} {D : va_G} {k : Nat → ClassId} {t : Nat → Nat} (X : BX l D k t p s m args meth c cX8_sign 3 RX8 (some .boolean) A) (b0 : Nat → Nat) (o0 : Nat) (v_row : FI) (v_number : FJ) (v_saved : Int32) (v_place : FI) (v_low : FJ) (v_high : FJ) (v_lowBefore : FJ) (v_highBefore : FJ) (v_least : FJ) (v_greatest : FJ) (v_things : Int32) (v_changing : Int32) (v_overLow : FJ) (v_overHigh : FJ) (v_text : FI) (v_length : Int32) (v_at : Int32) (v_readKey : FI) (v_readCount : FJ) (v_keys : Int32) (v_h : Int64) (N : Nat) (t2 : Int32) (c3 : Int32) (out : Int32 × Int32) : ∀ (H : Heap) (locs : List Loc) (ls : Array Slot), va_P D vwCl [W_Model k b0 o0 v_row v_number v_saved v_place v_low v_high v_lowBefore v_highBefore v_least v_greatest v_things v_changing v_overLow v_overHigh v_text v_length c3 v_readKey v_readCount v_keys v_h].flatten H → va_D A [W_Model k b0 o0 v_row v_number v_saved v_place v_low v_high v_lowBefore v_highBefore v_least v_greatest v_things v_changing v_overLow v_overHigh v_text v_length c3 v_readKey v_readCount v_keys v_h].flatten → va_S A s.heap H locs → lv_has ls 3 [(0, .ref (b0 o0))] → f_Model_sign_J13 t2 c3 = some out → W p l e rm_Model_sign s m args below meth c H locs 0 0 (Q_Model_sign below D k A args s b0 o0 v_row v_number v_saved v_place v_low v_high v_lowBefore v_highBefore v_least v_greatest v_things v_changing v_overLow v_overHigh v_text v_length v_at v_readKey v_readCount v_keys v_h out) (F0 m 13 ls [.int t2]) := by
  have hx := X.1.1
  have hb := X.1.2.1
  have hml := X.1.2.2.1
  have hown := X.1.2.2.2.1
  have hts := X.1.2.2.2.2
  intro H locs ls hP hD hS hl hf
  rw [f_Model_sign_J13] at hf
  refine lv_istore_n (lv' := [(2, .int t2), (0, .ref (b0 o0))]) hx hb dX8_sign_13 rfl hl (by decide) rfl (fun ls hl => ?_)
  refine lv_aload_n hx hb dX8_sign_14 rfl (lv_at hl 1 rfl) ?_
  refine lv_dup hx hb dX8_sign_15 rfl ?_
  refine kget (v := .int c3) X hP ff_X8_178 0 rfl rfl dX8_sign_16 ?_
  refine lv_iload_n hx hb dX8_sign_19 rfl (lv_at hl 0 rfl) ?_
  refine lv_if_eq (tgt := 27) hx hb dX8_sign_20 (by decide) (fun hc => ?_) (fun hc => ?_)
  · have hf := ofpos hf hc
    refine lv_iconst (v := 0) hx hb dX8_sign_27 (by decide) ?_
    refine lv_iadd hx hb dX8_sign_28 ?_
    generalize hy4 : c3 + 0 = y4 at hf ⊢
    refine kputi (v := y4) X hP hD hS fp_X8_178 0 rfl (Nat.le_of_ble_eq_true rfl) dX8_sign_29 (fun H locs hP hD hS => ?_)
    have hP : va_P D vwCl [W_Model k b0 o0 v_row v_number v_saved v_place v_low v_high v_lowBefore v_highBefore v_least v_greatest v_things v_changing v_overLow v_overHigh v_text v_length y4 v_readKey v_readCount v_keys v_h].flatten _ := hP
    have hD : va_D A [W_Model k b0 o0 v_row v_number v_saved v_place v_low v_high v_lowBefore v_highBefore v_least v_greatest v_things v_changing v_overLow v_overHigh v_text v_length y4 v_readKey v_readCount v_keys v_h].flatten := hD
    refine lv_iload_n hx hb dX8_sign_32 rfl (lv_at hl 0 rfl) ?_
    obtain ⟨hz, hf⟩ := ofif hf
    have hf := Option.some.inj hf
    subst hf
    exact kzret (v := t2) X hP hD hS (zck_n hz) dX8_sign_33
  · have hf := ofneg hf hc
    refine lv_iconst (v := 1) hx hb dX8_sign_23 (by decide) ?_
    refine lv_goto (tgt := 28) hx hb dX8_sign_24 (by decide) ?_
    refine lv_iadd hx hb dX8_sign_28 ?_
    generalize hy5 : c3 + 1 = y5 at hf ⊢
    refine kputi (v := y5) X hP hD hS fp_X8_178 0 rfl (Nat.le_of_ble_eq_true rfl) dX8_sign_29 (fun H locs hP hD hS => ?_)
    have hP : va_P D vwCl [W_Model k b0 o0 v_row v_number v_saved v_place v_low v_high v_lowBefore v_highBefore v_least v_greatest v_things v_changing v_overLow v_overHigh v_text v_length y5 v_readKey v_readCount v_keys v_h].flatten _ := hP
    have hD : va_D A [W_Model k b0 o0 v_row v_number v_saved v_place v_low v_high v_lowBefore v_highBefore v_least v_greatest v_things v_changing v_overLow v_overHigh v_text v_length y5 v_readKey v_readCount v_keys v_h].flatten := hD
    refine lv_iload_n hx hb dX8_sign_32 rfl (lv_at hl 0 rfl) ?_
    obtain ⟨hz, hf⟩ := ofif hf
    have hf := Option.some.inj hf
    subst hf
    exact kzret (v := t2) X hP hD hS (zck_n hz) dX8_sign_33
set_option maxRecDepth 100000 in
set_option maxHeartbeats 1000000 in
theorem c_Model_sign (l : Launch) (D : va_G) (k : Nat → ClassId) (t : Nat → Nat) (b0 : Nat → Nat) (o0 : Nat) (v_row : FI) (v_number : FJ) (v_saved : Int32) (v_place : FI) (v_low : FJ) (v_high : FJ) (v_lowBefore : FJ) (v_highBefore : FJ) (v_least : FJ) (v_greatest : FJ) (v_things : Int32) (v_changing : Int32) (v_overLow : FJ) (v_overHigh : FJ) (v_text : FI) (v_length : Int32) (v_at : Int32) (v_readKey : FI) (v_readCount : FJ) (v_keys : Int32) (v_h : Int64) (x1 : Int32) (N : Nat) (out : Int32 × Int32) (hf : f_Model_sign N x1 v_text v_length v_at = some out) : CT l D k t yX8_sign cX8_sign 3 (some .boolean) rm_Model_sign [.ref (b0 o0), .int x1] [W_Model k b0 o0 v_row v_number v_saved v_place v_low v_high v_lowBefore v_highBefore v_least v_greatest v_things v_changing v_overLow v_overHigh v_text v_length v_at v_readKey v_readCount v_keys v_h].flatten (some (.int out.1)) [W_Model k b0 o0 v_row v_number v_saved v_place v_low v_high v_lowBefore v_highBefore v_least v_greatest v_things v_changing v_overLow v_overHigh v_text v_length out.2 v_readKey v_readCount v_keys v_h].flatten := by
  refine kofW (by decide) (Nat.le_of_ble_eq_true rfl) ?_
  intro p e s m below meth c A ls X hP hD hS hl
  have hx := X.1.1
  have hb := X.1.2.1
  have hml := X.1.2.2.1
  have hown := X.1.2.2.2.1
  have hts := X.1.2.2.2.2
  have hl : lv_has ls 3 [(0, .ref (b0 o0)), (1, .int x1)] := hl
  rw [f_Model_sign] at hf
  refine lv_aload_n hx hb dX8_sign_0 rfl (lv_at hl 0 rfl) ?_
  obtain ⟨r1, hg_r1, hf⟩ := ofbind hf
  refine kcV (bs := [W_Model k b0 o0 v_row v_number v_saved v_place v_low v_high v_lowBefore v_highBefore v_least v_greatest v_things v_changing v_overLow v_overHigh v_text v_length v_at v_readKey v_readCount v_keys v_h]) (br := []) (bc := [W_Model k b0 o0 v_row v_number v_saved v_place v_low v_high v_lowBefore v_highBefore v_least v_greatest v_things v_changing v_overLow v_overHigh v_text v_length v_at v_readKey v_readCount v_keys v_h]) (bc' := [W_Model k b0 o0 v_row v_number v_saved v_place v_low v_high v_lowBefore v_highBefore v_least v_greatest v_things v_changing v_overLow v_overHigh v_text v_length r1.2 v_readKey v_readCount v_keys v_h]) X hP hD hS (c_Model_here l D k t b0 o0 v_row v_number v_saved v_place v_low v_high v_lowBefore v_highBefore v_least v_greatest v_things v_changing v_overLow v_overHigh v_text v_length v_at v_readKey v_readCount v_keys v_h N r1 hg_r1) mv_X8_181 hl [] [0] 8 ⟨rfl, rfl⟩ ⟨Nat.le_of_ble_eq_true rfl, Nat.le_of_ble_eq_true rfl⟩ rfl rfl rfl rfl rfl rfl rfl (Nat.le_of_ble_eq_true rfl) dX8_sign_1 (fun H locs hP hD hS => ?_)
  have hP : va_P D vwCl [W_Model k b0 o0 v_row v_number v_saved v_place v_low v_high v_lowBefore v_highBefore v_least v_greatest v_things v_changing v_overLow v_overHigh v_text v_length r1.2 v_readKey v_readCount v_keys v_h].flatten _ := hP
  have hD : va_D A [W_Model k b0 o0 v_row v_number v_saved v_place v_low v_high v_lowBefore v_highBefore v_least v_greatest v_things v_changing v_overLow v_overHigh v_text v_length r1.2 v_readKey v_readCount v_keys v_h].flatten := hD
  refine lv_iload_n hx hb dX8_sign_4 rfl (lv_at hl 1 rfl) ?_
  refine lv_icmp_ne (tgt := 12) hx hb dX8_sign_5 (by decide) (fun hc => ?_) (fun hc => ?_)
  · have hf := ofneg hf hc
    refine lv_iconst (v := 0) hx hb dX8_sign_12 (by decide) ?_
    exact w_Model_sign_J13 X b0 o0 v_row v_number v_saved v_place v_low v_high v_lowBefore v_highBefore v_least v_greatest v_things v_changing v_overLow v_overHigh v_text v_length v_at v_readKey v_readCount v_keys v_h N 0 r1.2 out _ _ _ hP hD hS (lv_sub hl [0] rfl) hf
  · have hf := ofpos hf hc
    refine lv_iconst (v := 1) hx hb dX8_sign_8 (by decide) ?_
    refine lv_goto (tgt := 13) hx hb dX8_sign_9 (by decide) ?_
    exact w_Model_sign_J13 X b0 o0 v_row v_number v_saved v_place v_low v_high v_lowBefore v_highBefore v_least v_greatest v_things v_changing v_overLow v_overHigh v_text v_length v_at v_readKey v_readCount v_keys v_h N 1 r1.2 out _ _ _ hP hD hS (lv_sub hl [0] rfl) hf
