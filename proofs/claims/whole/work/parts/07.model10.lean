/-! Model_here: private int here(); -/
abbrev rm_Model_here : Room := ({ frames := 0, cells := 0, slots := 0, locals := 0 } : Room)
def f_Model_here_L0 (v_text : FI) (v_length : Int32) (K38 : Int32 → Option (Int32 × Int32)) : Nat → Int32 → Option (Int32 × Int32)
  | 0, _ => none
  | n + 1, c2 => if v_length ≤ c2 then K38 c2 else if ck c2 100 = true then if (v_text c2.toNatClampNeg) = 32 then f_Model_here_L0 v_text v_length K38 n (c2 + 1) else K38 c2 else none
def f_Model_here_J38 (c5 : Int32) (v_text : FI) (v_length : Int32) : Option (Int32 × Int32) := if v_length ≤ c5 then some ((-1), c5) else if ck c5 100 = true then some (v_text c5.toNatClampNeg, c5) else none
def f_Model_here (N : Nat) (v_text : FI) (v_length : Int32) (v_at : Int32) : Option (Int32 × Int32) := f_Model_here_L0 v_text v_length (fun c4 => f_Model_here_J38 c4 v_text v_length) N v_at
abbrev Q_Model_here (below : List Frame) (D : va_G) (k : Nat → ClassId) (A : Nat → Prop) (args : Array Value) (s : State) (b0 : Nat → Nat) (o0 : Nat) (v_row : FI) (v_number : FJ) (v_saved : Int32) (v_place : FI) (v_low : FJ) (v_high : FJ) (v_lowBefore : FJ) (v_highBefore : FJ) (v_least : FJ) (v_greatest : FJ) (v_things : Int32) (v_changing : Int32) (v_overLow : FJ) (v_overHigh : FJ) (v_text : FI) (v_length : Int32) (v_at : Int32) (v_readKey : FI) (v_readCount : FJ) (v_keys : Int32) (v_h : Int64) (out : Int32 × Int32) : State → Prop := MQ below (QW D k A (some (.int out.1)) [W_Model k b0 o0 v_row v_number v_saved v_place v_low v_high v_lowBefore v_highBefore v_least v_greatest v_things v_changing v_overLow v_overHigh v_text v_length out.2 v_readKey v_readCount v_keys v_h].flatten) args s 0 0 A
set_option maxRecDepth 100000 in
set_option maxHeartbeats 1000000 in
theorem w_Model_here_L0 {p : Program} {l : Launch} {e : Env} {s : State} {m : MethodId} {below : List Frame} {meth : Method} {c : Code} {args : Array Value} {A : Nat → Prop} {D : va_G} {k : Nat → ClassId} {t : Nat → Nat} (X : BX l D k t p s m args meth c cX8_here 1 RX8 (some .int) A) (b0 : Nat → Nat) (o0 : Nat) (v_row : FI) (v_number : FJ) (v_saved : Int32) (v_place : FI) (v_low : FJ) (v_high : FJ) (v_lowBefore : FJ) (v_highBefore : FJ) (v_least : FJ) (v_greatest : FJ) (v_things : Int32) (v_changing : Int32) (v_overLow : FJ) (v_overHigh : FJ) (v_text : FI) (v_length : Int32) (v_at : Int32) (v_readKey : FI) (v_readCount : FJ) (v_keys : Int32) (v_h : Int64) (N : Nat) (out : Int32 × Int32) (K38 : Int32 → Option (Int32 × Int32)) (hK38 : ∀ (c2' : Int32) (H : Heap) (locs : List Loc) (ls : Array Slot), va_P D vwCl [W_Model k b0 o0 v_row v_number v_saved v_place v_low v_high v_lowBefore v_highBefore v_least v_greatest v_things v_changing v_overLow v_overHigh v_text v_length c2' v_readKey v_readCount v_keys v_h].flatten H → va_D A [W_Model k b0 o0 v_row v_number v_saved v_place v_low v_high v_lowBefore v_highBefore v_least v_greatest v_things v_changing v_overLow v_overHigh v_text v_length c2' v_readKey v_readCount v_keys v_h].flatten → va_S A s.heap H locs → lv_has ls 1 [(0, .ref (b0 o0))] → K38 c2' = some out → W p l e rm_Model_here s m args below meth c H locs 0 0 (Q_Model_here below D k A args s b0 o0 v_row v_number v_saved v_place v_low v_high v_lowBefore v_highBefore v_least v_greatest v_things v_changing v_overLow v_overHigh v_text v_length v_at v_readKey v_readCount v_keys v_h out) (F0 m 38 ls [])) : ∀ (n : Nat) (c2 : Int32) (H : Heap) (locs : List Loc) (ls : Array Slot), va_P D vwCl [W_Model k b0 o0 v_row v_number v_saved v_place v_low v_high v_lowBefore v_highBefore v_least v_greatest v_things v_changing v_overLow v_overHigh v_text v_length c2 v_readKey v_readCount v_keys v_h].flatten H → va_D A [W_Model k b0 o0 v_row v_number v_saved v_place v_low v_high v_lowBefore v_highBefore v_least v_greatest v_things v_changing v_overLow v_overHigh v_text v_length c2 v_readKey v_readCount v_keys v_h].flatten → va_S A s.heap H locs → lv_has ls 1 [(0, .ref (b0 o0))] → f_Model_here_L0 v_text v_length K38 n c2 = some out → W p l e rm_Model_here s m args below meth c H locs 0 0 (Q_Model_here below D k A args s b0 o0 v_row v_number v_saved v_place v_low v_high v_lowBefore v_highBefore v_least v_greatest v_things v_changing v_overLow v_overHigh v_text v_length v_at v_readKey v_readCount v_keys v_h out) (F0 m 0 ls []) := by
  have hx := X.1.1
  have hb := X.1.2.1
  have hml := X.1.2.2.1
  have hown := X.1.2.2.2.1
  have hts := X.1.2.2.2.2
  intro n
  induction n with
  | zero =>
    intro c2 H locs ls hP hD hS hl hf
    rw [f_Model_here_L0] at hf
    cases hf
  | succ n ih =>
    intro c2 H locs ls hP hD hS hl hf
    rw [f_Model_here_L0] at hf
    refine lv_aload_n hx hb dX8_here_0 rfl (lv_at hl 0 rfl) ?_
    refine kget (v := .int c2) X hP ff_X8_178 0 rfl rfl dX8_here_1 ?_
    refine lv_aload_n hx hb dX8_here_4 rfl (lv_at hl 0 rfl) ?_
    refine kget (v := .int v_length) X hP ff_X8_175 0 rfl rfl dX8_here_5 ?_
    refine lv_icmp_ge (tgt := 38) hx hb dX8_here_8 (by decide) (fun hc => ?_) (fun hc => ?_)
    · have hf := ofpos hf hc
      exact hK38 c2 _ _ _ hP hD hS (lv_sub hl [0] rfl) hf
    · have hf := ofneg hf hc
      refine lv_aload_n hx hb dX8_here_11 rfl (lv_at hl 0 rfl) ?_
      refine kget (v := .ref (b0 (o0+12))) X hP ff_X8_44 0 rfl rfl dX8_here_12 ?_
      refine lv_aload_n hx hb dX8_here_15 rfl (lv_at hl 0 rfl) ?_
      refine kget (v := .int c2) X hP ff_X8_178 0 rfl rfl dX8_here_16 ?_
      obtain ⟨hc, hf⟩ := ofck hf
      refine kiald (f := v_text) (n := 100) X hP 12 rfl hc dX8_here_19 ?_
      refine lv_bipush (v := 32) hx hb dX8_here_20 (by decide) ?_
      refine lv_icmp_ne (tgt := 38) hx hb dX8_here_22 (by decide) (fun hc => ?_) (fun hc => ?_)
      · have hf := ofneg hf hc
        exact hK38 c2 _ _ _ hP hD hS (lv_sub hl [0] rfl) hf
      · have hf := ofpos hf hc
        refine lv_aload_n hx hb dX8_here_25 rfl (lv_at hl 0 rfl) ?_
        refine lv_dup hx hb dX8_here_26 rfl ?_
        refine kget (v := .int c2) X hP ff_X8_178 0 rfl rfl dX8_here_27 ?_
        refine lv_iconst (v := 1) hx hb dX8_here_30 (by decide) ?_
        refine lv_iadd hx hb dX8_here_31 ?_
        generalize hy3 : c2 + 1 = y3 at hf ⊢
        refine kputi (v := y3) X hP hD hS fp_X8_178 0 rfl (Nat.le_of_ble_eq_true rfl) dX8_here_32 (fun H locs hP hD hS => ?_)
        have hP : va_P D vwCl [W_Model k b0 o0 v_row v_number v_saved v_place v_low v_high v_lowBefore v_highBefore v_least v_greatest v_things v_changing v_overLow v_overHigh v_text v_length y3 v_readKey v_readCount v_keys v_h].flatten _ := hP
        have hD : va_D A [W_Model k b0 o0 v_row v_number v_saved v_place v_low v_high v_lowBefore v_highBefore v_least v_greatest v_things v_changing v_overLow v_overHigh v_text v_length y3 v_readKey v_readCount v_keys v_h].flatten := hD
        refine lv_goto (tgt := 0) hx hb dX8_here_35 (by decide) ?_
        exact ih y3 _ _ _ hP hD hS (lv_sub hl [0] rfl) hf
set_option maxRecDepth 100000 in
set_option maxHeartbeats 1000000 in
theorem w_Model_here_J38 {p : Program} {l : Launch} {e : Env} {s : State} {m : MethodId} {below : List Frame} {meth : Method} {c : Code} {args : Array Value} {A : Nat → Prop} {D : va_G} {k : Nat → ClassId} {t : Nat → Nat} (X : BX l D k t p s m args meth c cX8_here 1 RX8 (some .int) A) (b0 : Nat → Nat) (o0 : Nat) (v_row : FI) (v_number : FJ) (v_saved : Int32) (v_place : FI) (v_low : FJ) (v_high : FJ) (v_lowBefore : FJ) (v_highBefore : FJ) (v_least : FJ) (v_greatest : FJ) (v_things : Int32) (v_changing : Int32) (v_overLow : FJ) (v_overHigh : FJ) (v_text : FI) (v_length : Int32) (v_at : Int32) (v_readKey : FI) (v_readCount : FJ) (v_keys : Int32) (v_h : Int64) (N : Nat) (c5 : Int32) (out : Int32 × Int32) : ∀ (H : Heap) (locs : List Loc) (ls : Array Slot), va_P D vwCl [W_Model k b0 o0 v_row v_number v_saved v_place v_low v_high v_lowBefore v_highBefore v_least v_greatest v_things v_changing v_overLow v_overHigh v_text v_length c5 v_readKey v_readCount v_keys v_h].flatten H → va_D A [W_Model k b0 o0 v_row v_number v_saved v_place v_low v_high v_lowBefore v_highBefore v_least v_greatest v_things v_changing v_overLow v_overHigh v_text v_length c5 v_readKey v_readCount v_keys v_h].flatten → va_S A s.heap H locs → lv_has ls 1 [(0, .ref (b0 o0))] → f_Model_here_J38 c5 v_text v_length = some out → W p l e rm_Model_here s m args below meth c H locs 0 0 (Q_Model_here below D k A args s b0 o0 v_row v_number v_saved v_place v_low v_high v_lowBefore v_highBefore v_least v_greatest v_things v_changing v_overLow v_overHigh v_text v_length v_at v_readKey v_readCount v_keys v_h out) (F0 m 38 ls []) := by
  have hx := X.1.1
  have hb := X.1.2.1
  have hml := X.1.2.2.1
  have hown := X.1.2.2.2.1
  have hts := X.1.2.2.2.2
  intro H locs ls hP hD hS hl hf
  rw [f_Model_here_J38] at hf
  refine lv_aload_n hx hb dX8_here_38 rfl (lv_at hl 0 rfl) ?_
  refine kget (v := .int c5) X hP ff_X8_178 0 rfl rfl dX8_here_39 ?_
  refine lv_aload_n hx hb dX8_here_42 rfl (lv_at hl 0 rfl) ?_
  refine kget (v := .int v_length) X hP ff_X8_175 0 rfl rfl dX8_here_43 ?_
  refine lv_icmp_ge (tgt := 61) hx hb dX8_here_46 (by decide) (fun hc => ?_) (fun hc => ?_)
  · have hf := ofpos hf hc
    refine lv_iconst (v := (-1)) hx hb dX8_here_61 (by decide) ?_
    have hf := Option.some.inj hf
    subst hf
    exact kiret (v := (-1)) X hP hD hS dX8_here_62
  · have hf := ofneg hf hc
    refine lv_aload_n hx hb dX8_here_49 rfl (lv_at hl 0 rfl) ?_
    refine kget (v := .ref (b0 (o0+12))) X hP ff_X8_44 0 rfl rfl dX8_here_50 ?_
    refine lv_aload_n hx hb dX8_here_53 rfl (lv_at hl 0 rfl) ?_
    refine kget (v := .int c5) X hP ff_X8_178 0 rfl rfl dX8_here_54 ?_
    obtain ⟨hc, hf⟩ := ofck hf
    refine kiald (f := v_text) (n := 100) X hP 12 rfl hc dX8_here_57 ?_
    refine lv_goto (tgt := 62) hx hb dX8_here_58 (by decide) ?_
    have hf := Option.some.inj hf
    subst hf
    exact kiret (v := v_text c5.toNatClampNeg) X hP hD hS dX8_here_62
set_option maxRecDepth 100000 in
set_option maxHeartbeats 1000000 in
theorem c_Model_here (l : Launch) (D : va_G) (k : Nat → ClassId) (t : Nat → Nat) (b0 : Nat → Nat) (o0 : Nat) (v_row : FI) (v_number : FJ) (v_saved : Int32) (v_place : FI) (v_low : FJ) (v_high : FJ) (v_lowBefore : FJ) (v_highBefore : FJ) (v_least : FJ) (v_greatest : FJ) (v_things : Int32) (v_changing : Int32) (v_overLow : FJ) (v_overHigh : FJ) (v_text : FI) (v_length : Int32) (v_at : Int32) (v_readKey : FI) (v_readCount : FJ) (v_keys : Int32) (v_h : Int64) (N : Nat) (out : Int32 × Int32) (hf : f_Model_here N v_text v_length v_at = some out) : CT l D k t yX8_here cX8_here 1 (some .int) rm_Model_here [.ref (b0 o0)] [W_Model k b0 o0 v_row v_number v_saved v_place v_low v_high v_lowBefore v_highBefore v_least v_greatest v_things v_changing v_overLow v_overHigh v_text v_length v_at v_readKey v_readCount v_keys v_h].flatten (some (.int out.1)) [W_Model k b0 o0 v_row v_number v_saved v_place v_low v_high v_lowBefore v_highBefore v_least v_greatest v_things v_changing v_overLow v_overHigh v_text v_length out.2 v_readKey v_readCount v_keys v_h].flatten := by
  refine kofW (by decide) (Nat.le_of_ble_eq_true rfl) ?_
  intro p e s m below meth c A ls X hP hD hS hl
  have hx := X.1.1
  have hb := X.1.2.1
  have hml := X.1.2.2.1
  have hown := X.1.2.2.2.1
  have hts := X.1.2.2.2.2
  have hl : lv_has ls 1 [(0, .ref (b0 o0))] := hl
  rw [f_Model_here] at hf
  refine w_Model_here_L0 X b0 o0 v_row v_number v_saved v_place v_low v_high v_lowBefore v_highBefore v_least v_greatest v_things v_changing v_overLow v_overHigh v_text v_length v_at v_readKey v_readCount v_keys v_h N out _ ?_ N v_at _ _ _ hP hD hS (lv_sub hl [0] rfl) hf
  · intro c4 H locs ls hP hD hS hl hf
    exact w_Model_here_J38 X b0 o0 v_row v_number v_saved v_place v_low v_high v_lowBefore v_highBefore v_least v_greatest v_things v_changing v_overLow v_overHigh v_text v_length v_at v_readKey v_readCount v_keys v_h N c4 out _ _ _ hP hD hS (lv_sub hl [0] rfl) hf
