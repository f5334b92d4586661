/-! Model_readsAll: private boolean readsAll(boolean); -/
abbrev rm_Model_readsAll : Room := ({ frames := 4, cells := 0, slots := 0, locals := 107 } : Room)
def f_Model_readsAll_L18 (c7 : FI) (c8 : FJ) (c12 : Int32) (K59 : Int32 → FI → FJ → Option (Int32 × FI × FJ × Int32 × FI × FJ × Int32)) : Nat → Int32 → FI → FJ → Option (Int32 × FI × FJ × Int32 × FI × FJ × Int32)
  | 0, _, _, _ => none
  | n + 1, i6, c10, c11 => if c12 ≤ i6 then K59 i6 c10 c11 else if ck (7 + i6) 1002 = true then if ck i6 16 = true then (f_Model_truthAt 0 i6 c8).bind (fun r14 => if ck i6 16 = true then f_Model_readsAll_L18 c7 c8 c12 K59 n (i6 + 1) (upd c10 i6.toNatClampNeg (c7 (7 + i6).toNatClampNeg)) (vp_updL c11 i6.toNatClampNeg r14) else none) else none else none
def f_Model_readsAll_J101 (N : Nat) (j43 : Int32) (t44 : Int32) (c45 : FI) (c46 : FJ) (c47 : Int32) (c48 : FI) (c49 : FJ) (c50 : Int32) (v_text : FI) (v_length : Int32) (B70 : Int32 → Int32 → FI → FJ → Int32 → FI → FJ → Int32 → Option (Int32 × FI × FJ × Int32 × FI × FJ × Int32)) : Option (Int32 × FI × FJ × Int32 × FI × FJ × Int32) := if t44 = 0 then B70 t44 j43 c45 c46 c47 c48 c49 c50 else (f_Model_here N v_text v_length c47).bind (fun r51 => B70 t44 r51.1 c45 c46 r51.2 c48 c49 c50)
def f_Model_readsAll_J100 (N : Nat) (j35 : Int32) (c36 : FI) (c37 : FJ) (c38 : Int32) (c39 : FI) (c40 : FJ) (c41 : Int32) (v_text : FI) (v_length : Int32) (B70 : Int32 → Int32 → FI → FJ → Int32 → FI → FJ → Int32 → Option (Int32 × FI × FJ × Int32 × FI × FJ × Int32)) : Option (Int32 × FI × FJ × Int32 × FI × FJ × Int32) := f_Model_readsAll_J101 N j35 0 c36 c37 c38 c39 c40 c41 v_text v_length B70
def f_Model_readsAll_L70 (N : Nat) (i24 : Int32) (v_text : FI) (v_length : Int32) (K118 : Int32 → Int32 → FI → FJ → Int32 → FI → FJ → Int32 → Option (Int32 × FI × FJ × Int32 × FI × FJ × Int32)) : Nat → Int32 → Int32 → FI → FJ → Int32 → FI → FJ → Int32 → Option (Int32 × FI × FJ × Int32 × FI × FJ × Int32)
  | 0, _, _, _, _, _, _, _, _ => none
  | n + 1, i25, i26, c27, c28, c29, c30, c31, c32 => if i25 = 0 then K118 i25 i26 c27 c28 c29 c30 c31 c32 else if i26 = (-1) then K118 i25 i26 c27 c28 c29 c30 c31 c32 else (f_Model_sign N 59 v_text v_length c29).bind (fun r33 => if r33.1 = 0 then f_Model_readsAll_J100 N i26 c27 c28 r33.2 c30 c31 c32 v_text v_length (f_Model_readsAll_L70 N i24 v_text v_length K118 n) else (f_Model_readsItem N i24 c27 c28 v_text v_length r33.2 c30 c31 c32).bind (fun r52 => if r52.1 = 0 then f_Model_readsAll_J100 N i26 r52.2.1 r52.2.2.1 r52.2.2.2.1 r52.2.2.2.2.1 r52.2.2.2.2.2.1 r52.2.2.2.2.2.2 v_text v_length (f_Model_readsAll_L70 N i24 v_text v_length K118 n) else f_Model_readsAll_J101 N i26 1 r52.2.1 r52.2.2.1 r52.2.2.2.1 r52.2.2.2.2.1 r52.2.2.2.2.2.1 r52.2.2.2.2.2.2 v_text v_length (f_Model_readsAll_L70 N i24 v_text v_length K118 n)))
def f_Model_readsAll (N : Nat) (x1 : Int32) (v_row : FI) (v_number : FJ) (v_text : FI) (v_length : Int32) (v_at : Int32) (v_readKey : FI) (v_readCount : FJ) (v_keys : Int32) : Option (Int32 × FI × FJ × Int32 × FI × FJ × Int32) := if ck 6 1002 = true then f_Model_readsAll_L18 v_row v_number (v_row (6 : Int32).toNatClampNeg) (fun i16 c17 c18 => (f_Model_readsItem N x1 v_row v_number v_text v_length 0 c17 c18 (v_row (6 : Int32).toNatClampNeg)).bind (fun r19 => (f_Model_here N v_text v_length r19.2.2.2.1).bind (fun r20 => f_Model_readsAll_L70 N x1 v_text v_length (fun i53 i54 c55 c56 c57 c58 c59 c60 => if i53 = 0 ∨ i53 = 1 then some (i53, c55, c56, c57, c58, c59, c60) else none) N r19.1 r20.1 r19.2.1 r19.2.2.1 r20.2 r19.2.2.2.2.1 r19.2.2.2.2.2.1 r19.2.2.2.2.2.2))) N 0 v_readKey v_readCount else none
abbrev Q_Model_readsAll (below : List Frame) (D : va_G) (k : Nat → ClassId) (A : Nat → Prop) (args : Array Value) (s : State) (b0 : Nat → Nat) (o0 : Nat) (v_row : FI) (v_number : FJ) (v_saved : Int32) (v_place : FI) (v_low : FJ) (v_high : FJ) (v_lowBefore : FJ) (v_highBefore : FJ) (v_least : FJ) (v_greatest : FJ) (v_things : Int32) (v_changing : Int32) (v_overLow : FJ) (v_overHigh : FJ) (v_text : FI) (v_length : Int32) (v_at : Int32) (v_readKey : FI) (v_readCount : FJ) (v_keys : Int32) (v_h : Int64) (out : Int32 × FI × FJ × Int32 × FI × FJ × Int32) : State → Prop := MQ below (QW D k A (some (.int out.1)) [W_Model k b0 o0 out.2.1 out.2.2.1 v_saved v_place v_low v_high v_lowBefore v_highBefore v_least v_greatest v_things v_changing v_overLow v_overHigh v_text v_length out.2.2.2.1 out.2.2.2.2.1 out.2.2.2.2.2.1 out.2.2.2.2.2.2 v_h].flatten) args s 0 0 A
set_option maxRecDepth 100000 in
set_option maxHeartbeats 1000000 in
theorem w_Model_readsAll_L18 {p : Program} {l : Launch} {e : Env} {s : State} {m : MethodId} {below : List Frame} {meth : Method} {c : Code} {args : Array Value} {A : Nat → Prop} {D : va_G} {k : Nat → ClassId} {t : Nat → Nat} (X : BX l D k t p s m args meth c cX8_readsAll 4 RX8 (some .boolean) A) (b0 : Nat → Nat) (o0 : Nat) (v_row : FI) (v_number : FJ) (v_saved : Int32) (v_place : FI) (v_low : FJ) (v_high : FJ) (v_lowBefore : FJ) (v_highBefore : FJ) (v_least : FJ) (v_greatest : FJ) (v_things : Int32) (v_changing : Int32) (v_overLow : FJ) (v_overHigh : FJ) (v_text : FI) (v_length : Int32) (v_at : Int32) (v_readKey : FI) (v_readCount : FJ) (v_keys : Int32) (v_h : Int64) (N : Nat) (i5 : Int32) (c7 : FI) (c8 : FJ) (c9 : Int32) (c12 : Int32) (out : Int32 × FI × FJ × Int32 × FI × FJ × Int32) (K59 : Int32 → FI → FJ → Option (Int32 × FI × FJ × Int32 × FI × FJ × Int32)) (hK59 : ∀ (i6' : Int32) (c10' : FI) (c11' : FJ) (H : Heap) (locs : List Loc) (ls : Array Slot), va_P D vwCl [W_Model k b0 o0 c7 c8 v_saved v_place v_low v_high v_lowBefore v_highBefore v_least v_greatest v_things v_changing v_overLow v_overHigh v_text v_length c9 c10' c11' c12 v_h].flatten H → va_D A [W_Model k b0 o0 c7 c8 v_saved v_place v_low v_high v_lowBefore v_highBefore v_least v_greatest v_things v_changing v_overLow v_overHigh v_text v_length c9 c10' c11' c12 v_h].flatten → va_S A s.heap H locs → lv_has ls 4 [(0, .ref (b0 o0)), (1, .int i5)] → K59 i6' c10' c11' = some out → W p l e rm_Model_readsAll s m args below meth c H locs 0 0 (Q_Model_readsAll below D k A args s b0 o0 v_row v_number v_saved v_place v_low v_high v_lowBefore v_highBefore v_least v_greatest v_things v_changing v_overLow v_overHigh v_text v_length v_at v_readKey v_readCount v_keys v_h out) (F0 m 59 ls [])) : ∀ (n : Nat) (i6 : Int32) (c10 : FI) (c11 : FJ) (H : Heap) (locs : List Loc) (ls : Array Slot), va_P D vwCl [W_Model k b0 o0 c7 c8 v_saved v_place v_low v_high v_lowBefore v_highBefore v_least v_greatest v_things v_changing v_overLow v_overHigh v_text v_length c9 c10 c11 c12 v_h].flatten H → va_D A [W_Model k b0 o0 c7 c8 v_saved v_place v_low v_high v_lowBefore v_highBefore v_least v_greatest v_things v_changing v_overLow v_overHigh v_text v_length c9 c10 c11 c12 v_h].flatten → va_S A s.heap H locs → lv_has ls 4 [(0, .ref (b0 o0)), (1, .int i5), (2, .int i6)] → f_Model_readsAll_L18 c7 c8 c12 K59 n i6 c10 c11 = some out → W p l e rm_Model_readsAll s m args below meth c H locs 0 0 (Q_Model_readsAll below D k A args s b0 o0 v_row v_number v_saved v_place v_low v_high v_lowBefore v_highBefore v_least v_greatest v_things v_changing v_overLow v_overHigh v_text v_length v_at v_readKey v_readCount v_keys v_h out) (F0 m 18 ls []) := by
  have hx := X.1.1
  have hb := X.1.2.1
  have hml := X.1.2.2.1
  have hown := X.1.2.2.2.1
  have hts := X.1.2.2.2.2
  intro n
  induction n with
  | zero =>
    intro i6 c10 c11 H locs ls hP hD hS hl hf
    rw [f_Model_readsAll_L18] at hf
    cases hf
  | succ n ih =>
    intro i6 c10 c11 H locs ls hP hD hS hl hf
    rw [f_Model_readsAll_L18] at hf
    refine lv_iload_n hx hb dX8_readsAll_18 rfl (lv_at hl 2 rfl) ?_
    refine lv_aload_n hx hb dX8_readsAll_19 rfl (lv_at hl 0 rfl) ?_
    refine kget (v := .int c12) X hP ff_X8_184 0 rfl rfl dX8_readsAll_20 ?_
    refine lv_icmp_ge (tgt := 59) hx hb dX8_readsAll_23 (by decide) (fun hc => ?_) (fun hc => ?_)
    · have hf := ofpos hf hc
      exact hK59 i6 c10 c11 _ _ _ hP hD hS (lv_sub hl [0, 1] rfl) hf
    · have hf := ofneg hf hc
      refine lv_aload_n hx hb dX8_readsAll_26 rfl (lv_at hl 0 rfl) ?_
      refine kget (v := .ref (b0 (o0+13))) X hP ff_X8_47 0 rfl rfl dX8_readsAll_27 ?_
      refine lv_iload_n hx hb dX8_readsAll_30 rfl (lv_at hl 2 rfl) ?_
      refine lv_aload_n hx hb dX8_readsAll_31 rfl (lv_at hl 0 rfl) ?_
      refine kget (v := .ref (b0 (o0+1))) X hP ff_X8_7 0 rfl rfl dX8_readsAll_32 ?_
      refine lv_bipush (v := 7) hx hb dX8_readsAll_35 (by decide) ?_
      refine lv_iload_n hx hb dX8_readsAll_37 rfl (lv_at hl 2 rfl) ?_
      refine lv_iadd hx hb dX8_readsAll_38 ?_
      obtain ⟨hc, hf⟩ := ofck hf
      refine kiald (f := c7) (n := 1002) X hP 1 rfl hc dX8_readsAll_39 ?_
      obtain ⟨hc, hf⟩ := ofck hf
      generalize hc13 : upd c10 i6.toNatClampNeg (c7 (7 + i6).toNatClampNeg) = c13 at hf
      refine kiast2 (f := c10) (n := 16) (g := c13) X hP hD hS 13 rfl hc hc13 dX8_readsAll_40 (fun H locs hP hD hS => ?_)
      have hP : va_P D vwCl [W_Model k b0 o0 c7 c8 v_saved v_place v_low v_high v_lowBefore v_highBefore v_least v_greatest v_things v_changing v_overLow v_overHigh v_text v_length c9 c13 c11 c12 v_h].flatten _ := hP
      have hD : va_D A [W_Model k b0 o0 c7 c8 v_saved v_place v_low v_high v_lowBefore v_highBefore v_least v_greatest v_things v_changing v_overLow v_overHigh v_text v_length c9 c13 c11 c12 v_h].flatten := hD
      refine lv_aload_n hx hb dX8_readsAll_41 rfl (lv_at hl 0 rfl) ?_
      refine kget (v := .ref (b0 (o0+14))) X hP ff_X8_50 0 rfl rfl dX8_readsAll_42 ?_
      refine lv_iload_n hx hb dX8_readsAll_45 rfl (lv_at hl 2 rfl) ?_
      refine lv_aload_n hx hb dX8_readsAll_46 rfl (lv_at hl 0 rfl) ?_
      refine lv_iconst (v := 0) hx hb dX8_readsAll_47 (by decide) ?_
      refine lv_iload_n hx hb dX8_readsAll_48 rfl (lv_at hl 2 rfl) ?_
      obtain ⟨r14, hg_r14, hf⟩ := ofbind hf
      refine kcV (bs := [W_Model k b0 o0 c7 c8 v_saved v_place v_low v_high v_lowBefore v_highBefore v_least v_greatest v_things v_changing v_overLow v_overHigh v_text v_length c9 c13 c11 c12 v_h]) (br := []) (bc := [W_Model k b0 o0 c7 c8 v_saved v_place v_low v_high v_lowBefore v_highBefore v_least v_greatest v_things v_changing v_overLow v_overHigh v_text v_length c9 c13 c11 c12 v_h]) (bc' := [W_Model k b0 o0 c7 c8 v_saved v_place v_low v_high v_lowBefore v_highBefore v_least v_greatest v_things v_changing v_overLow v_overHigh v_text v_length c9 c13 c11 c12 v_h]) X hP hD hS (c_Model_truthAt l D k t b0 o0 c7 c8 v_saved v_place v_low v_high v_lowBefore v_highBefore v_least v_greatest v_things v_changing v_overLow v_overHigh v_text v_length c9 c13 c11 c12 v_h 0 i6 r14 hg_r14) mv_X8_108 hl [] [0] 8 ⟨rfl, rfl⟩ ⟨Nat.le_of_ble_eq_true rfl, Nat.le_of_ble_eq_true rfl⟩ rfl rfl rfl rfl rfl rfl rfl (Nat.le_of_ble_eq_true rfl) dX8_readsAll_49 (fun H locs hP hD hS => ?_)
      have hP : va_P D vwCl [W_Model k b0 o0 c7 c8 v_saved v_place v_low v_high v_lowBefore v_highBefore v_least v_greatest v_things v_changing v_overLow v_overHigh v_text v_length c9 c13 c11 c12 v_h].flatten _ := hP
      have hD : va_D A [W_Model k b0 o0 c7 c8 v_saved v_place v_low v_high v_lowBefore v_highBefore v_least v_greatest v_things v_changing v_overLow v_overHigh v_text v_length c9 c13 c11 c12 v_h].flatten := hD
      obtain ⟨hc, hf⟩ := ofck hf
      generalize hc15 : vp_updL c11 i6.toNatClampNeg r14 = c15 at hf
      refine klast2 (f := c11) (n := 16) (g := c15) X hP hD hS 14 rfl hc hc15 dX8_readsAll_52 (fun H locs hP hD hS => ?_)
      have hP : va_P D vwCl [W_Model k b0 o0 c7 c8 v_saved v_place v_low v_high v_lowBefore v_highBefore v_least v_greatest v_things v_changing v_overLow v_overHigh v_text v_length c9 c13 c15 c12 v_h].flatten _ := hP
      have hD : va_D A [W_Model k b0 o0 c7 c8 v_saved v_place v_low v_high v_lowBefore v_highBefore v_least v_greatest v_things v_changing v_overLow v_overHigh v_text v_length c9 c13 c15 c12 v_h].flatten := hD
      refine lv_iinc (v := i6 + 1) (lv' := [(2, .int (i6 + 1)), (0, .ref (b0 o0)), (1, .int i5)]) hx hb dX8_readsAll_53 hl (k := 2) rfl rfl (by decide) rfl (fun ls hl => ?_)
      refine lv_goto (tgt := 18) hx hb dX8_readsAll_56 (by decide) ?_
      exact ih (i6 + 1) c13 c15 _ _ _ hP hD hS (lv_sub hl [1, 2, 0] rfl) hf
set_option maxRecDepth 100000 in
set_option maxHeartbeats 1000000 in
theorem w_Model_readsAll_J101 {p : Program} {l : Launch} {e : Env} {s : State} {m : MethodId} {below : List Frame} {meth : Method} {c : Code} {args : Array Value} {A : Nat → Prop} {D : va_G} {k : Nat → ClassId} {t : Nat → Nat} (X : BX l D k t p s m args meth c cX8_readsAll 4 RX8 (some .boolean) A) (b0 : Nat → Nat) (o0 : Nat) (v_row : FI) (v_number : FJ) (v_saved : Int32) (v_place : FI) (v_low : FJ) (v_high : FJ) (v_lowBefore : FJ) (v_highBefore : FJ) (v_least : FJ) (v_greatest : FJ) (v_things : Int32) (v_changing : Int32) (v_overLow : FJ) (v_overHigh : FJ) (v_text : FI) (v_length : Int32) (v_at : Int32) (v_readKey : FI) (v_readCount : FJ) (v_keys : Int32) (v_h : Int64) (N : Nat) (j42 : Int32) (j43 : Int32) (t44 : Int32) (c45 : FI) (c46 : FJ) (c47 : Int32) (c48 : FI) (c49 : FJ) (c50 : Int32) (out : Int32 × FI × FJ × Int32 × FI × FJ × Int32) (B70 : Int32 → Int32 → FI → FJ → Int32 → FI → FJ → Int32 → Option (Int32 × FI × FJ × Int32 × FI × FJ × Int32)) (hB70 : ∀ (i25' : Int32) (i26' : Int32) (c27' : FI) (c28' : FJ) (c29' : Int32) (c30' : FI) (c31' : FJ) (c32' : Int32) (H : Heap) (locs : List Loc) (ls : Array Slot), va_P D vwCl [W_Model k b0 o0 c27' c28' v_saved v_place v_low v_high v_lowBefore v_highBefore v_least v_greatest v_things v_changing v_overLow v_overHigh v_text v_length c29' c30' c31' c32' v_h].flatten H → va_D A [W_Model k b0 o0 c27' c28' v_saved v_place v_low v_high v_lowBefore v_highBefore v_least v_greatest v_things v_changing v_overLow v_overHigh v_text v_length c29' c30' c31' c32' v_h].flatten → va_S A s.heap H locs → lv_has ls 4 [(0, .ref (b0 o0)), (1, .int j42), (2, .int i25'), (3, .int i26')] → B70 i25' i26' c27' c28' c29' c30' c31' c32' = some out → W p l e rm_Model_readsAll s m args below meth c H locs 0 0 (Q_Model_readsAll below D k A args s b0 o0 v_row v_number v_saved v_place v_low v_high v_lowBefore v_highBefore v_least v_greatest v_things v_changing v_overLow v_overHigh v_text v_length v_at v_readKey v_readCount v_keys v_h out) (F0 m 70 ls [])) : ∀ (H : Heap) (locs : List Loc) (ls : Array Slot), va_P D vwCl [W_Model k b0 o0 c45 c46 v_saved v_place v_low v_high v_lowBefore v_highBefore v_least v_greatest v_things v_changing v_overLow v_overHigh v_text v_length c47 c48 c49 c50 v_h].flatten H → va_D A [W_Model k b0 o0 c45 c46 v_saved v_place v_low v_high v_lowBefore v_highBefore v_least v_greatest v_things v_changing v_overLow v_overHigh v_text v_length c47 c48 c49 c50 v_h].flatten → va_S A s.heap H locs → lv_has ls 4 [(0, .ref (b0 o0)), (1, .int j42), (3, .int j43)] → f_Model_readsAll_J101 N j43 t44 c45 c46 c47 c48 c49 c50 v_text v_length B70 = some out → W p l e rm_Model_readsAll s m args below meth c H locs 0 0 (Q_Model_readsAll below D k A args s b0 o0 v_row v_number v_saved v_place v_low v_high v_lowBefore v_highBefore v_least v_greatest v_things v_changing v_overLow v_overHigh v_text v_length v_at v_readKey v_readCount v_keys v_h out) (F0 m 101 ls [.int t44]) := by
  have hx := X.1.1
  have hb := X.1.2.1
  have hml := X.1.2.2.1
  have hown := X.1.2.2.2.1
  have hts := X.1.2.2.2.2
  intro H locs ls hP hD hS hl hf
  rw [f_Model_readsAll_J101] at hf
  refine lv_istore_n (lv' := [(2, .int t44), (0, .ref (b0 o0)), (1, .int j42), (3, .int j43)]) hx hb dX8_readsAll_101 rfl hl (by decide) rfl (fun ls hl => ?_)
  refine lv_iload_n hx hb dX8_readsAll_102 rfl (lv_at hl 0 rfl) ?_
  refine lv_if_eq (tgt := 113) hx hb dX8_readsAll_103 (by decide) (fun hc => ?_) (fun hc => ?_)
  · have hf := ofpos hf hc
    refine lv_iload_n hx hb dX8_readsAll_113 rfl (lv_at hl 3 rfl) ?_
    refine lv_istore_n (lv' := [(3, .int j43), (2, .int t44), (0, .ref (b0 o0)), (1, .int j42)]) hx hb dX8_readsAll_114 rfl hl (by decide) rfl (fun ls hl => ?_)
    refine lv_goto (tgt := 70) hx hb dX8_readsAll_115 (by decide) ?_
    exact hB70 t44 j43 c45 c46 c47 c48 c49 c50 _ _ _ hP hD hS (lv_sub hl [2, 3, 1, 0] rfl) hf
  · have hf := ofneg hf hc
    refine lv_aload_n hx hb dX8_readsAll_106 rfl (lv_at hl 1 rfl) ?_
    obtain ⟨r51, hg_r51, hf⟩ := ofbind hf
    refine kcV (bs := [W_Model k b0 o0 c45 c46 v_saved v_place v_low v_high v_lowBefore v_highBefore v_least v_greatest v_things v_changing v_overLow v_overHigh v_text v_length c47 c48 c49 c50 v_h]) (br := []) (bc := [W_Model k b0 o0 c45 c46 v_saved v_place v_low v_high v_lowBefore v_highBefore v_least v_greatest v_things v_changing v_overLow v_overHigh v_text v_length c47 c48 c49 c50 v_h]) (bc' := [W_Model k b0 o0 c45 c46 v_saved v_place v_low v_high v_lowBefore v_highBefore v_least v_greatest v_things v_changing v_overLow v_overHigh v_text v_length r51.2 c48 c49 c50 v_h]) X hP hD hS (c_Model_here l D k t b0 o0 c45 c46 v_saved v_place v_low v_high v_lowBefore v_highBefore v_least v_greatest v_things v_changing v_overLow v_overHigh v_text v_length c47 c48 c49 c50 v_h N r51 hg_r51) mv_X8_181 hl [] [0] 8 ⟨rfl, rfl⟩ ⟨Nat.le_of_ble_eq_true rfl, Nat.le_of_ble_eq_true rfl⟩ rfl rfl rfl rfl rfl rfl rfl (Nat.le_of_ble_eq_true rfl) dX8_readsAll_107 (fun H locs hP hD hS => ?_)
    have hP : va_P D vwCl [W_Model k b0 o0 c45 c46 v_saved v_place v_low v_high v_lowBefore v_highBefore v_least v_greatest v_things v_changing v_overLow v_overHigh v_text v_length r51.2 c48 c49 c50 v_h].flatten _ := hP
    have hD : va_D A [W_Model k b0 o0 c45 c46 v_saved v_place v_low v_high v_lowBefore v_highBefore v_least v_greatest v_things v_changing v_overLow v_overHigh v_text v_length r51.2 c48 c49 c50 v_h].flatten := hD
    refine lv_goto (tgt := 114) hx hb dX8_readsAll_110 (by decide) ?_
    refine lv_istore_n (lv' := [(3, .int r51.1), (2, .int t44), (0, .ref (b0 o0)), (1, .int j42)]) hx hb dX8_readsAll_114 rfl hl (by decide) rfl (fun ls hl => ?_)
    refine lv_goto (tgt := 70) hx hb dX8_readsAll_115 (by decide) ?_
    exact hB70 t44 r51.1 c45 c46 r51.2 c48 c49 c50 _ _ _ hP hD hS (lv_sub hl [2, 3, 1, 0] rfl) hf
set_option maxRecDepth 100000 in
set_option maxHeartbeats 1000000 in
theorem w_Model_readsAll_J100 {p : Program} {l : Launch} {e : Env} {s : State} {m : MethodId} {below : List Frame} {meth : Method} {c : Code} {args : Array Value} {A : Nat → Prop} {D : va_G} {k : Nat → ClassId} {t : Nat → Nat} (X : BX l D k t p s m args meth c cX8_readsAll 4 RX8 (some .boolean) A) (b0 : Nat → Nat) (o0 : Nat) (v_row : FI) (v_number : FJ) (v_saved : Int32) (v_place : FI) (v_low : FJ) (v_high : FJ) (v_lowBefore : FJ) (v_highBefore : FJ) (v_least : FJ) (v_greatest : FJ) (v_things : Int32) (v_changing : Int32) (v_overLow : FJ) (v_overHigh : FJ) (v_text : FI) (v_length : Int32) (v_at : Int32) (v_readKey : FI) (v_readCount : FJ) (v_keys : Int32) (v_h : Int64) (N : Nat) (j34 : Int32) (j35 : Int32) (c36 : FI) (c37 : FJ) (c38 : Int32) (c39 : FI) (c40 : FJ) (c41 : Int32) (out : Int32 × FI × FJ × Int32 × FI × FJ × Int32) (B70 : Int32 → Int32 → FI → FJ → Int32 → FI → FJ → Int32 → Option (Int32 × FI × FJ × Int32 × FI × FJ × Int32)) (hB70 : ∀ (i25' : Int32) (i26' : Int32) (c27' : FI) (c28' : FJ) (c29' : Int32) (c30' : FI) (c31' : FJ) (c32' : Int32) (H : Heap) (locs : List Loc) (ls : Array Slot), va_P D vwCl [W_Model k b0 o0 c27' c28' v_saved v_place v_low v_high v_lowBefore v_highBefore v_least v_greatest v_things v_changing v_overLow v_overHigh v_text v_length c29' c30' c31' c32' v_h].flatten H → va_D A [W_Model k b0 o0 c27' c28' v_saved v_place v_low v_high v_lowBefore v_highBefore v_least v_greatest v_things v_changing v_overLow v_overHigh v_text v_length c29' c30' c31' c32' v_h].flatten → va_S A s.heap H locs → lv_has ls 4 [(0, .ref (b0 o0)), (1, .int j34), (2, .int i25'), (3, .int i26')] → B70 i25' i26' c27' c28' c29' c30' c31' c32' = some out → W p l e rm_Model_readsAll s m args below meth c H locs 0 0 (Q_Model_readsAll below D k A args s b0 o0 v_row v_number v_saved v_place v_low v_high v_lowBefore v_highBefore v_least v_greatest v_things v_changing v_overLow v_overHigh v_text v_length v_at v_readKey v_readCount v_keys v_h out) (F0 m 70 ls [])) : ∀ (H : Heap) (locs : List Loc) (ls : Array Slot), va_P D vwCl [W_Model k b0 o0 c36 c37 v_saved v_place v_low v_high v_lowBefore v_highBefore v_least v_greatest v_things v_changing v_overLow v_overHigh v_text v_length c38 c39 c40 c41 v_h].flatten H → va_D A [W_Model k b0 o0 c36 c37 v_saved v_place v_low v_high v_lowBefore v_highBefore v_least v_greatest v_things v_changing v_overLow v_overHigh v_text v_length c38 c39 c40 c41 v_h].flatten → va_S A s.heap H locs → lv_has ls 4 [(0, .ref (b0 o0)), (1, .int j34), (3, .int j35)] → f_Model_readsAll_J100 N j35 c36 c37 c38 c39 c40 c41 v_text v_length B70 = some out → W p l e rm_Model_readsAll s m args below meth c H locs 0 0 (Q_Model_readsAll below D k A args s b0 o0 v_row v_number v_saved v_place v_low v_high v_lowBefore v_highBefore v_least v_greatest v_things v_changing v_overLow v_overHigh v_text v_length v_at v_readKey v_readCount v_keys v_h out) (F0 m 100 ls []) := by
  have hx := X.1.1
  have hb := X.1.2.1
  have hml := X.1.2.2.1
  have hown := X.1.2.2.2.1
  have hts := X.1.2.2.2.2
  intro H locs ls hP hD hS hl hf
  rw [f_Model_readsAll_J100] at hf
  refine lv_iconst (v := 0) hx hb dX8_readsAll_100 (by decide) ?_
  exact w_Model_readsAll_J101 X b0 o0 v_row v_number v_saved v_place v_low v_high v_lowBefore v_highBefore v_least v_greatest v_things v_changing v_overLow v_overHigh v_text v_length v_at v_readKey v_readCount v_keys v_h N j34 j35 0 c36 c37 c38 c39 c40 c41 out _ hB70 _ _ _ hP hD hS (lv_sub hl [0, 1, 2] rfl) hf
set_option maxRecDepth 100000 in
set_option maxHeartbeats 1000000 in
theorem w_Model_readsAll_L70 {p : Program} {l : Launch} {e : Env} {s : State} {m : MethodId} {below : List Frame} {meth : Method} {c : Code} {args : Array Value} {A : Nat → Prop} {D : va_G} {k : Nat → ClassId} {t : Nat → Nat} (X : BX l D k t p s m args meth c cX8_readsAll 4 RX8 (some .boolean) A) (b0 : Nat → Nat) (o0 : Nat) (v_row : FI) (v_number : FJ) (v_saved : Int32) (v_place : FI) (v_low : FJ) (v_high : FJ) (v_lowBefore : FJ) (v_highBefore : FJ) (v_least : FJ) (v_greatest : FJ) (v_things : Int32) (v_changing : Int32) (v_overLow : FJ) (v_overHigh : FJ) (v_text : FI) (v_length : Int32) (v_at : Int32) (v_readKey : FI) (v_readCount : FJ) (v_keys : Int32) (v_h : Int64) (N : Nat) (i24 : Int32) (out : Int32 × FI × FJ × Int32 × FI × FJ × Int32) (K118 : Int32 → Int32 → FI → FJ → Int32 → FI → FJ → Int32 → Option (Int32 × FI × FJ × Int32 × FI × FJ × Int32)) (hK118 : ∀ (i25' : Int32) (i26' : Int32) (c27' : FI) (c28' : FJ) (c29' : Int32) (c30' : FI) (c31' : FJ) (c32' : Int32) (H : Heap) (locs : List Loc) (ls : Array Slot), va_P D vwCl [W_Model k b0 o0 c27' c28' v_saved v_place v_low v_high v_lowBefore v_highBefore v_least v_greatest v_things v_changing v_overLow v_overHigh v_text v_length c29' c30' c31' c32' v_h].flatten H → va_D A [W_Model k b0 o0 c27' c28' v_saved v_place v_low v_high v_lowBefore v_highBefore v_least v_greatest v_things v_changing v_overLow v_overHigh v_text v_length c29' c30' c31' c32' v_h].flatten → va_S A s.heap H locs → lv_has ls 4 [(2, .int i25')] → K118 i25' i26' c27' c28' c29' c30' c31' c32' = some out → W p l e rm_Model_readsAll s m args below meth c H locs 0 0 (Q_Model_readsAll below D k A args s b0 o0 v_row v_number v_saved v_place v_low v_high v_lowBefore v_highBefore v_least v_greatest v_things v_changing v_overLow v_overHigh v_text v_length v_at v_readKey v_readCount v_keys v_h out) (F0 m 118 ls [])) : ∀ (n : Nat) (i25 : Int32) (i26 : Int32) (c27 : FI) (c28 : FJ) (c29 : Int32) (c30 : FI) (c31 : FJ) (c32 : Int32) (H : Heap) (locs : List Loc) (ls : Array Slot), va_P D vwCl [W_Model k b0 o0 c27 c28 v_saved v_place v_low v_high v_lowBefore v_highBefore v_least v_greatest v_things v_changing v_overLow v_overHigh v_text v_length c29 c30 c31 c32 v_h].flatten H → va_D A [W_Model k b0 o0 c27 c28 v_saved v_place v_low v_high v_lowBefore v_highBefore v_least v_greatest v_things v_changing v_overLow v_overHigh v_text v_length c29 c30 c31 c32 v_h].flatten → va_S A s.heap H locs → lv_has ls 4 [(0, .ref (b0 o0)), (1, .int i24), (2, .int i25), (3, .int i26)] → f_Model_readsAll_L70 N i24 v_text v_length K118 n i25 i26 c27 c28 c29 c30 c31 c32 = some out → W p l e rm_Model_readsAll s m args below meth c H locs 0 0 (Q_Model_readsAll below D k A args s b0 o0 v_row v_number v_saved v_place v_low v_high v_lowBefore v_highBefore v_least v_greatest v_things v_changing v_overLow v_overHigh v_text v_length v_at v_readKey v_readCount v_keys v_h out) (F0 m 70 ls []) := by
  have hx := X.1.1
  have hb := X.1.2.1
  have hml := X.1.2.2.1
  have hown := X.1.2.2.2.1
  have hts := X.1.2.2.2.2
  intro n
  induction n with
  | zero =>
    intro i25 i26 c27 c28 c29 c30 c31 c32 H locs ls hP hD hS hl hf
    rw [f_Model_readsAll_L70] at hf
    cases hf
  | succ n ih =>
    intro i25 i26 c27 c28 c29 c30 c31 c32 H locs ls hP hD hS hl hf
    rw [f_Model_readsAll_L70] at hf
    refine lv_iload_n hx hb dX8_readsAll_70 rfl (lv_at hl 2 rfl) ?_
    refine lv_if_eq (tgt := 118) hx hb dX8_readsAll_71 (by decide) (fun hc => ?_) (fun hc => ?_)
    · have hf := ofpos hf hc
      exact hK118 i25 i26 c27 c28 c29 c30 c31 c32 _ _ _ hP hD hS (lv_sub hl [2] rfl) hf
    · have hf := ofneg hf hc
      refine lv_iload_n hx hb dX8_readsAll_74 rfl (lv_at hl 3 rfl) ?_
      refine lv_iconst (v := (-1)) hx hb dX8_readsAll_75 (by decide) ?_
      refine lv_icmp_eq (tgt := 118) hx hb dX8_readsAll_76 (by decide) (fun hc => ?_) (fun hc => ?_)
      · have hf := ofpos hf hc
        exact hK118 i25 i26 c27 c28 c29 c30 c31 c32 _ _ _ hP hD hS (lv_sub hl [2] rfl) hf
      · have hf := ofneg hf hc
        refine lv_aload_n hx hb dX8_readsAll_79 rfl (lv_at hl 0 rfl) ?_
        refine lv_bipush (v := 59) hx hb dX8_readsAll_80 (by decide) ?_
        obtain ⟨r33, hg_r33, hf⟩ := ofbind hf
        refine kcV (bs := [W_Model k b0 o0 c27 c28 v_saved v_place v_low v_high v_lowBefore v_highBefore v_least v_greatest v_things v_changing v_overLow v_overHigh v_text v_length c29 c30 c31 c32 v_h]) (br := []) (bc := [W_Model k b0 o0 c27 c28 v_saved v_place v_low v_high v_lowBefore v_highBefore v_least v_greatest v_things v_changing v_overLow v_overHigh v_text v_length c29 c30 c31 c32 v_h]) (bc' := [W_Model k b0 o0 c27 c28 v_saved v_place v_low v_high v_lowBefore v_highBefore v_least v_greatest v_things v_changing v_overLow v_overHigh v_text v_length r33.2 c30 c31 c32 v_h]) X hP hD hS (c_Model_sign l D k t b0 o0 c27 c28 v_saved v_place v_low v_high v_lowBefore v_highBefore v_least v_greatest v_things v_changing v_overLow v_overHigh v_text v_length c29 c30 c31 c32 v_h 59 N r33 hg_r33) mv_X8_193 hl [] [0] 8 ⟨rfl, rfl⟩ ⟨Nat.le_of_ble_eq_true rfl, Nat.le_of_ble_eq_true rfl⟩ rfl rfl rfl rfl rfl rfl rfl (Nat.le_of_ble_eq_true rfl) dX8_readsAll_82 (fun H locs hP hD hS => ?_)
        have hP : va_P D vwCl [W_Model k b0 o0 c27 c28 v_saved v_place v_low v_high v_lowBefore v_highBefore v_least v_greatest v_things v_changing v_overLow v_overHigh v_text v_length r33.2 c30 c31 c32 v_h].flatten _ := hP
        have hD : va_D A [W_Model k b0 o0 c27 c28 v_saved v_place v_low v_high v_lowBefore v_highBefore v_least v_greatest v_things v_changing v_overLow v_overHigh v_text v_length r33.2 c30 c31 c32 v_h].flatten := hD
        refine lv_if_eq (tgt := 100) hx hb dX8_readsAll_85 (by decide) (fun hc => ?_) (fun hc => ?_)
        · have hf := ofpos hf hc
          exact w_Model_readsAll_J100 X b0 o0 v_row v_number v_saved v_place v_low v_high v_lowBefore v_highBefore v_least v_greatest v_things v_changing v_overLow v_overHigh v_text v_length v_at v_readKey v_readCount v_keys v_h N i24 i26 c27 c28 r33.2 c30 c31 c32 out _ ih _ _ _ hP hD hS (lv_sub hl [0, 1, 3] rfl) hf
        · have hf := ofneg hf hc
          refine lv_aload_n hx hb dX8_readsAll_88 rfl (lv_at hl 0 rfl) ?_
          refine lv_iload_n hx hb dX8_readsAll_89 rfl (lv_at hl 1 rfl) ?_
          obtain ⟨r52, hg_r52, hf⟩ := ofbind hf
          refine kcV (bs := [W_Model k b0 o0 c27 c28 v_saved v_place v_low v_high v_lowBefore v_highBefore v_least v_greatest v_things v_changing v_overLow v_overHigh v_text v_length r33.2 c30 c31 c32 v_h]) (br := []) (bc := [W_Model k b0 o0 c27 c28 v_saved v_place v_low v_high v_lowBefore v_highBefore v_least v_greatest v_things v_changing v_overLow v_overHigh v_text v_length r33.2 c30 c31 c32 v_h]) (bc' := [W_Model k b0 o0 r52.2.1 r52.2.2.1 v_saved v_place v_low v_high v_lowBefore v_highBefore v_least v_greatest v_things v_changing v_overLow v_overHigh v_text v_length r52.2.2.2.1 r52.2.2.2.2.1 r52.2.2.2.2.2.1 r52.2.2.2.2.2.2 v_h]) X hP hD hS (c_Model_readsItem l D k t b0 o0 c27 c28 v_saved v_place v_low v_high v_lowBefore v_highBefore v_least v_greatest v_things v_changing v_overLow v_overHigh v_text v_length r33.2 c30 c31 c32 v_h i24 N r52 hg_r52) mv_X8_196 hl [] [0] 8 ⟨rfl, rfl⟩ ⟨Nat.le_of_ble_eq_true rfl, Nat.le_of_ble_eq_true rfl⟩ rfl rfl rfl rfl rfl rfl rfl (Nat.le_of_ble_eq_true rfl) dX8_readsAll_90 (fun H locs hP hD hS => ?_)
          have hP : va_P D vwCl [W_Model k b0 o0 r52.2.1 r52.2.2.1 v_saved v_place v_low v_high v_lowBefore v_highBefore v_least v_greatest v_things v_changing v_overLow v_overHigh v_text v_length r52.2.2.2.1 r52.2.2.2.2.1 r52.2.2.2.2.2.1 r52.2.2.2.2.2.2 v_h].flatten _ := hP
          have hD : va_D A [W_Model k b0 o0 r52.2.1 r52.2.2.1 v_saved v_place v_low v_high v_lowBefore v_highBefore v_least v_greatest v_things v_changing v_overLow v_overHigh v_text v_length r52.2.2.2.1 r52.2.2.2.2.1 r52.2.2.2.2.2.1 r52.2.2.2.2.2.2 v_h].flatten := hD
          refine lv_if_eq (tgt := 100) hx hb dX8_readsAll_93 (by decide) (fun hc => ?_) (fun hc => ?_)
          · have hf := ofpos hf hc
            exact w_Model_readsAll_J100 X b0 o0 v_row v_number v_saved v_place v_low v_high v_lowBefore v_highBefore v_least v_greatest v_things v_changing v_overLow v_overHigh v_text v_length v_at v_readKey v_readCount v_keys v_h N i24 i26 r52.2.1 r52.2.2.1 r52.2.2.2.1 r52.2.2.2.2.1 r52.2.2.2.2.2.1 r52.2.2.2.2.2.2 out _ ih _ _ _ hP hD hS (lv_sub hl [0, 1, 3] rfl) hf
          · have hf := ofneg hf hc
            refine lv_iconst (v := 1) hx hb dX8_readsAll_96 (by decide) ?_
            refine lv_goto (tgt := 101) hx hb dX8_readsAll_97 (by decide) ?_
            exact w_Model_readsAll_J101 X b0 o0 v_row v_number v_saved v_place v_low v_high v_lowBefore v_highBefore v_least v_greatest v_things v_changing v_overLow v_overHigh v_text v_length v_at v_readKey v_readCount v_keys v_h N i24 i26 1 r52.2.1 r52.2.2.1 r52.2.2.2.1 r52.2.2.2.2.1 r52.2.2.2.2.2.1 r52.2.2.2.2.2.2 out _ ih _ _ _ hP hD hS (lv_sub hl [0, 1, 3] rfl) hf
set_option maxRecDepth 100000 in
set_option maxHeartbeats 1000000 in
theorem c_Model_readsAll (l : Launch) (D : va_G) (k : Nat → ClassId) (t : Nat → Nat) (b0 : Nat → Nat) (o0 : Nat) (v_row : FI) (v_number : FJ) (v_saved : Int32) (v_place : FI) (v_low : FJ) (v_high : FJ) (v_lowBefore : FJ) (v_highBefore : FJ) (v_least : FJ) (v_greatest : FJ) (v_things : Int32) (v_changing : Int32) (v_overLow : FJ) (v_overHigh : FJ) (v_text : FI) (v_length : Int32) (v_at : Int32) (v_readKey : FI) (v_readCount : FJ) (v_keys : Int32) (v_h : Int64) (x1 : Int32) (N : Nat) (out : Int32 × FI × FJ × Int32 × FI × FJ × Int32) (hf : f_Model_readsAll N x1 v_row v_number v_text v_length v_at v_readKey v_readCount v_keys = some out) : CT l D k t yX8_readsAll cX8_readsAll 4 (some .boolean) rm_Model_readsAll [.ref (b0 o0), .int x1] [W_Model k b0 o0 v_row v_number v_saved v_place v_low v_high v_lowBefore v_highBefore v_least v_greatest v_things v_changing v_overLow v_overHigh v_text v_length v_at v_readKey v_readCount v_keys v_h].flatten (some (.int out.1)) [W_Model k b0 o0 out.2.1 out.2.2.1 v_saved v_place v_low v_high v_lowBefore v_highBefore v_least v_greatest v_things v_changing v_overLow v_overHigh v_text v_length out.2.2.2.1 out.2.2.2.2.1 out.2.2.2.2.2.1 out.2.2.2.2.2.2 v_h].flatten := by
  refine kofW (by decide) (Nat.le_of_ble_eq_true rfl) ?_
  intro p e s m below meth c A ls X hP hD hS hl
  have hx := X.1.1
  have hb := X.1.2.1
  have hml := X.1.2.2.1
  have hown := X.1.2.2.2.1
  have hts := X.1.2.2.2.2
  have hl : lv_has ls 4 [(0, .ref (b0 o0)), (1, .int x1)] := hl
  rw [f_Model_readsAll] at hf
  refine lv_aload_n hx hb dX8_readsAll_0 rfl (lv_at hl 0 rfl) ?_
  refine lv_iconst (v := 0) hx hb dX8_readsAll_1 (by decide) ?_
  refine kputi (v := 0) X hP hD hS fp_X8_178 0 rfl (Nat.le_of_ble_eq_true rfl) dX8_readsAll_2 (fun H locs hP hD hS => ?_)
  have hP : va_P D vwCl [W_Model k b0 o0 v_row v_number v_saved v_place v_low v_high v_lowBefore v_highBefore v_least v_greatest v_things v_changing v_overLow v_overHigh v_text v_length 0 v_readKey v_readCount v_keys v_h].flatten _ := hP
  have hD : va_D A [W_Model k b0 o0 v_row v_number v_saved v_place v_low v_high v_lowBefore v_highBefore v_least v_greatest v_things v_changing v_overLow v_overHigh v_text v_length 0 v_readKey v_readCount v_keys v_h].flatten := hD
  refine lv_aload_n hx hb dX8_readsAll_5 rfl (lv_at hl 0 rfl) ?_
  refine lv_aload_n hx hb dX8_readsAll_6 rfl (lv_at hl 0 rfl) ?_
  refine kget (v := .ref (b0 (o0+1))) X hP ff_X8_7 0 rfl rfl dX8_readsAll_7 ?_
  refine lv_bipush (v := 6) hx hb dX8_readsAll_10 (by decide) ?_
  obtain ⟨hc, hf⟩ := ofck hf
  refine kiald (f := v_row) (n := 1002) X hP 1 rfl hc dX8_readsAll_12 ?_
  generalize hy1 : v_row (6 : Int32).toNatClampNeg = y1 at hf ⊢
  refine kputi (v := y1) X hP hD hS fp_X8_184 0 rfl (Nat.le_of_ble_eq_true rfl) dX8_readsAll_13 (fun H locs hP hD hS => ?_)
  have hP : va_P D vwCl [W_Model k b0 o0 v_row v_number v_saved v_place v_low v_high v_lowBefore v_highBefore v_least v_greatest v_things v_changing v_overLow v_overHigh v_text v_length 0 v_readKey v_readCount y1 v_h].flatten _ := hP
  have hD : va_D A [W_Model k b0 o0 v_row v_number v_saved v_place v_low v_high v_lowBefore v_highBefore v_least v_greatest v_things v_changing v_overLow v_overHigh v_text v_length 0 v_readKey v_readCount y1 v_h].flatten := hD
  refine lv_iconst (v := 0) hx hb dX8_readsAll_16 (by decide) ?_
  refine lv_istore_n (lv' := [(2, .int 0), (0, .ref (b0 o0)), (1, .int x1)]) hx hb dX8_readsAll_17 rfl hl (by decide) rfl (fun ls hl => ?_)
  refine w_Model_readsAll_L18 X b0 o0 v_row v_number v_saved v_place v_low v_high v_lowBefore v_highBefore v_least v_greatest v_things v_changing v_overLow v_overHigh v_text v_length v_at v_readKey v_readCount v_keys v_h N x1 v_row v_number 0 y1 out _ ?_ N 0 v_readKey v_readCount _ _ _ hP hD hS (lv_sub hl [1, 2, 0] rfl) hf
  · intro i16 c17 c18 H locs ls hP hD hS hl hf
    refine lv_aload_n hx hb dX8_readsAll_59 rfl (lv_at hl 0 rfl) ?_
    refine lv_iload_n hx hb dX8_readsAll_60 rfl (lv_at hl 1 rfl) ?_
    obtain ⟨r19, hg_r19, hf⟩ := ofbind hf
    refine kcV (bs := [W_Model k b0 o0 v_row v_number v_saved v_place v_low v_high v_lowBefore v_highBefore v_least v_greatest v_things v_changing v_overLow v_overHigh v_text v_length 0 c17 c18 y1 v_h]) (br := []) (bc := [W_Model k b0 o0 v_row v_number v_saved v_place v_low v_high v_lowBefore v_highBefore v_least v_greatest v_things v_changing v_overLow v_overHigh v_text v_length 0 c17 c18 y1 v_h]) (bc' := [W_Model k b0 o0 r19.2.1 r19.2.2.1 v_saved v_place v_low v_high v_lowBefore v_highBefore v_least v_greatest v_things v_changing v_overLow v_overHigh v_text v_length r19.2.2.2.1 r19.2.2.2.2.1 r19.2.2.2.2.2.1 r19.2.2.2.2.2.2 v_h]) X hP hD hS (c_Model_readsItem l D k t b0 o0 v_row v_number v_saved v_place v_low v_high v_lowBefore v_highBefore v_least v_greatest v_things v_changing v_overLow v_overHigh v_text v_length 0 c17 c18 y1 v_h x1 N r19 hg_r19) mv_X8_196 hl [] [0] 8 ⟨rfl, rfl⟩ ⟨Nat.le_of_ble_eq_true rfl, Nat.le_of_ble_eq_true rfl⟩ rfl rfl rfl rfl rfl rfl rfl (Nat.le_of_ble_eq_true rfl) dX8_readsAll_61 (fun H locs hP hD hS => ?_)
    have hP : va_P D vwCl [W_Model k b0 o0 r19.2.1 r19.2.2.1 v_saved v_place v_low v_high v_lowBefore v_highBefore v_least v_greatest v_things v_changing v_overLow v_overHigh v_text v_length r19.2.2.2.1 r19.2.2.2.2.1 r19.2.2.2.2.2.1 r19.2.2.2.2.2.2 v_h].flatten _ := hP
    have hD : va_D A [W_Model k b0 o0 r19.2.1 r19.2.2.1 v_saved v_place v_low v_high v_lowBefore v_highBefore v_least v_greatest v_things v_changing v_overLow v_overHigh v_text v_length r19.2.2.2.1 r19.2.2.2.2.1 r19.2.2.2.2.2.1 r19.2.2.2.2.2.2 v_h].flatten := hD
    refine lv_istore_n (lv' := [(2, .int r19.1), (0, .ref (b0 o0)), (1, .int x1)]) hx hb dX8_readsAll_64 rfl hl (by decide) rfl (fun ls hl => ?_)
    refine lv_aload_n hx hb dX8_readsAll_65 rfl (lv_at hl 1 rfl) ?_
    obtain ⟨r20, hg_r20, hf⟩ := ofbind hf
    refine kcV (bs := [W_Model k b0 o0 r19.2.1 r19.2.2.1 v_saved v_place v_low v_high v_lowBefore v_highBefore v_least v_greatest v_things v_changing v_overLow v_overHigh v_text v_length r19.2.2.2.1 r19.2.2.2.2.1 r19.2.2.2.2.2.1 r19.2.2.2.2.2.2 v_h]) (br := []) (bc := [W_Model k b0 o0 r19.2.1 r19.2.2.1 v_saved v_place v_low v_high v_lowBefore v_highBefore v_least v_greatest v_things v_changing v_overLow v_overHigh v_text v_length r19.2.2.2.1 r19.2.2.2.2.1 r19.2.2.2.2.2.1 r19.2.2.2.2.2.2 v_h]) (bc' := [W_Model k b0 o0 r19.2.1 r19.2.2.1 v_saved v_place v_low v_high v_lowBefore v_highBefore v_least v_greatest v_things v_changing v_overLow v_overHigh v_text v_length r20.2 r19.2.2.2.2.1 r19.2.2.2.2.2.1 r19.2.2.2.2.2.2 v_h]) X hP hD hS (c_Model_here l D k t b0 o0 r19.2.1 r19.2.2.1 v_saved v_place v_low v_high v_lowBefore v_highBefore v_least v_greatest v_things v_changing v_overLow v_overHigh v_text v_length r19.2.2.2.1 r19.2.2.2.2.1 r19.2.2.2.2.2.1 r19.2.2.2.2.2.2 v_h N r20 hg_r20) mv_X8_181 hl [] [0] 8 ⟨rfl, rfl⟩ ⟨Nat.le_of_ble_eq_true rfl, Nat.le_of_ble_eq_true rfl⟩ rfl rfl rfl rfl rfl rfl rfl (Nat.le_of_ble_eq_true rfl) dX8_readsAll_66 (fun H locs hP hD hS => ?_)
    have hP : va_P D vwCl [W_Model k b0 o0 r19.2.1 r19.2.2.1 v_saved v_place v_low v_high v_lowBefore v_highBefore v_least v_greatest v_things v_changing v_overLow v_overHigh v_text v_length r20.2 r19.2.2.2.2.1 r19.2.2.2.2.2.1 r19.2.2.2.2.2.2 v_h].flatten _ := hP
    have hD : va_D A [W_Model k b0 o0 r19.2.1 r19.2.2.1 v_saved v_place v_low v_high v_lowBefore v_highBefore v_least v_greatest v_things v_changing v_overLow v_overHigh v_text v_length r20.2 r19.2.2.2.2.1 r19.2.2.2.2.2.1 r19.2.2.2.2.2.2 v_h].flatten := hD
    refine lv_istore_n (lv' := [(3, .int r20.1), (2, .int r19.1), (0, .ref (b0 o0)), (1, .int x1)]) hx hb dX8_readsAll_69 rfl hl (by decide) rfl (fun ls hl => ?_)
    refine w_Model_readsAll_L70 X b0 o0 v_row v_number v_saved v_place v_low v_high v_lowBefore v_highBefore v_least v_greatest v_things v_changing v_overLow v_overHigh v_text v_length v_at v_readKey v_readCount v_keys v_h N x1 out _ ?_ N r19.1 r20.1 r19.2.1 r19.2.2.1 r20.2 r19.2.2.2.2.1 r19.2.2.2.2.2.1 r19.2.2.2.2.2.2 _ _ _ hP hD hS (lv_sub hl [2, 3, 1, 0] rfl) hf
    · intro i53 i54 c55 c56 c57 c58 c59 c60 H locs ls hP hD hS hl hf
      refine lv_iload_n hx hb dX8_readsAll_118 rfl (lv_at hl 0 rfl) ?_
      obtain ⟨hz, hf⟩ := ofif hf
      have hf := Option.some.inj hf
      subst hf
      exact kzret (v := i53) X hP hD hS (zck_n hz) dX8_readsAll_119
