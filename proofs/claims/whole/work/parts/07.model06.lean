/-! Model_rounds: private void rounds(int); -/
abbrev rm_Model_rounds : Room := ({ frames := 2, cells := 0, slots := 0, locals := 54 } : Room)
def f_Model_rounds_L7 (N : Nat) (i2 : Int32) (v_place : FI) (v_least : FJ) (v_greatest : FJ) (v_things : Int32) (K37 : Int32 → FJ → FJ → FJ → FJ → Int32 → Option (FJ × FJ × FJ × FJ × Int32)) : Nat → Int32 → FJ → FJ → FJ → FJ → Int32 → Option (FJ × FJ × FJ × FJ × Int32)
  | 0, _, _, _, _, _, _ => none
  | n + 1, i3, c4, c5, c6, c7, c8 => if i2 < i3 then K37 i3 c4 c5 c6 c7 c8 else (f_Model_round N v_place c4 c5 c6 c7 v_least v_greatest v_things).bind (fun r9 => if r9.1 = 0 then f_Model_rounds_L7 N i2 v_place v_least v_greatest v_things K37 n (i3 + 1) r9.2.1 r9.2.2.1 r9.2.2.2.1 r9.2.2.2.2 c8 else f_Model_rounds_L7 N i2 v_place v_least v_greatest v_things K37 n (i3 + 1) r9.2.1 r9.2.2.1 r9.2.2.2.1 r9.2.2.2.2 i3)
def f_Model_rounds (N : Nat) (x1 : Int32) (v_place : FI) (v_low : FJ) (v_high : FJ) (v_lowBefore : FJ) (v_highBefore : FJ) (v_least : FJ) (v_greatest : FJ) (v_things : Int32) (v_changing : Int32) : Option (FJ × FJ × FJ × FJ × Int32) := f_Model_rounds_L7 N x1 v_place v_least v_greatest v_things (fun i10 c11 c12 c13 c14 c15 => some (c11, c12, c13, c14, c15)) N 1 v_low v_high v_lowBefore v_highBefore 0
abbrev Q_Model_rounds (below : List Frame) (D : va_G) (k : Nat → ClassId) (A : Nat → Prop) (args : Array Value) (s : State) (b0 : Nat → Nat) (o0 : Nat) (v_row : FI) (v_number : FJ) (v_saved : Int32) (v_place : FI) (v_low : FJ) (v_high : FJ) (v_lowBefore : FJ) (v_highBefore : FJ) (v_least : FJ) (v_greatest : FJ) (v_things : Int32) (v_changing : Int32) (v_overLow : FJ) (v_overHigh : FJ) (v_text : FI) (v_length : Int32) (v_at : Int32) (v_readKey : FI) (v_readCount : FJ) (v_keys : Int32) (v_h : Int64) (out : FJ × FJ × FJ × FJ × Int32) : State → Prop := MQ below (QW D k A none [W_Model k b0 o0 v_row v_number v_saved v_place out.1 out.2.1 out.2.2.1 out.2.2.2.1 v_least v_greatest v_things out.2.2.2.2 v_overLow v_overHigh v_text v_length v_at v_readKey v_readCount v_keys v_h].flatten) args s 0 0 A
set_option maxRecDepth 100000 in
set_option maxHeartbeats 1000000 in
theorem w_Model_rounds_L7 {p : Program} {l : Launch} {e : Env} {s : State} {m : MethodId} {below : List Frame} {meth : Method} {c : Code} {args : Array Value} {A : Nat → Prop} {D : va_G} {k : Nat → ClassId} {t : Nat → Nat} (X : BX l D k t p s m args meth c cX8_rounds 3 RX8 none A) (b0 : Nat → Nat) (o0 : Nat) (v_row : FI) (v_number : FJ) (v_saved : Int32) (v_place : FI) (v_low : FJ) (v_high : FJ) (v_lowBefore : FJ) (v_highBefore : FJ) (v_least : FJ) (v_greatest : FJ) (v_things : Int32) (v_changing : Int32) (v_overLow : FJ) (v_overHigh : FJ) (v_text : FI) (v_length : Int32) (v_at : Int32) (v_readKey : FI) (v_readCount : FJ) (v_keys : Int32) (v_h : Int64) (N : Nat) (i2 : Int32) (out : FJ × FJ × FJ × FJ × Int32) (K37 : Int32 → FJ → FJ → FJ → FJ → Int32 → Option (FJ × FJ × FJ × FJ × Int32)) (hK37 : ∀ (i3' : Int32) (c4' : FJ) (c5' : FJ) (c6' : FJ) (c7' : FJ) (c8' : Int32) (H : Heap) (locs : List Loc) (ls : Array Slot), va_P D vwCl [W_Model k b0 o0 v_row v_number v_saved v_place c4' c5' c6' c7' v_least v_greatest v_things c8' v_overLow v_overHigh v_text v_length v_at v_readKey v_readCount v_keys v_h].flatten H → va_D A [W_Model k b0 o0 v_row v_number v_saved v_place c4' c5' c6' c7' v_least v_greatest v_things c8' v_overLow v_overHigh v_text v_length v_at v_readKey v_readCount v_keys v_h].flatten → va_S A s.heap H locs → lv_has ls 3 [] → K37 i3' c4' c5' c6' c7' c8' = some out → W p l e rm_Model_rounds s m args below meth c H locs 0 0 (Q_Model_rounds below D k A args s b0 o0 v_row v_number v_saved v_place v_low v_high v_lowBefore v_highBefore v_least v_greatest v_things v_changing v_overLow v_overHigh v_text v_length v_at v_readKey v_readCount v_keys v_h out) (F0 m 37 ls [])) : ∀ (n : Nat) (i3 : Int32) (c4 : FJ) (c5 : FJ) (c6 : FJ) (c7 : FJ) (c8 : Int32) (H : Heap) (locs : List Loc) (ls : Array Slot), va_P D vwCl [W_Model k b0 o0 v_row v_number v_saved v_place c4 c5 c6 c7 v_least v_greatest v_things c8 v_overLow v_overHigh v_text v_length v_at v_readKey v_readCount v_keys v_h].flatten H → va_D A [W_Model k b0 o0 v_row v_number v_saved v_place c4 c5 c6 c7 v_least v_greatest v_things c8 v_overLow v_overHigh v_text v_length v_at v_readKey v_readCount v_keys v_h].flatten → va_S A s.heap H locs → lv_has ls 3 [(0, .ref (b0 o0)), (1, .int i2), (2, .int i3)] → f_Model_rounds_L7 N i2 v_place v_least v_greatest v_things K37 n i3 c4 c5 c6 c7 c8 = some out → W p l e rm_Model_rounds s m args below meth c H locs 0 0 (Q_Model_rounds below D k A args s b0 o0 v_row v_number v_saved v_place v_low v_high v_lowBefore v_highBefore v_least v_greatest v_things v_changing v_overLow v_overHigh v_text v_length v_at v_readKey v_readCount v_keys v_h out) (F0 m 7 ls []) := by
  have hx := X.1.1
  have hb := X.1.2.1
  have hml := X.1.2.2.1
  have hown := X.1.2.2.2.1
  have hts := X.1.2.2.2.2
  intro n
  induction n with
  | zero =>
    intro i3 c4 c5 c6 c7 c8 H locs ls hP hD hS hl hf
    rw [f_Model_rounds_L7] at hf
    cases hf
  | succ n ih =>
    intro i3 c4 c5 c6 c7 c8 H locs ls hP hD hS hl hf
    rw [f_Model_rounds_L7] at hf
    refine lv_iload_n hx hb dX8_rounds_7 rfl (lv_at hl 2 rfl) ?_
    refine lv_iload_n hx hb dX8_rounds_8 rfl (lv_at hl 1 rfl) ?_
    refine lv_icmp_gt (tgt := 37) hx hb dX8_rounds_9 (by decide) (fun hc => ?_) (fun hc => ?_)
    · have hf := ofpos hf hc
      exact hK37 i3 c4 c5 c6 c7 c8 _ _ _ hP hD hS (lv_sub hl [] rfl) hf
    · have hf := ofneg hf hc
      refine lv_aload_n hx hb dX8_rounds_12 rfl (lv_at hl 0 rfl) ?_
      refine lv_aload_n hx hb dX8_rounds_13 rfl (lv_at hl 0 rfl) ?_
      obtain ⟨r9, hg_r9, hf⟩ := ofbind hf
      refine kcV (bs := [W_Model k b0 o0 v_row v_number v_saved v_place c4 c5 c6 c7 v_least v_greatest v_things c8 v_overLow v_overHigh v_text v_length v_at v_readKey v_readCount v_keys v_h]) (br := []) (bc := [W_Model k b0 o0 v_row v_number v_saved v_place c4 c5 c6 c7 v_least v_greatest v_things c8 v_overLow v_overHigh v_text v_length v_at v_readKey v_readCount v_keys v_h]) (bc' := [W_Model k b0 o0 v_row v_number v_saved v_place r9.2.1 r9.2.2.1 r9.2.2.2.1 r9.2.2.2.2 v_least v_greatest v_things c8 v_overLow v_overHigh v_text v_length v_at v_readKey v_readCount v_keys v_h]) X hP hD hS (c_Model_round l D k t b0 o0 v_row v_number v_saved v_place c4 c5 c6 c7 v_least v_greatest v_things c8 v_overLow v_overHigh v_text v_length v_at v_readKey v_readCount v_keys v_h N r9 hg_r9) mv_X8_139 hl [] [0] 8 ⟨rfl, rfl⟩ ⟨Nat.le_of_ble_eq_true rfl, Nat.le_of_ble_eq_true rfl⟩ rfl rfl rfl rfl rfl rfl rfl (Nat.le_of_ble_eq_true rfl) dX8_rounds_14 (fun H locs hP hD hS => ?_)
      have hP : va_P D vwCl [W_Model k b0 o0 v_row v_number v_saved v_place r9.2.1 r9.2.2.1 r9.2.2.2.1 r9.2.2.2.2 v_least v_greatest v_things c8 v_overLow v_overHigh v_text v_length v_at v_readKey v_readCount v_keys v_h].flatten _ := hP
      have hD : va_D A [W_Model k b0 o0 v_row v_number v_saved v_place r9.2.1 r9.2.2.1 r9.2.2.2.1 r9.2.2.2.2 v_least v_greatest v_things c8 v_overLow v_overHigh v_text v_length v_at v_readKey v_readCount v_keys v_h].flatten := hD
      refine lv_if_eq (tgt := 24) hx hb dX8_rounds_17 (by decide) (fun hc => ?_) (fun hc => ?_)
      · have hf := ofpos hf hc
        refine lv_aload_n hx hb dX8_rounds_24 rfl (lv_at hl 0 rfl) ?_
        refine kget (v := .int c8) X hP ff_X8_136 0 rfl rfl dX8_rounds_25 ?_
        refine kputi (v := c8) X hP hD hS fp_X8_136 0 rfl (Nat.le_of_ble_eq_true rfl) dX8_rounds_28 (fun H locs hP hD hS => ?_)
        have hP : va_P D vwCl [W_Model k b0 o0 v_row v_number v_saved v_place r9.2.1 r9.2.2.1 r9.2.2.2.1 r9.2.2.2.2 v_least v_greatest v_things c8 v_overLow v_overHigh v_text v_length v_at v_readKey v_readCount v_keys v_h].flatten _ := hP
        have hD : va_D A [W_Model k b0 o0 v_row v_number v_saved v_place r9.2.1 r9.2.2.1 r9.2.2.2.1 r9.2.2.2.2 v_least v_greatest v_things c8 v_overLow v_overHigh v_text v_length v_at v_readKey v_readCount v_keys v_h].flatten := hD
        refine lv_iinc (v := i3 + 1) (lv' := [(2, .int (i3 + 1)), (0, .ref (b0 o0)), (1, .int i2)]) hx hb dX8_rounds_31 hl (k := 2) rfl rfl (by decide) rfl (fun ls hl => ?_)
        refine lv_goto (tgt := 7) hx hb dX8_rounds_34 (by decide) ?_
        exact ih (i3 + 1) r9.2.1 r9.2.2.1 r9.2.2.2.1 r9.2.2.2.2 c8 _ _ _ hP hD hS (lv_sub hl [1, 2, 0] rfl) hf
      · have hf := ofneg hf hc
        refine lv_iload_n hx hb dX8_rounds_20 rfl (lv_at hl 2 rfl) ?_
        refine lv_goto (tgt := 28) hx hb dX8_rounds_21 (by decide) ?_
        refine kputi (v := i3) X hP hD hS fp_X8_136 0 rfl (Nat.le_of_ble_eq_true rfl) dX8_rounds_28 (fun H locs hP hD hS => ?_)
        have hP : va_P D vwCl [W_Model k b0 o0 v_row v_number v_saved v_place r9.2.1 r9.2.2.1 r9.2.2.2.1 r9.2.2.2.2 v_least v_greatest v_things i3 v_overLow v_overHigh v_text v_length v_at v_readKey v_readCount v_keys v_h].flatten _ := hP
        have hD : va_D A [W_Model k b0 o0 v_row v_number v_saved v_place r9.2.1 r9.2.2.1 r9.2.2.2.1 r9.2.2.2.2 v_least v_greatest v_things i3 v_overLow v_overHigh v_text v_length v_at v_readKey v_readCount v_keys v_h].flatten := hD
        refine lv_iinc (v := i3 + 1) (lv' := [(2, .int (i3 + 1)), (0, .ref (b0 o0)), (1, .int i2)]) hx hb dX8_rounds_31 hl (k := 2) rfl rfl (by decide) rfl (fun ls hl => ?_)
        refine lv_goto (tgt := 7) hx hb dX8_rounds_34 (by decide) ?_
        exact ih (i3 + 1) r9.2.1 r9.2.2.1 r9.2.2.2.1 r9.2.2.2.2 i3 _ _ _ hP hD hS (lv_sub hl [1, 2, 0] rfl) hf
set_option maxRecDepth 100000 in
set_option maxHeartbeats 1000000 in
theorem c_Model_rounds (l : Launch) (D : va_G) (k : Nat → ClassId) (t : Nat → Nat) (b0 : Nat → Nat) (o0 : Nat) (v_row : FI) (v_number : FJ) (v_saved : Int32) (v_place : FI) (v_low : FJ) (v_high : FJ) (v_lowBefore : FJ) (v_highBefore : FJ) (v_least : FJ) (v_greatest : FJ) (v_things : Int32) (v_changing : Int32) (v_overLow : FJ) (v_overHigh : FJ) (v_text : FI) (v_length : Int32) (v_at : Int32) (v_readKey : FI) (v_readCount : FJ) (v_keys : Int32) (v_h : Int64) (x1 : Int32) (N : Nat) (out : FJ × FJ × FJ × FJ × Int32) (hf : f_Model_rounds N x1 v_place v_low v_high v_lowBefore v_highBefore v_least v_greatest v_things v_changing = some out) : CT l D k t yX8_rounds cX8_rounds 3 none rm_Model_rounds [.ref (b0 o0), .int x1] [W_Model k b0 o0 v_row v_number v_saved v_place v_low v_high v_lowBefore v_highBefore v_least v_greatest v_things v_changing v_overLow v_overHigh v_text v_length v_at v_readKey v_readCount v_keys v_h].flatten none [W_Model k b0 o0 v_row v_number v_saved v_place out.1 out.2.1 out.2.2.1 out.2.2.2.1 v_least v_greatest v_things out.2.2.2.2 v_overLow v_overHigh v_text v_length v_at v_readKey v_readCount v_keys v_h].flatten := by
  refine kofW (by decide) (Nat.le_of_ble_eq_true rfl) ?_
  intro p e s m below meth c A ls X hP hD hS hl
  have hx := X.1.1
  have hb := X.1.2.1
  have hml := X.1.2.2.1
  have hown := X.1.2.2.2.1
  have hts := X.1.2.2.2.2
  have hl : lv_has ls 3 [(0, .ref (b0 o0)), (1, .int x1)] := hl
  rw [f_Model_rounds] at hf
  refine lv_aload_n hx hb dX8_rounds_0 rfl (lv_at hl 0 rfl) ?_
  refine lv_iconst (v := 0) hx hb dX8_rounds_1 (by decide) ?_
  refine kputi (v := 0) X hP hD hS fp_X8_136 0 rfl (Nat.le_of_ble_eq_true rfl) dX8_rounds_2 (fun H locs hP hD hS => ?_)
  have hP : va_P D vwCl [W_Model k b0 o0 v_row v_number v_saved v_place v_low v_high v_lowBefore v_highBefore v_least v_greatest v_things 0 v_overLow v_overHigh v_text v_length v_at v_readKey v_readCount v_keys v_h].flatten _ := hP
  have hD : va_D A [W_Model k b0 o0 v_row v_number v_saved v_place v_low v_high v_lowBefore v_highBefore v_least v_greatest v_things 0 v_overLow v_overHigh v_text v_length v_at v_readKey v_readCount v_keys v_h].flatten := hD
  refine lv_iconst (v := 1) hx hb dX8_rounds_5 (by decide) ?_
  refine lv_istore_n (lv' := [(2, .int 1), (0, .ref (b0 o0)), (1, .int x1)]) hx hb dX8_rounds_6 rfl hl (by decide) rfl (fun ls hl => ?_)
  refine w_Model_rounds_L7 X b0 o0 v_row v_number v_saved v_place v_low v_high v_lowBefore v_highBefore v_least v_greatest v_things v_changing v_overLow v_overHigh v_text v_length v_at v_readKey v_readCount v_keys v_h N x1 out _ ?_ N 1 v_low v_high v_lowBefore v_highBefore 0 _ _ _ hP hD hS (lv_sub hl [1, 2, 0] rfl) hf
  · intro i10 c11 c12 c13 c14 c15 H locs ls hP hD hS hl hf
    have hf := Option.some.inj hf
    subst hf
    exact kvret X hP hD hS dX8_rounds_37
/-! Model_findsOverflows: private void findsOverflows(int); -/
abbrev rm_Model_findsOverflows : Room := ({ frames := 3, cells := 0, slots := 0, locals := 76 } : Room)
def f_Model_findsOverflows_L7 (N : Nat) (i5 : Int32) (v_row : FI) (K56 : Int32 → FI → Int32 → Option (FI × FJ × FJ × FJ × FJ × FJ × FJ × Int32 × Int32 × FJ × FJ)) : Nat → Int32 → FI → Int32 → Option (FI × FJ × FJ × FJ × FJ × FJ × FJ × Int32 × Int32 × FJ × FJ)
  | 0, _, _, _ => none
  | n + 1, i6, c7, c14 => if ck 0 1002 = true then if (v_row (0 : Int32).toNatClampNeg) ≤ i6 then K56 i6 c7 c14 else (f_Model_marked i5 i6 v_row).bind (fun r18 => if r18 = 0 then f_Model_findsOverflows_L7 N i5 v_row K56 n (i6 + 1) c7 c14 else (f_Model_placesUp N i6 v_row).bind (fun r19 => if ck c14 24 = true then f_Model_findsOverflows_L7 N i5 v_row K56 n (i6 + 1) (upd c7 c14.toNatClampNeg r19) (c14 + 1) else none)) else none
def f_Model_findsOverflows_L58 (i29 : Int32) (v_row : FI) (v_number : FJ) (K98 : Int32 → FJ → FJ → Option (FI × FJ × FJ × FJ × FJ × FJ × FJ × Int32 × Int32 × FJ × FJ)) : Nat → Int32 → FJ → FJ → Option (FI × FJ × FJ × FJ × FJ × FJ × FJ × Int32 × Int32 × FJ × FJ)
  | 0, _, _, _ => none
  | n + 1, i30, c36, c37 => if ck 3 1002 = true then if (v_row (3 : Int32).toNatClampNeg) ≤ i30 then K98 i30 c36 c37 else (f_Model_aboveAt i29 i30 v_number).bind (fun r42 => if ck i30 24 = true then (f_Model_aboveAt i29 i30 v_number).bind (fun r44 => if ck i30 24 = true then f_Model_findsOverflows_L58 i29 v_row v_number K98 n (i30 + 1) (vp_updL c36 i30.toNatClampNeg r42) (vp_updL c37 i30.toNatClampNeg r44) else none) else none) else none
def f_Model_findsOverflows_J176 (j89 : Int32) (j90 : Int32) (j91 : Int32) (t92 : Int32) (t93 : Int64) (c103 : FJ) (c104 : FJ) (B117 : Int32 → Int32 → FJ → FJ → Option (FI × FJ × FJ × FJ × FJ × FJ × FJ × Int32 × Int32 × FJ × FJ)) : Option (FI × FJ × FJ × FJ × FJ × FJ × FJ × Int32 × Int32 × FJ × FJ) := if ck t92 24 = true then if j91 = 0 then B117 (j89 + 0) (j90 + 1) c103 (vp_updL c104 t92.toNatClampNeg t93) else B117 (j89 + 1) (j90 + 1) c103 (vp_updL c104 t92.toNatClampNeg t93) else none
def f_Model_findsOverflows_J155 (j71 : Int32) (j72 : Int32) (j73 : Int32) (t74 : Int32) (t75 : Int64) (c78 : FJ) (c85 : FJ) (c86 : FJ) (B117 : Int32 → Int32 → FJ → FJ → Option (FI × FJ × FJ × FJ × FJ × FJ × FJ × Int32 × Int32 × FJ × FJ)) : Option (FI × FJ × FJ × FJ × FJ × FJ × FJ × Int32 × Int32 × FJ × FJ) := if ck t74 24 = true then if j73 = 0 then f_Model_findsOverflows_J176 j71 j72 j73 j72 0 (vp_updL c85 t74.toNatClampNeg t75) c86 B117 else if ck j71 24 = true then f_Model_findsOverflows_J176 j71 j72 j73 j72 (c78 j71.toNatClampNeg) (vp_updL c85 t74.toNatClampNeg t75) c86 B117 else none else none
def f_Model_findsOverflows_L117 (i55 : Int32) (c59 : FJ) (c60 : FJ) (v_row : FI) (K196 : Int32 → Int32 → FJ → FJ → Option (FI × FJ × FJ × FJ × FJ × FJ × FJ × Int32 × Int32 × FJ × FJ)) : Nat → Int32 → Int32 → FJ → FJ → Option (FI × FJ × FJ × FJ × FJ × FJ × FJ × Int32 × Int32 × FJ × FJ)
  | 0, _, _, _, _ => none
  | n + 1, i56, i57, c67, c68 => if ck 0 1002 = true then if (v_row (0 : Int32).toNatClampNeg) ≤ i57 then K196 i56 i57 c67 c68 else (f_Model_marked i55 i57 v_row).bind (fun r69 => if r69 = 0 then f_Model_findsOverflows_J155 i56 i57 r69 i57 0 c60 c67 c68 (f_Model_findsOverflows_L117 i55 c59 c60 v_row K196 n) else if ck i56 24 = true then f_Model_findsOverflows_J155 i56 i57 r69 i57 (c59 i56.toNatClampNeg) c60 c67 c68 (f_Model_findsOverflows_L117 i55 c59 c60 v_row K196 n) else none) else none
def f_Model_findsOverflows (N : Nat) (x1 : Int32) (v_row : FI) (v_number : FJ) (v_place : FI) (v_low : FJ) (v_high : FJ) (v_lowBefore : FJ) (v_highBefore : FJ) (v_least : FJ) (v_greatest : FJ) (v_things : Int32) (v_changing : Int32) (v_overLow : FJ) (v_overHigh : FJ) : Option (FI × FJ × FJ × FJ × FJ × FJ × FJ × Int32 × Int32 × FJ × FJ) := f_Model_findsOverflows_L7 N x1 v_row (fun i22 c23 c24 => f_Model_findsOverflows_L58 x1 v_row v_number (fun i46 c47 c48 => (f_Model_begins N 1 c23 v_low v_high c48 c24).bind (fun r49 => if ck 5 1002 = true then (f_Model_rounds N (v_row (5 : Int32).toNatClampNeg) c23 r49.1 r49.2 v_lowBefore v_highBefore c47 c48 c24 v_changing).bind (fun r50 => f_Model_findsOverflows_L117 x1 r50.1 r50.2.1 v_row (fun i106 i107 c108 c109 => some (c23, r50.1, r50.2.1, r50.2.2.1, r50.2.2.2.1, c47, c48, c24, r50.2.2.2.2, c108, c109)) N 0 0 v_overLow v_overHigh) else none)) N 0 v_least v_greatest) N 0 v_place 0
abbrev Q_Model_findsOverflows (below : List Frame) (D : va_G) (k : Nat → ClassId) (A : Nat → Prop) (args : Array Value) (s : State) (b0 : Nat → Nat) (o0 : Nat) (v_row : FI) (v_number : FJ) (v_saved : Int32) (v_place : FI) (v_low : FJ) (v_high : FJ) (v_lowBefore : FJ) (v_highBefore : FJ) (v_least : FJ) (v_greatest : FJ) (v_things : Int32) (v_changing : Int32) (v_overLow : FJ) (v_overHigh : FJ) (v_text : FI) (v_length : Int32) (v_at : Int32) (v_readKey : FI) (v_readCount : FJ) (v_keys : Int32) (v_h : Int64) (out : FI × FJ × FJ × FJ × FJ × FJ × FJ × Int32 × Int32 × FJ × FJ) : State → Prop := MQ below (QW D k A none [W_Model k b0 o0 v_row v_number v_saved out.1 out.2.1 out.2.2.1 out.2.2.2.1 out.2.2.2.2.1 out.2.2.2.2.2.1 out.2.2.2.2.2.2.1 out.2.2.2.2.2.2.2.1 out.2.2.2.2.2.2.2.2.1 out.2.2.2.2.2.2.2.2.2.1 out.2.2.2.2.2.2.2.2.2.2 v_text v_length v_at v_readKey v_readCount v_keys v_h].flatten) args s 0 0 A
set_option maxRecDepth 100000 in
set_option maxHeartbeats 1000000 in
theorem w_Model_findsOverflows_L7 {p : Program} {l : Launch} {e : Env} {s : State} {m : MethodId} {below : List Frame} {meth : Method} {c : Code} {args : Array Value} {A : Nat → Prop} {D : va_G} {k : Nat → ClassId} {t : Nat → Nat} (X : BX l D k t p s m args meth c cX8_findsOverflows 5 RX8 none A) (b0 : Nat → Nat) (o0 : Nat) (v_row : FI) (v_number : FJ) (v_saved : Int32) (v_place : FI) (v_low : FJ) (v_high : FJ) (v_lowBefore : FJ) (v_highBefore : FJ) (v_least : FJ) (v_greatest : FJ) (v_things : Int32) (v_changing : Int32) (v_overLow : FJ) (v_overHigh : FJ) (v_text : FI) (v_length : Int32) (v_at : Int32) (v_readKey : FI) (v_readCount : FJ) (v_keys : Int32) (v_h : Int64) (N : Nat) (i5 : Int32) (c8 : FJ) (c9 : FJ) (c10 : FJ) (c11 : FJ) (c12 : FJ) (c13 : FJ) (c15 : Int32) (c16 : FJ) (c17 : FJ) (out : FI × FJ × FJ × FJ × FJ × FJ × FJ × Int32 × Int32 × FJ × FJ) (K56 : Int32 → FI → Int32 → Option (FI × FJ × FJ × FJ × FJ × FJ × FJ × Int32 × Int32 × FJ × FJ)) (hK56 : ∀ (i6' : Int32) (c7' : FI) (c14' : Int32) (H : Heap) (locs : List Loc) (ls : Array Slot), va_P D vwCl [W_Model k b0 o0 v_row v_number v_saved c7' c8 c9 c10 c11 c12 c13 c14' c15 c16 c17 v_text v_length v_at v_readKey v_readCount v_keys v_h].flatten H → va_D A [W_Model k b0 o0 v_row v_number v_saved c7' c8 c9 c10 c11 c12 c13 c14' c15 c16 c17 v_text v_length v_at v_readKey v_readCount v_keys v_h].flatten → va_S A s.heap H locs → lv_has ls 5 [(0, .ref (b0 o0)), (1, .int i5)] → K56 i6' c7' c14' = some out → W p l e rm_Model_findsOverflows s m args below meth c H locs 0 0 (Q_Model_findsOverflows below D k A args s b0 o0 v_row v_number v_saved v_place v_low v_high v_lowBefore v_highBefore v_least v_greatest v_things v_changing v_overLow v_overHigh v_text v_length v_at v_readKey v_readCount v_keys v_h out) (F0 m 56 ls [])) : ∀ (n : Nat) (i6 : Int32) (c7 : FI) (c14 : Int32) (H : Heap) (locs : List Loc) (ls : Array Slot), va_P D vwCl [W_Model k b0 o0 v_row v_number v_saved c7 c8 c9 c10 c11 c12 c13 c14 c15 c16 c17 v_text v_length v_at v_readKey v_readCount v_keys v_h].flatten H → va_D A [W_Model k b0 o0 v_row v_number v_saved c7 c8 c9 c10 c11 c12 c13 c14 c15 c16 c17 v_text v_length v_at v_readKey v_readCount v_keys v_h].flatten → va_S A s.heap H locs → lv_has ls 5 [(0, .ref (b0 o0)), (1, .int i5), (2, .int i6)] → f_Model_findsOverflows_L7 N i5 v_row K56 n i6 c7 c14 = some out → W p l e rm_Model_findsOverflows s m args below meth c H locs 0 0 (Q_Model_findsOverflows below D k A args s b0 o0 v_row v_number v_saved v_place v_low v_high v_lowBefore v_highBefore v_least v_greatest v_things v_changing v_overLow v_overHigh v_text v_length v_at v_readKey v_readCount v_keys v_h out) (F0 m 7 ls []) := by
  have hx := X.1.1
  have hb := X.1.2.1
  have hml := X.1.2.2.1
  have hown := X.1.2.2.2.1
  have hts := X.1.2.2.2.2
  intro n
  induction n with
  | zero =>
    intro i6 c7 c14 H locs ls hP hD hS hl hf
    rw [f_Model_findsOverflows_L7] at hf
    cases hf
  | succ n ih =>
    intro i6 c7 c14 H locs ls hP hD hS hl hf
    rw [f_Model_findsOverflows_L7] at hf
    refine lv_iload_n hx hb dX8_findsOverflows_7 rfl (lv_at hl 2 rfl) ?_
    refine lv_aload_n hx hb dX8_findsOverflows_8 rfl (lv_at hl 0 rfl) ?_
    refine kget (v := .ref (b0 (o0+1))) X hP ff_X8_7 0 rfl rfl dX8_findsOverflows_9 ?_
    refine lv_iconst (v := 0) hx hb dX8_findsOverflows_12 (by decide) ?_
    obtain ⟨hc, hf⟩ := ofck hf
    refine kiald (f := v_row) (n := 1002) X hP 1 rfl hc dX8_findsOverflows_13 ?_
    refine lv_icmp_ge (tgt := 56) hx hb dX8_findsOverflows_14 (by decide) (fun hc => ?_) (fun hc => ?_)
    · have hf := ofpos hf hc
      exact hK56 i6 c7 c14 _ _ _ hP hD hS (lv_sub hl [0, 1] rfl) hf
    · have hf := ofneg hf hc
      refine lv_aload_n hx hb dX8_findsOverflows_17 rfl (lv_at hl 0 rfl) ?_
      refine lv_iload_n hx hb dX8_findsOverflows_18 rfl (lv_at hl 1 rfl) ?_
      refine lv_iload_n hx hb dX8_findsOverflows_19 rfl (lv_at hl 2 rfl) ?_
      obtain ⟨r18, hg_r18, hf⟩ := ofbind hf
      refine kcV (bs := [W_Model k b0 o0 v_row v_number v_saved c7 c8 c9 c10 c11 c12 c13 c14 c15 c16 c17 v_text v_length v_at v_readKey v_readCount v_keys v_h]) (br := []) (bc := [W_Model k b0 o0 v_row v_number v_saved c7 c8 c9 c10 c11 c12 c13 c14 c15 c16 c17 v_text v_length v_at v_readKey v_readCount v_keys v_h]) (bc' := [W_Model k b0 o0 v_row v_number v_saved c7 c8 c9 c10 c11 c12 c13 c14 c15 c16 c17 v_text v_length v_at v_readKey v_readCount v_keys v_h]) X hP hD hS (c_Model_marked l D k t b0 o0 v_row v_number v_saved c7 c8 c9 c10 c11 c12 c13 c14 c15 c16 c17 v_text v_length v_at v_readKey v_readCount v_keys v_h i5 i6 r18 hg_r18) mv_X8_120 hl [] [0] 8 ⟨rfl, rfl⟩ ⟨Nat.le_of_ble_eq_true rfl, Nat.le_of_ble_eq_true rfl⟩ rfl rfl rfl rfl rfl rfl rfl (Nat.le_of_ble_eq_true rfl) dX8_findsOverflows_20 (fun H locs hP hD hS => ?_)
      have hP : va_P D vwCl [W_Model k b0 o0 v_row v_number v_saved c7 c8 c9 c10 c11 c12 c13 c14 c15 c16 c17 v_text v_length v_at v_readKey v_readCount v_keys v_h].flatten _ := hP
      have hD : va_D A [W_Model k b0 o0 v_row v_number v_saved c7 c8 c9 c10 c11 c12 c13 c14 c15 c16 c17 v_text v_length v_at v_readKey v_readCount v_keys v_h].flatten := hD
      refine lv_if_eq (tgt := 50) hx hb dX8_findsOverflows_23 (by decide) (fun hc => ?_) (fun hc => ?_)
      · have hf := ofpos hf hc
        refine lv_iinc (v := i6 + 1) (lv' := [(2, .int (i6 + 1)), (0, .ref (b0 o0)), (1, .int i5)]) hx hb dX8_findsOverflows_50 hl (k := 2) rfl rfl (by decide) rfl (fun ls hl => ?_)
        refine lv_goto (tgt := 7) hx hb dX8_findsOverflows_53 (by decide) ?_
        exact ih (i6 + 1) c7 c14 _ _ _ hP hD hS (lv_sub hl [1, 2, 0] rfl) hf
      · have hf := ofneg hf hc
        refine lv_aload_n hx hb dX8_findsOverflows_26 rfl (lv_at hl 0 rfl) ?_
        refine kget (v := .ref (b0 (o0+3))) X hP ff_X8_17 0 rfl rfl dX8_findsOverflows_27 ?_
        refine lv_aload_n hx hb dX8_findsOverflows_30 rfl (lv_at hl 0 rfl) ?_
        refine kget (v := .int c14) X hP ff_X8_127 0 rfl rfl dX8_findsOverflows_31 ?_
        refine lv_aload_n hx hb dX8_findsOverflows_34 rfl (lv_at hl 0 rfl) ?_
        refine lv_iload_n hx hb dX8_findsOverflows_35 rfl (lv_at hl 2 rfl) ?_
        obtain ⟨r19, hg_r19, hf⟩ := ofbind hf
        refine kcV (bs := [W_Model k b0 o0 v_row v_number v_saved c7 c8 c9 c10 c11 c12 c13 c14 c15 c16 c17 v_text v_length v_at v_readKey v_readCount v_keys v_h]) (br := []) (bc := [W_Model k b0 o0 v_row v_number v_saved c7 c8 c9 c10 c11 c12 c13 c14 c15 c16 c17 v_text v_length v_at v_readKey v_readCount v_keys v_h]) (bc' := [W_Model k b0 o0 v_row v_number v_saved c7 c8 c9 c10 c11 c12 c13 c14 c15 c16 c17 v_text v_length v_at v_readKey v_readCount v_keys v_h]) X hP hD hS (c_Model_placesUp l D k t b0 o0 v_row v_number v_saved c7 c8 c9 c10 c11 c12 c13 c14 c15 c16 c17 v_text v_length v_at v_readKey v_readCount v_keys v_h i6 N r19 hg_r19) mv_X8_89 hl [] [0] 8 ⟨rfl, rfl⟩ ⟨Nat.le_of_ble_eq_true rfl, Nat.le_of_ble_eq_true rfl⟩ rfl rfl rfl rfl rfl rfl rfl (Nat.le_of_ble_eq_true rfl) dX8_findsOverflows_36 (fun H locs hP hD hS => ?_)
        have hP : va_P D vwCl [W_Model k b0 o0 v_row v_number v_saved c7 c8 c9 c10 c11 c12 c13 c14 c15 c16 c17 v_text v_length v_at v_readKey v_readCount v_keys v_h].flatten _ := hP
        have hD : va_D A [W_Model k b0 o0 v_row v_number v_saved c7 c8 c9 c10 c11 c12 c13 c14 c15 c16 c17 v_text v_length v_at v_readKey v_readCount v_keys v_h].flatten := hD
        obtain ⟨hc, hf⟩ := ofck hf
        generalize hc20 : upd c7 c14.toNatClampNeg r19 = c20 at hf
        refine kiast2 (f := c7) (n := 24) (g := c20) X hP hD hS 3 rfl hc hc20 dX8_findsOverflows_39 (fun H locs hP hD hS => ?_)
        have hP : va_P D vwCl [W_Model k b0 o0 v_row v_number v_saved c20 c8 c9 c10 c11 c12 c13 c14 c15 c16 c17 v_text v_length v_at v_readKey v_readCount v_keys v_h].flatten _ := hP
        have hD : va_D A [W_Model k b0 o0 v_row v_number v_saved c20 c8 c9 c10 c11 c12 c13 c14 c15 c16 c17 v_text v_length v_at v_readKey v_readCount v_keys v_h].flatten := hD
        refine lv_aload_n hx hb dX8_findsOverflows_40 rfl (lv_at hl 0 rfl) ?_
        refine lv_dup hx hb dX8_findsOverflows_41 rfl ?_
        refine kget (v := .int c14) X hP ff_X8_127 0 rfl rfl dX8_findsOverflows_42 ?_
        refine lv_iconst (v := 1) hx hb dX8_findsOverflows_45 (by decide) ?_
        refine lv_iadd hx hb dX8_findsOverflows_46 ?_
        generalize hy21 : c14 + 1 = y21 at hf ⊢
        refine kputi (v := y21) X hP hD hS fp_X8_127 0 rfl (Nat.le_of_ble_eq_true rfl) dX8_findsOverflows_47 (fun H locs hP hD hS => ?_)
        have hP : va_P D vwCl [W_Model k b0 o0 v_row v_number v_saved c20 c8 c9 c10 c11 c12 c13 y21 c15 c16 c17 v_text v_length v_at v_readKey v_readCount v_keys v_h].flatten _ := hP
        have hD : va_D A [W_Model k b0 o0 v_row v_number v_saved c20 c8 c9 c10 c11 c12 c13 y21 c15 c16 c17 v_text v_length v_at v_readKey v_readCount v_keys v_h].flatten := hD
        refine lv_iinc (v := i6 + 1) (lv' := [(2, .int (i6 + 1)), (0, .ref (b0 o0)), (1, .int i5)]) hx hb dX8_findsOverflows_50 hl (k := 2) rfl rfl (by decide) rfl (fun ls hl => ?_)
        refine lv_goto (tgt := 7) hx hb dX8_findsOverflows_53 (by decide) ?_
        exact ih (i6 + 1) c20 y21 _ _ _ hP hD hS (lv_sub hl [1, 2, 0] rfl) hf
set_option maxRecDepth 100000 in
set_option maxHeartbeats 1000000 in
theorem w_Model_findsOverflows_L58 {p : Program} {l : Launch} {e : Env} {s : State} {m : MethodId} {below : List Frame} {meth : Method} {c : Code} {args : Array Value} {A : Nat → Prop} {D : va_G} {k : Nat → ClassId} {t : Nat → Nat} (X : BX l D k t p s m args meth c cX8_findsOverflows 5 RX8 none A) (b0 : Nat → Nat) (o0 : Nat) (v_row : FI) (v_number : FJ) (v_saved : Int32) (v_place : FI) (v_low : FJ) (v_high : FJ) (v_lowBefore : FJ) (v_highBefore : FJ) (v_least : FJ) (v_greatest : FJ) (v_things : Int32) (v_changing : Int32) (v_overLow : FJ) (v_overHigh : FJ) (v_text : FI) (v_length : Int32) (v_at : Int32) (v_readKey : FI) (v_readCount : FJ) (v_keys : Int32) (v_h : Int64) (N : Nat) (i29 : Int32) (c31 : FI) (c32 : FJ) (c33 : FJ) (c34 : FJ) (c35 : FJ) (c38 : Int32) (c39 : Int32) (c40 : FJ) (c41 : FJ) (out : FI × FJ × FJ × FJ × FJ × FJ × FJ × Int32 × Int32 × FJ × FJ) (K98 : Int32 → FJ → FJ → Option (FI × FJ × FJ × FJ × FJ × FJ × FJ × Int32 × Int32 × FJ × FJ)) (hK98 : ∀ (i30' : Int32) (c36' : FJ) (c37' : FJ) (H : Heap) (locs : List Loc) (ls : Array Slot), va_P D vwCl [W_Model k b0 o0 v_row v_number v_saved c31 c32 c33 c34 c35 c36' c37' c38 c39 c40 c41 v_text v_length v_at v_readKey v_readCount v_keys v_h].flatten H → va_D A [W_Model k b0 o0 v_row v_number v_saved c31 c32 c33 c34 c35 c36' c37' c38 c39 c40 c41 v_text v_length v_at v_readKey v_readCount v_keys v_h].flatten → va_S A s.heap H locs → lv_has ls 5 [(0, .ref (b0 o0)), (1, .int i29)] → K98 i30' c36' c37' = some out → W p l e rm_Model_findsOverflows s m args below meth c H locs 0 0 (Q_Model_findsOverflows below D k A args s b0 o0 v_row v_number v_saved v_place v_low v_high v_lowBefore v_highBefore v_least v_greatest v_things v_changing v_overLow v_overHigh v_text v_length v_at v_readKey v_readCount v_keys v_h out) (F0 m 98 ls [])) : ∀ (n : Nat) (i30 : Int32) (c36 : FJ) (c37 : FJ) (H : Heap) (locs : List Loc) (ls : Array Slot), va_P D vwCl [W_Model k b0 o0 v_row v_number v_saved c31 c32 c33 c34 c35 c36 c37 c38 c39 c40 c41 v_text v_length v_at v_readKey v_readCount v_keys v_h].flatten H → va_D A [W_Model k b0 o0 v_row v_number v_saved c31 c32 c33 c34 c35 c36 c37 c38 c39 c40 c41 v_text v_length v_at v_readKey v_readCount v_keys v_h].flatten → va_S A s.heap H locs → lv_has ls 5 [(0, .ref (b0 o0)), (1, .int i29), (2, .int i30)] → f_Model_findsOverflows_L58 i29 v_row v_number K98 n i30 c36 c37 = some out → W p l e rm_Model_findsOverflows s m args below meth c H locs 0 0 (Q_Model_findsOverflows below D k A args s b0 o0 v_row v_number v_saved v_place v_low v_high v_lowBefore v_highBefore v_least v_greatest v_things v_changing v_overLow v_overHigh v_text v_length v_at v_readKey v_readCount v_keys v_h out) (F0 m 58 ls []) := by
  have hx := X.1.1
  have hb := X.1.2.1
  have hml := X.1.2.2.1
  have hown := X.1.2.2.2.1
  have hts := X.1.2.2.2.2
  intro n
  induction n with
  | zero =>
    intro i30 c36 c37 H locs ls hP hD hS hl hf
    rw [f_Model_findsOverflows_L58] at hf
    cases hf
  | succ n ih =>
    intro i30 c36 c37 H locs ls hP hD hS hl hf
    rw [f_Model_findsOverflows_L58] at hf
    refine lv_iload_n hx hb dX8_findsOverflows_58 rfl (lv_at hl 2 rfl) ?_
    refine lv_aload_n hx hb dX8_findsOverflows_59 rfl (lv_at hl 0 rfl) ?_
    refine kget (v := .ref (b0 (o0+1))) X hP ff_X8_7 0 rfl rfl dX8_findsOverflows_60 ?_
    refine lv_iconst (v := 3) hx hb dX8_findsOverflows_63 (by decide) ?_
    obtain ⟨hc, hf⟩ := ofck hf
    refine kiald (f := v_row) (n := 1002) X hP 1 rfl hc dX8_findsOverflows_64 ?_
    refine lv_icmp_ge (tgt := 98) hx hb dX8_findsOverflows_65 (by decide) (fun hc => ?_) (fun hc => ?_)
    · have hf := ofpos hf hc
      exact hK98 i30 c36 c37 _ _ _ hP hD hS (lv_sub hl [0, 1] rfl) hf
    · have hf := ofneg hf hc
      refine lv_aload_n hx hb dX8_findsOverflows_68 rfl (lv_at hl 0 rfl) ?_
      refine kget (v := .ref (b0 (o0+8))) X hP ff_X8_32 0 rfl rfl dX8_findsOverflows_69 ?_
      refine lv_iload_n hx hb dX8_findsOverflows_72 rfl (lv_at hl 2 rfl) ?_
      refine lv_aload_n hx hb dX8_findsOverflows_73 rfl (lv_at hl 0 rfl) ?_
      refine lv_iload_n hx hb dX8_findsOverflows_74 rfl (lv_at hl 1 rfl) ?_
      refine lv_iload_n hx hb dX8_findsOverflows_75 rfl (lv_at hl 2 rfl) ?_
      obtain ⟨r42, hg_r42, hf⟩ := ofbind hf
      refine kcV (bs := [W_Model k b0 o0 v_row v_number v_saved c31 c32 c33 c34 c35 c36 c37 c38 c39 c40 c41 v_text v_length v_at v_readKey v_readCount v_keys v_h]) (br := []) (bc := [W_Model k b0 o0 v_row v_number v_saved c31 c32 c33 c34 c35 c36 c37 c38 c39 c40 c41 v_text v_length v_at v_readKey v_readCount v_keys v_h]) (bc' := [W_Model k b0 o0 v_row v_number v_saved c31 c32 c33 c34 c35 c36 c37 c38 c39 c40 c41 v_text v_length v_at v_readKey v_readCount v_keys v_h]) X hP hD hS (c_Model_aboveAt l D k t b0 o0 v_row v_number v_saved c31 c32 c33 c34 c35 c36 c37 c38 c39 c40 c41 v_text v_length v_at v_readKey v_readCount v_keys v_h i29 i30 r42 hg_r42) mv_X8_124 hl [] [0] 8 ⟨rfl, rfl⟩ ⟨Nat.le_of_ble_eq_true rfl, Nat.le_of_ble_eq_true rfl⟩ rfl rfl rfl rfl rfl rfl rfl (Nat.le_of_ble_eq_true rfl) dX8_findsOverflows_76 (fun H locs hP hD hS => ?_)
      have hP : va_P D vwCl [W_Model k b0 o0 v_row v_number v_saved c31 c32 c33 c34 c35 c36 c37 c38 c39 c40 c41 v_text v_length v_at v_readKey v_readCount v_keys v_h].flatten _ := hP
      have hD : va_D A [W_Model k b0 o0 v_row v_number v_saved c31 c32 c33 c34 c35 c36 c37 c38 c39 c40 c41 v_text v_length v_at v_readKey v_readCount v_keys v_h].flatten := hD
      obtain ⟨hc, hf⟩ := ofck hf
      generalize hc43 : vp_updL c36 i30.toNatClampNeg r42 = c43 at hf
      refine klast2 (f := c36) (n := 24) (g := c43) X hP hD hS 8 rfl hc hc43 dX8_findsOverflows_79 (fun H locs hP hD hS => ?_)
      have hP : va_P D vwCl [W_Model k b0 o0 v_row v_number v_saved c31 c32 c33 c34 c35 c43 c37 c38 c39 c40 c41 v_text v_length v_at v_readKey v_readCount v_keys v_h].flatten _ := hP
      have hD : va_D A [W_Model k b0 o0 v_row v_number v_saved c31 c32 c33 c34 c35 c43 c37 c38 c39 c40 c41 v_text v_length v_at v_readKey v_readCount v_keys v_h].flatten := hD
      refine lv_aload_n hx hb dX8_findsOverflows_80 rfl (lv_at hl 0 rfl) ?_
      refine kget (v := .ref (b0 (o0+9))) X hP ff_X8_35 0 rfl rfl dX8_findsOverflows_81 ?_
      refine lv_iload_n hx hb dX8_findsOverflows_84 rfl (lv_at hl 2 rfl) ?_
      refine lv_aload_n hx hb dX8_findsOverflows_85 rfl (lv_at hl 0 rfl) ?_
      refine lv_iload_n hx hb dX8_findsOverflows_86 rfl (lv_at hl 1 rfl) ?_
      refine lv_iload_n hx hb dX8_findsOverflows_87 rfl (lv_at hl 2 rfl) ?_
      obtain ⟨r44, hg_r44, hf⟩ := ofbind hf
      refine kcV (bs := [W_Model k b0 o0 v_row v_number v_saved c31 c32 c33 c34 c35 c43 c37 c38 c39 c40 c41 v_text v_length v_at v_readKey v_readCount v_keys v_h]) (br := []) (bc := [W_Model k b0 o0 v_row v_number v_saved c31 c32 c33 c34 c35 c43 c37 c38 c39 c40 c41 v_text v_length v_at v_readKey v_readCount v_keys v_h]) (bc' := [W_Model k b0 o0 v_row v_number v_saved c31 c32 c33 c34 c35 c43 c37 c38 c39 c40 c41 v_text v_length v_at v_readKey v_readCount v_keys v_h]) X hP hD hS (c_Model_aboveAt l D k t b0 o0 v_row v_number v_saved c31 c32 c33 c34 c35 c43 c37 c38 c39 c40 c41 v_text v_length v_at v_readKey v_readCount v_keys v_h i29 i30 r44 hg_r44) mv_X8_124 hl [] [0] 8 ⟨rfl, rfl⟩ ⟨Nat.le_of_ble_eq_true rfl, Nat.le_of_ble_eq_true rfl⟩ rfl rfl rfl rfl rfl rfl rfl (Nat.le_of_ble_eq_true rfl) dX8_findsOverflows_88 (fun H locs hP hD hS => ?_)
      have hP : va_P D vwCl [W_Model k b0 o0 v_row v_number v_saved c31 c32 c33 c34 c35 c43 c37 c38 c39 c40 c41 v_text v_length v_at v_readKey v_readCount v_keys v_h].flatten _ := hP
      have hD : va_D A [W_Model k b0 o0 v_row v_number v_saved c31 c32 c33 c34 c35 c43 c37 c38 c39 c40 c41 v_text v_length v_at v_readKey v_readCount v_keys v_h].flatten := hD
      obtain ⟨hc, hf⟩ := ofck hf
      generalize hc45 : vp_updL c37 i30.toNatClampNeg r44 = c45 at hf
      refine klast2 (f := c37) (n := 24) (g := c45) X hP hD hS 9 rfl hc hc45 dX8_findsOverflows_91 (fun H locs hP hD hS => ?_)
      have hP : va_P D vwCl [W_Model k b0 o0 v_row v_number v_saved c31 c32 c33 c34 c35 c43 c45 c38 c39 c40 c41 v_text v_length v_at v_readKey v_readCount v_keys v_h].flatten _ := hP
      have hD : va_D A [W_Model k b0 o0 v_row v_number v_saved c31 c32 c33 c34 c35 c43 c45 c38 c39 c40 c41 v_text v_length v_at v_readKey v_readCount v_keys v_h].flatten := hD
      refine lv_iinc (v := i30 + 1) (lv' := [(2, .int (i30 + 1)), (0, .ref (b0 o0)), (1, .int i29)]) hx hb dX8_findsOverflows_92 hl (k := 2) rfl rfl (by decide) rfl (fun ls hl => ?_)
      refine lv_goto (tgt := 58) hx hb dX8_findsOverflows_95 (by decide) ?_
      exact ih (i30 + 1) c43 c45 _ _ _ hP hD hS (lv_sub hl [1, 2, 0] rfl) hf
set_option maxRecDepth 100000 in
set_option maxHeartbeats 1000000 in
theorem w_Model_findsOverflows_J176 {p : Program} {l : Launch} {e : Env} {s : State} {m : MethodId} {below : List Frame} {meth : Method} {c : Code} {args : Array Value} {A : Nat → Prop} {D : va_G} {k : Nat → ClassId} {t : Nat → Nat} (X : BX l D k t p s m args meth c cX8_findsOverflows 5 RX8 none A) (b0 : Nat → Nat) (o0 : Nat) (v_row : FI) (v_number : FJ) (v_saved : Int32) (v_place : FI) (v_low : FJ) (v_high : FJ) (v_lowBefore : FJ) (v_highBefore : FJ) (v_least : FJ) (v_greatest : FJ) (v_things : Int32) (v_changing : Int32) (v_overLow : FJ) (v_overHigh : FJ) (v_text : FI) (v_length : Int32) (v_at : Int32) (v_readKey : FI) (v_readCount : FJ) (v_keys : Int32) (v_h : Int64) (N : Nat) (j88 : Int32) (j89 : Int32) (j90 : Int32) (j91 : Int32) (t92 : Int32) (t93 : Int64) (c94 : FI) (c95 : FJ) (c96 : FJ) (c97 : FJ) (c98 : FJ) (c99 : FJ) (c100 : FJ) (c101 : Int32) (c102 : Int32) (c103 : FJ) (c104 : FJ) (out : FI × FJ × FJ × FJ × FJ × FJ × FJ × Int32 × Int32 × FJ × FJ) (B117 : Int32 → Int32 → FJ → FJ → Option (FI × FJ × FJ × FJ × FJ × FJ × FJ × Int32 × Int32 × FJ × FJ)) (hB117 : ∀ (i56' : Int32) (i57' : Int32) (c67' : FJ) (c68' : FJ) (H : Heap) (locs : List Loc) (ls : Array Slot), va_P D vwCl [W_Model k b0 o0 v_row v_number v_saved c94 c95 c96 c97 c98 c99 c100 c101 c102 c67' c68' v_text v_length v_at v_readKey v_readCount v_keys v_h].flatten H → va_D A [W_Model k b0 o0 v_row v_number v_saved c94 c95 c96 c97 c98 c99 c100 c101 c102 c67' c68' v_text v_length v_at v_readKey v_readCount v_keys v_h].flatten → va_S A s.heap H locs → lv_has ls 5 [(0, .ref (b0 o0)), (1, .int j88), (2, .int i56'), (3, .int i57')] → B117 i56' i57' c67' c68' = some out → W p l e rm_Model_findsOverflows s m args below meth c H locs 0 0 (Q_Model_findsOverflows below D k A args s b0 o0 v_row v_number v_saved v_place v_low v_high v_lowBefore v_highBefore v_least v_greatest v_things v_changing v_overLow v_overHigh v_text v_length v_at v_readKey v_readCount v_keys v_h out) (F0 m 117 ls [])) : ∀ (H : Heap) (locs : List Loc) (ls : Array Slot), va_P D vwCl [W_Model k b0 o0 v_row v_number v_saved c94 c95 c96 c97 c98 c99 c100 c101 c102 c103 c104 v_text v_length v_at v_readKey v_readCount v_keys v_h].flatten H → va_D A [W_Model k b0 o0 v_row v_number v_saved c94 c95 c96 c97 c98 c99 c100 c101 c102 c103 c104 v_text v_length v_at v_readKey v_readCount v_keys v_h].flatten → va_S A s.heap H locs → lv_has ls 5 [(0, .ref (b0 o0)), (1, .int j88), (2, .int j89), (3, .int j90), (4, .int j91)] → f_Model_findsOverflows_J176 j89 j90 j91 t92 t93 c103 c104 B117 = some out → W p l e rm_Model_findsOverflows s m args below meth c H locs 0 0 (Q_Model_findsOverflows below D k A args s b0 o0 v_row v_number v_saved v_place v_low v_high v_lowBefore v_highBefore v_least v_greatest v_things v_changing v_overLow v_overHigh v_text v_length v_at v_readKey v_readCount v_keys v_h out) (F0 m 176 ls [.long t93, .int t92, .ref (b0 (o0+11))]) := by
  have hx := X.1.1
  have hb := X.1.2.1
  have hml := X.1.2.2.1
  have hown := X.1.2.2.2.1
  have hts := X.1.2.2.2.2
  intro H locs ls hP hD hS hl hf
  rw [f_Model_findsOverflows_J176] at hf
  obtain ⟨hc, hf⟩ := ofck hf
  generalize hc105 : vp_updL c104 t92.toNatClampNeg t93 = c105 at hf
  refine klast2 (f := c104) (n := 24) (g := c105) X hP hD hS 11 rfl hc hc105 dX8_findsOverflows_176 (fun H locs hP hD hS => ?_)
  have hP : va_P D vwCl [W_Model k b0 o0 v_row v_number v_saved c94 c95 c96 c97 c98 c99 c100 c101 c102 c103 c105 v_text v_length v_at v_readKey v_readCount v_keys v_h].flatten _ := hP
  have hD : va_D A [W_Model k b0 o0 v_row v_number v_saved c94 c95 c96 c97 c98 c99 c100 c101 c102 c103 c105 v_text v_length v_at v_readKey v_readCount v_keys v_h].flatten := hD
  refine lv_iload_n hx hb dX8_findsOverflows_177 rfl (lv_at hl 2 rfl) ?_
  refine lv_iload hx hb dX8_findsOverflows_178 (lv_at hl 4 rfl) ?_
  refine lv_if_eq (tgt := 187) hx hb dX8_findsOverflows_180 (by decide) (fun hc => ?_) (fun hc => ?_)
  · have hf := ofpos hf hc
    refine lv_iconst (v := 0) hx hb dX8_findsOverflows_187 (by decide) ?_
    refine lv_iadd hx hb dX8_findsOverflows_188 ?_
    refine lv_istore_n (lv' := [(2, .int (j89 + 0)), (0, .ref (b0 o0)), (1, .int j88), (3, .int j90), (4, .int j91)]) hx hb dX8_findsOverflows_189 rfl hl (by decide) rfl (fun ls hl => ?_)
    refine lv_iinc (v := j90 + 1) (lv' := [(3, .int (j90 + 1)), (2, .int (j89 + 0)), (0, .ref (b0 o0)), (1, .int j88), (4, .int j91)]) hx hb dX8_findsOverflows_190 hl (k := 3) rfl rfl (by decide) rfl (fun ls hl => ?_)
    refine lv_goto (tgt := 117) hx hb dX8_findsOverflows_193 (by decide) ?_
    exact hB117 (j89 + 0) (j90 + 1) c103 c105 _ _ _ hP hD hS (lv_sub hl [2, 3, 1, 0] rfl) hf
  · have hf := ofneg hf hc
    refine lv_iconst (v := 1) hx hb dX8_findsOverflows_183 (by decide) ?_
    refine lv_goto (tgt := 188) hx hb dX8_findsOverflows_184 (by decide) ?_
    refine lv_iadd hx hb dX8_findsOverflows_188 ?_
    refine lv_istore_n (lv' := [(2, .int (j89 + 1)), (0, .ref (b0 o0)), (1, .int j88), (3, .int j90), (4, .int j91)]) hx hb dX8_findsOverflows_189 rfl hl (by decide) rfl (fun ls hl => ?_)
    refine lv_iinc (v := j90 + 1) (lv' := [(3, .int (j90 + 1)), (2, .int (j89 + 1)), (0, .ref (b0 o0)), (1, .int j88), (4, .int j91)]) hx hb dX8_findsOverflows_190 hl (k := 3) rfl rfl (by decide) rfl (fun ls hl => ?_)
    refine lv_goto (tgt := 117) hx hb dX8_findsOverflows_193 (by decide) ?_
    exact hB117 (j89 + 1) (j90 + 1) c103 c105 _ _ _ hP hD hS (lv_sub hl [2, 3, 1, 0] rfl) hf
set_option maxRecDepth 100000 in
set_option maxHeartbeats 1000000 in
theorem w_Model_findsOverflows_J155 {p : Program} {l : Launch} {e : Env} {s : State} {m : MethodId} {below : List Frame} {meth : Method} {c : Code} {args : Array Value} {A : Nat → Prop} {D : va_G} {k : Nat → ClassId} {t : Nat → Nat} (X : BX l D k t p s m args meth c cX8_findsOverflows 5 RX8 none A) (b0 : Nat → Nat) (o0 : Nat) (v_row : FI) (v_number : FJ) (v_saved : Int32) (v_place : FI) (v_low : FJ) (v_high : FJ) (v_lowBefore : FJ) (v_highBefore : FJ) (v_least : FJ) (v_greatest : FJ) (v_things : Int32) (v_changing : Int32) (v_overLow : FJ) (v_overHigh : FJ) (v_text : FI) (v_length : Int32) (v_at : Int32) (v_readKey : FI) (v_readCount : FJ) (v_keys : Int32) (v_h : Int64) (N : Nat) (j70 : Int32) (j71 : Int32) (j72 : Int32) (j73 : Int32) (t74 : Int32) (t75 : Int64) (c76 : FI) (c77 : FJ) (c78 : FJ) (c79 : FJ) (c80 : FJ) (c81 : FJ) (c82 : FJ) (c83 : Int32) (c84 : Int32) (c85 : FJ) (c86 : FJ) (out : FI × FJ × FJ × FJ × FJ × FJ × FJ × Int32 × Int32 × FJ × FJ) (B117 : Int32 → Int32 → FJ → FJ → Option (FI × FJ × FJ × FJ × FJ × FJ × FJ × Int32 × Int32 × FJ × FJ)) (hB117 : ∀ (i56' : Int32) (i57' : Int32) (c67' : FJ) (c68' : FJ) (H : Heap) (locs : List Loc) (ls : Array Slot), va_P D vwCl [W_Model k b0 o0 v_row v_number v_saved c76 c77 c78 c79 c80 c81 c82 c83 c84 c67' c68' v_text v_length v_at v_readKey v_readCount v_keys v_h].flatten H → va_D A [W_Model k b0 o0 v_row v_number v_saved c76 c77 c78 c79 c80 c81 c82 c83 c84 c67' c68' v_text v_length v_at v_readKey v_readCount v_keys v_h].flatten → va_S A s.heap H locs → lv_has ls 5 [(0, .ref (b0 o0)), (1, .int j70), (2, .int i56'), (3, .int i57')] → B117 i56' i57' c67' c68' = some out → W p l e rm_Model_findsOverflows s m args below meth c H locs 0 0 (Q_Model_findsOverflows below D k A args s b0 o0 v_row v_number v_saved v_place v_low v_high v_lowBefore v_highBefore v_least v_greatest v_things v_changing v_overLow v_overHigh v_text v_length v_at v_readKey v_readCount v_keys v_h out) (F0 m 117 ls [])) : ∀ (H : Heap) (locs : List Loc) (ls : Array Slot), va_P D vwCl [W_Model k b0 o0 v_row v_number v_saved c76 c77 c78 c79 c80 c81 c82 c83 c84 c85 c86 v_text v_length v_at v_readKey v_readCount v_keys v_h].flatten H → va_D A [W_Model k b0 o0 v_row v_number v_saved c76 c77 c78 c79 c80 c81 c82 c83 c84 c85 c86 v_text v_length v_at v_readKey v_readCount v_keys v_h].flatten → va_S A s.heap H locs → lv_has ls 5 [(0, .ref (b0 o0)), (1, .int j70), (2, .int j71), (3, .int j72), (4, .int j73)] → f_Model_findsOverflows_J155 j71 j72 j73 t74 t75 c78 c85 c86 B117 = some out → W p l e rm_Model_findsOverflows s m args below meth c H locs 0 0 (Q_Model_findsOverflows below D k A args s b0 o0 v_row v_number v_saved v_place v_low v_high v_lowBefore v_highBefore v_least v_greatest v_things v_changing v_overLow v_overHigh v_text v_length v_at v_readKey v_readCount v_keys v_h out) (F0 m 155 ls [.long t75, .int t74, .ref (b0 (o0+10))]) := by
  have hx := X.1.1
  have hb := X.1.2.1
  have hml := X.1.2.2.1
  have hown := X.1.2.2.2.1
  have hts := X.1.2.2.2.2
  intro H locs ls hP hD hS hl hf
  rw [f_Model_findsOverflows_J155] at hf
  obtain ⟨hc, hf⟩ := ofck hf
  generalize hc87 : vp_updL c85 t74.toNatClampNeg t75 = c87 at hf
  refine klast2 (f := c85) (n := 24) (g := c87) X hP hD hS 10 rfl hc hc87 dX8_findsOverflows_155 (fun H locs hP hD hS => ?_)
  have hP : va_P D vwCl [W_Model k b0 o0 v_row v_number v_saved c76 c77 c78 c79 c80 c81 c82 c83 c84 c87 c86 v_text v_length v_at v_readKey v_readCount v_keys v_h].flatten _ := hP
  have hD : va_D A [W_Model k b0 o0 v_row v_number v_saved c76 c77 c78 c79 c80 c81 c82 c83 c84 c87 c86 v_text v_length v_at v_readKey v_readCount v_keys v_h].flatten := hD
  refine lv_aload_n hx hb dX8_findsOverflows_156 rfl (lv_at hl 0 rfl) ?_
  refine kget (v := .ref (b0 (o0+11))) X hP ff_X8_41 0 rfl rfl dX8_findsOverflows_157 ?_
  refine lv_iload_n hx hb dX8_findsOverflows_160 rfl (lv_at hl 3 rfl) ?_
  refine lv_iload hx hb dX8_findsOverflows_161 (lv_at hl 4 rfl) ?_
  refine lv_if_eq (tgt := 175) hx hb dX8_findsOverflows_163 (by decide) (fun hc => ?_) (fun hc => ?_)
  · have hf := ofpos hf hc
    refine lv_lconst (v := 0) hx hb dX8_findsOverflows_175 (by decide) ?_
    exact w_Model_findsOverflows_J176 X b0 o0 v_row v_number v_saved v_place v_low v_high v_lowBefore v_highBefore v_least v_greatest v_things v_changing v_overLow v_overHigh v_text v_length v_at v_readKey v_readCount v_keys v_h N j70 j71 j72 j73 j72 0 c76 c77 c78 c79 c80 c81 c82 c83 c84 c87 c86 out _ hB117 _ _ _ hP hD hS (lv_sub hl [0, 1, 2, 3, 4] rfl) hf
  · have hf := ofneg hf hc
    refine lv_aload_n hx hb dX8_findsOverflows_166 rfl (lv_at hl 0 rfl) ?_
    refine kget (v := .ref (b0 (o0+5))) X hP ff_X8_23 0 rfl rfl dX8_findsOverflows_167 ?_
    refine lv_iload_n hx hb dX8_findsOverflows_170 rfl (lv_at hl 2 rfl) ?_
    obtain ⟨hc, hf⟩ := ofck hf
    refine klald (f := c78) (n := 24) X hP 5 rfl hc dX8_findsOverflows_171 ?_
    refine lv_goto (tgt := 176) hx hb dX8_findsOverflows_172 (by decide) ?_
    exact w_Model_findsOverflows_J176 X b0 o0 v_row v_number v_saved v_place v_low v_high v_lowBefore v_highBefore v_least v_greatest v_things v_changing v_overLow v_overHigh v_text v_length v_at v_readKey v_readCount v_keys v_h N j70 j71 j72 j73 j72 (c78 j71.toNatClampNeg) c76 c77 c78 c79 c80 c81 c82 c83 c84 c87 c86 out _ hB117 _ _ _ hP hD hS (lv_sub hl [0, 1, 2, 3, 4] rfl) hf
set_option maxRecDepth 100000 in
set_option maxHeartbeats 1000000 in
theorem w_Model_findsOverflows_L117 {p : Program} {l : Launch} {e : Env} {s : State} {m : MethodId} {below : List Frame} {meth : Method} {c : Code} {args : Array Value} {A : Nat → Prop} {D : va_G} {k : Nat → ClassId} {t : Nat → Nat} (X : BX l D k t p s m args meth c cX8_findsOverflows 5 RX8 none A) (b0 : Nat → Nat) (o0 : Nat) (v_row : FI) (v_number : FJ) (v_saved : Int32) (v_place : FI) (v_low : FJ) (v_high : FJ) (v_lowBefore : FJ) (v_highBefore : FJ) (v_least : FJ) (v_greatest : FJ) (v_things : Int32) (v_changing : Int32) (v_overLow : FJ) (v_overHigh : FJ) (v_text : FI) (v_length : Int32) (v_at : Int32) (v_readKey : FI) (v_readCount : FJ) (v_keys : Int32) (v_h : Int64) (N : Nat) (i55 : Int32) (c58 : FI) (c59 : FJ) (c60 : FJ) (c61 : FJ) (c62 : FJ) (c63 : FJ) (c64 : FJ) (c65 : Int32) (c66 : Int32) (out : FI × FJ × FJ × FJ × FJ × FJ × FJ × Int32 × Int32 × FJ × FJ) (K196 : Int32 → Int32 → FJ → FJ → Option (FI × FJ × FJ × FJ × FJ × FJ × FJ × Int32 × Int32 × FJ × FJ)) (hK196 : ∀ (i56' : Int32) (i57' : Int32) (c67' : FJ) (c68' : FJ) (H : Heap) (locs : List Loc) (ls : Array Slot), va_P D vwCl [W_Model k b0 o0 v_row v_number v_saved c58 c59 c60 c61 c62 c63 c64 c65 c66 c67' c68' v_text v_length v_at v_readKey v_readCount v_keys v_h].flatten H → va_D A [W_Model k b0 o0 v_row v_number v_saved c58 c59 c60 c61 c62 c63 c64 c65 c66 c67' c68' v_text v_length v_at v_readKey v_readCount v_keys v_h].flatten → va_S A s.heap H locs → lv_has ls 5 [] → K196 i56' i57' c67' c68' = some out → W p l e rm_Model_findsOverflows s m args below meth c H locs 0 0 (Q_Model_findsOverflows below D k A args s b0 o0 v_row v_number v_saved v_place v_low v_high v_lowBefore v_highBefore v_least v_greatest v_things v_changing v_overLow v_overHigh v_text v_length v_at v_readKey v_readCount v_keys v_h out) (F0 m 196 ls [])) : ∀ (n : Nat) (i56 : Int32) (i57 : Int32) (c67 : FJ) (c68 : FJ) (H : Heap) (locs : List Loc) (ls : Array Slot), va_P D vwCl [W_Model k b0 o0 v_row v_number v_saved c58 c59 c60 c61 c62 c63 c64 c65 c66 c67 c68 v_text v_length v_at v_readKey v_readCount v_keys v_h].flatten H → va_D A [W_Model k b0 o0 v_row v_number v_saved c58 c59 c60 c61 c62 c63 c64 c65 c66 c67 c68 v_text v_length v_at v_readKey v_readCount v_keys v_h].flatten → va_S A s.heap H locs → lv_has ls 5 [(0, .ref (b0 o0)), (1, .int i55), (2, .int i56), (3, .int i57)] → f_Model_findsOverflows_L117 i55 c59 c60 v_row K196 n i56 i57 c67 c68 = some out → W p l e rm_Model_findsOverflows s m args below meth c H locs 0 0 (Q_Model_findsOverflows below D k A args s b0 o0 v_row v_number v_saved v_place v_low v_high v_lowBefore v_highBefore v_least v_greatest v_things v_changing v_overLow v_overHigh v_text v_length v_at v_readKey v_readCount v_keys v_h out) (F0 m 117 ls []) := by
  have hx := X.1.1
  have hb := X.1.2.1
  have hml := X.1.2.2.1
  have hown := X.1.2.2.2.1
  have hts := X.1.2.2.2.2
  intro n
  induction n with
  | zero =>
    intro i56 i57 c67 c68 H locs ls hP hD hS hl hf
    rw [f_Model_findsOverflows_L117] at hf
    cases hf
  | succ n ih =>
    intro i56 i57 c67 c68 H locs ls hP hD hS hl hf
    rw [f_Model_findsOverflows_L117] at hf
    refine lv_iload_n hx hb dX8_findsOverflows_117 rfl (lv_at hl 3 rfl) ?_
    refine lv_aload_n hx hb dX8_findsOverflows_118 rfl (lv_at hl 0 rfl) ?_
    refine kget (v := .ref (b0 (o0+1))) X hP ff_X8_7 0 rfl rfl dX8_findsOverflows_119 ?_
    refine lv_iconst (v := 0) hx hb dX8_findsOverflows_122 (by decide) ?_
    obtain ⟨hc, hf⟩ := ofck hf
    refine kiald (f := v_row) (n := 1002) X hP 1 rfl hc dX8_findsOverflows_123 ?_
    refine lv_icmp_ge (tgt := 196) hx hb dX8_findsOverflows_124 (by decide) (fun hc => ?_) (fun hc => ?_)
    · have hf := ofpos hf hc
      exact hK196 i56 i57 c67 c68 _ _ _ hP hD hS (lv_sub hl [] rfl) hf
    · have hf := ofneg hf hc
      refine lv_aload_n hx hb dX8_findsOverflows_127 rfl (lv_at hl 0 rfl) ?_
      refine lv_iload_n hx hb dX8_findsOverflows_128 rfl (lv_at hl 1 rfl) ?_
      refine lv_iload_n hx hb dX8_findsOverflows_129 rfl (lv_at hl 3 rfl) ?_
      obtain ⟨r69, hg_r69, hf⟩ := ofbind hf
      refine kcV (bs := [W_Model k b0 o0 v_row v_number v_saved c58 c59 c60 c61 c62 c63 c64 c65 c66 c67 c68 v_text v_length v_at v_readKey v_readCount v_keys v_h]) (br := []) (bc := [W_Model k b0 o0 v_row v_number v_saved c58 c59 c60 c61 c62 c63 c64 c65 c66 c67 c68 v_text v_length v_at v_readKey v_readCount v_keys v_h]) (bc' := [W_Model k b0 o0 v_row v_number v_saved c58 c59 c60 c61 c62 c63 c64 c65 c66 c67 c68 v_text v_length v_at v_readKey v_readCount v_keys v_h]) X hP hD hS (c_Model_marked l D k t b0 o0 v_row v_number v_saved c58 c59 c60 c61 c62 c63 c64 c65 c66 c67 c68 v_text v_length v_at v_readKey v_readCount v_keys v_h i55 i57 r69 hg_r69) mv_X8_120 hl [] [0] 8 ⟨rfl, rfl⟩ ⟨Nat.le_of_ble_eq_true rfl, Nat.le_of_ble_eq_true rfl⟩ rfl rfl rfl rfl rfl rfl rfl (Nat.le_of_ble_eq_true rfl) dX8_findsOverflows_130 (fun H locs hP hD hS => ?_)
      have hP : va_P D vwCl [W_Model k b0 o0 v_row v_number v_saved c58 c59 c60 c61 c62 c63 c64 c65 c66 c67 c68 v_text v_length v_at v_readKey v_readCount v_keys v_h].flatten _ := hP
      have hD : va_D A [W_Model k b0 o0 v_row v_number v_saved c58 c59 c60 c61 c62 c63 c64 c65 c66 c67 c68 v_text v_length v_at v_readKey v_readCount v_keys v_h].flatten := hD
      refine lv_istore (lv' := [(4, .int r69), (0, .ref (b0 o0)), (1, .int i55), (2, .int i56), (3, .int i57)]) hx hb dX8_findsOverflows_133 hl (by decide) rfl (fun ls hl => ?_)
      refine lv_aload_n hx hb dX8_findsOverflows_135 rfl (lv_at hl 1 rfl) ?_
      refine kget (v := .ref (b0 (o0+10))) X hP ff_X8_38 0 rfl rfl dX8_findsOverflows_136 ?_
      refine lv_iload_n hx hb dX8_findsOverflows_139 rfl (lv_at hl 4 rfl) ?_
      refine lv_iload hx hb dX8_findsOverflows_140 (lv_at hl 0 rfl) ?_
      refine lv_if_eq (tgt := 154) hx hb dX8_findsOverflows_142 (by decide) (fun hc => ?_) (fun hc => ?_)
      · have hf := ofpos hf hc
        refine lv_lconst (v := 0) hx hb dX8_findsOverflows_154 (by decide) ?_
        exact w_Model_findsOverflows_J155 X b0 o0 v_row v_number v_saved v_place v_low v_high v_lowBefore v_highBefore v_least v_greatest v_things v_changing v_overLow v_overHigh v_text v_length v_at v_readKey v_readCount v_keys v_h N i55 i56 i57 r69 i57 0 c58 c59 c60 c61 c62 c63 c64 c65 c66 c67 c68 out _ ih _ _ _ hP hD hS (lv_sub hl [1, 2, 3, 4, 0] rfl) hf
      · have hf := ofneg hf hc
        refine lv_aload_n hx hb dX8_findsOverflows_145 rfl (lv_at hl 1 rfl) ?_
        refine kget (v := .ref (b0 (o0+4))) X hP ff_X8_20 0 rfl rfl dX8_findsOverflows_146 ?_
        refine lv_iload_n hx hb dX8_findsOverflows_149 rfl (lv_at hl 3 rfl) ?_
        obtain ⟨hc, hf⟩ := ofck hf
        refine klald (f := c59) (n := 24) X hP 4 rfl hc dX8_findsOverflows_150 ?_
        refine lv_goto (tgt := 155) hx hb dX8_findsOverflows_151 (by decide) ?_
        exact w_Model_findsOverflows_J155 X b0 o0 v_row v_number v_saved v_place v_low v_high v_lowBefore v_highBefore v_least v_greatest v_things v_changing v_overLow v_overHigh v_text v_length v_at v_readKey v_readCount v_keys v_h N i55 i56 i57 r69 i57 (c59 i56.toNatClampNeg) c58 c59 c60 c61 c62 c63 c64 c65 c66 c67 c68 out _ ih _ _ _ hP hD hS (lv_sub hl [1, 2, 3, 4, 0] rfl) hf
set_option maxRecDepth 100000 in
set_option maxHeartbeats 1000000 in
theorem c_Model_findsOverflows (l : Launch) (D : va_G) (k : Nat → ClassId) (t : Nat → Nat) (b0 : Nat → Nat) (o0 : Nat) (v_row : FI) (v_number : FJ) (v_saved : Int32) (v_place : FI) (v_low : FJ) (v_high : FJ) (v_lowBefore : FJ) (v_highBefore : FJ) (v_least : FJ) (v_greatest : FJ) (v_things : Int32) (v_changing : Int32) (v_overLow : FJ) (v_overHigh : FJ) (v_text : FI) (v_length : Int32) (v_at : Int32) (v_readKey : FI) (v_readCount : FJ) (v_keys : Int32) (v_h : Int64) (x1 : Int32) (N : Nat) (out : FI × FJ × FJ × FJ × FJ × FJ × FJ × Int32 × Int32 × FJ × FJ) (hf : f_Model_findsOverflows N x1 v_row v_number v_place v_low v_high v_lowBefore v_highBefore v_least v_greatest v_things v_changing v_overLow v_overHigh = some out) : CT l D k t yX8_findsOverflows cX8_findsOverflows 5 none rm_Model_findsOverflows [.ref (b0 o0), .int x1] [W_Model k b0 o0 v_row v_number v_saved v_place v_low v_high v_lowBefore v_highBefore v_least v_greatest v_things v_changing v_overLow v_overHigh v_text v_length v_at v_readKey v_readCount v_keys v_h].flatten none [W_Model k b0 o0 v_row v_number v_saved out.1 out.2.1 out.2.2.1 out.2.2.2.1 out.2.2.2.2.1 out.2.2.2.2.2.1 out.2.2.2.2.2.2.1 out.2.2.2.2.2.2.2.1 out.2.2.2.2.2.2.2.2.1 out.2.2.2.2.2.2.2.2.2.1 out.2.2.2.2.2.2.2.2.2.2 v_text v_length v_at v_readKey v_readCount v_keys v_h].flatten := by
  refine kofW (by decide) (Nat.le_of_ble_eq_true rfl) ?_
  intro p e s m below meth c A ls X hP hD hS hl
  have hx := X.1.1
  have hb := X.1.2.1
  have hml := X.1.2.2.1
  have hown := X.1.2.2.2.1
  have hts := X.1.2.2.2.2
  have hl : lv_has ls 5 [(0, .ref (b0 o0)), (1, .int x1)] := hl
  rw [f_Model_findsOverflows] at hf
  refine lv_aload_n hx hb dX8_findsOverflows_0 rfl (lv_at hl 0 rfl) ?_
  refine lv_iconst (v := 0) hx hb dX8_findsOverflows_1 (by decide) ?_
  refine kputi (v := 0) X hP hD hS fp_X8_127 0 rfl (Nat.le_of_ble_eq_true rfl) dX8_findsOverflows_2 (fun H locs hP hD hS => ?_)
  have hP : va_P D vwCl [W_Model k b0 o0 v_row v_number v_saved v_place v_low v_high v_lowBefore v_highBefore v_least v_greatest 0 v_changing v_overLow v_overHigh v_text v_length v_at v_readKey v_readCount v_keys v_h].flatten _ := hP
  have hD : va_D A [W_Model k b0 o0 v_row v_number v_saved v_place v_low v_high v_lowBefore v_highBefore v_least v_greatest 0 v_changing v_overLow v_overHigh v_text v_length v_at v_readKey v_readCount v_keys v_h].flatten := hD
  refine lv_iconst (v := 0) hx hb dX8_findsOverflows_5 (by decide) ?_
  refine lv_istore_n (lv' := [(2, .int 0), (0, .ref (b0 o0)), (1, .int x1)]) hx hb dX8_findsOverflows_6 rfl hl (by decide) rfl (fun ls hl => ?_)
  refine w_Model_findsOverflows_L7 X b0 o0 v_row v_number v_saved v_place v_low v_high v_lowBefore v_highBefore v_least v_greatest v_things v_changing v_overLow v_overHigh v_text v_length v_at v_readKey v_readCount v_keys v_h N x1 v_low v_high v_lowBefore v_highBefore v_least v_greatest v_changing v_overLow v_overHigh out _ ?_ N 0 v_place 0 _ _ _ hP hD hS (lv_sub hl [1, 2, 0] rfl) hf
  · intro i22 c23 c24 H locs ls hP hD hS hl hf
    refine lv_iconst (v := 0) hx hb dX8_findsOverflows_56 (by decide) ?_
    refine lv_istore_n (lv' := [(2, .int 0), (0, .ref (b0 o0)), (1, .int x1)]) hx hb dX8_findsOverflows_57 rfl hl (by decide) rfl (fun ls hl => ?_)
    refine w_Model_findsOverflows_L58 X b0 o0 v_row v_number v_saved v_place v_low v_high v_lowBefore v_highBefore v_least v_greatest v_things v_changing v_overLow v_overHigh v_text v_length v_at v_readKey v_readCount v_keys v_h N x1 c23 v_low v_high v_lowBefore v_highBefore c24 v_changing v_overLow v_overHigh out _ ?_ N 0 v_least v_greatest _ _ _ hP hD hS (lv_sub hl [1, 2, 0] rfl) hf
    · intro i46 c47 c48 H locs ls hP hD hS hl hf
      refine lv_aload_n hx hb dX8_findsOverflows_98 rfl (lv_at hl 0 rfl) ?_
      refine lv_lconst (v := 1) hx hb dX8_findsOverflows_99 (by decide) ?_
      obtain ⟨r49, hg_r49, hf⟩ := ofbind hf
      refine kcV (bs := [W_Model k b0 o0 v_row v_number v_saved c23 v_low v_high v_lowBefore v_highBefore c47 c48 c24 v_changing v_overLow v_overHigh v_text v_length v_at v_readKey v_readCount v_keys v_h]) (br := []) (bc := [W_Model k b0 o0 v_row v_number v_saved c23 v_low v_high v_lowBefore v_highBefore c47 c48 c24 v_changing v_overLow v_overHigh v_text v_length v_at v_readKey v_readCount v_keys v_h]) (bc' := [W_Model k b0 o0 v_row v_number v_saved c23 r49.1 r49.2 v_lowBefore v_highBefore c47 c48 c24 v_changing v_overLow v_overHigh v_text v_length v_at v_readKey v_readCount v_keys v_h]) X hP hD hS (c_Model_begins l D k t b0 o0 v_row v_number v_saved c23 v_low v_high v_lowBefore v_highBefore c47 c48 c24 v_changing v_overLow v_overHigh v_text v_length v_at v_readKey v_readCount v_keys v_h 1 N r49 hg_r49) mv_X8_143 hl [] [0] 8 ⟨rfl, rfl⟩ ⟨Nat.le_of_ble_eq_true rfl, Nat.le_of_ble_eq_true rfl⟩ rfl rfl rfl rfl rfl rfl rfl (Nat.le_of_ble_eq_true rfl) dX8_findsOverflows_100 (fun H locs hP hD hS => ?_)
      have hP : va_P D vwCl [W_Model k b0 o0 v_row v_number v_saved c23 r49.1 r49.2 v_lowBefore v_highBefore c47 c48 c24 v_changing v_overLow v_overHigh v_text v_length v_at v_readKey v_readCount v_keys v_h].flatten _ := hP
      have hD : va_D A [W_Model k b0 o0 v_row v_number v_saved c23 r49.1 r49.2 v_lowBefore v_highBefore c47 c48 c24 v_changing v_overLow v_overHigh v_text v_length v_at v_readKey v_readCount v_keys v_h].flatten := hD
      refine lv_aload_n hx hb dX8_findsOverflows_103 rfl (lv_at hl 0 rfl) ?_
      refine lv_aload_n hx hb dX8_findsOverflows_104 rfl (lv_at hl 0 rfl) ?_
      refine kget (v := .ref (b0 (o0+1))) X hP ff_X8_7 0 rfl rfl dX8_findsOverflows_105 ?_
      refine lv_iconst (v := 5) hx hb dX8_findsOverflows_108 (by decide) ?_
      obtain ⟨hc, hf⟩ := ofck hf
      refine kiald (f := v_row) (n := 1002) X hP 1 rfl hc dX8_findsOverflows_109 ?_
      obtain ⟨r50, hg_r50, hf⟩ := ofbind hf
      refine kcV (bs := [W_Model k b0 o0 v_row v_number v_saved c23 r49.1 r49.2 v_lowBefore v_highBefore c47 c48 c24 v_changing v_overLow v_overHigh v_text v_length v_at v_readKey v_readCount v_keys v_h]) (br := []) (bc := [W_Model k b0 o0 v_row v_number v_saved c23 r49.1 r49.2 v_lowBefore v_highBefore c47 c48 c24 v_changing v_overLow v_overHigh v_text v_length v_at v_readKey v_readCount v_keys v_h]) (bc' := [W_Model k b0 o0 v_row v_number v_saved c23 r50.1 r50.2.1 r50.2.2.1 r50.2.2.2.1 c47 c48 c24 r50.2.2.2.2 v_overLow v_overHigh v_text v_length v_at v_readKey v_readCount v_keys v_h]) X hP hD hS (c_Model_rounds l D k t b0 o0 v_row v_number v_saved c23 r49.1 r49.2 v_lowBefore v_highBefore c47 c48 c24 v_changing v_overLow v_overHigh v_text v_length v_at v_readKey v_readCount v_keys v_h (v_row (5 : Int32).toNatClampNeg) N r50 hg_r50) mv_X8_147 hl [] [0] 8 ⟨rfl, rfl⟩ ⟨Nat.le_of_ble_eq_true rfl, Nat.le_of_ble_eq_true rfl⟩ rfl rfl rfl rfl rfl rfl rfl (Nat.le_of_ble_eq_true rfl) dX8_findsOverflows_110 (fun H locs hP hD hS => ?_)
      have hP : va_P D vwCl [W_Model k b0 o0 v_row v_number v_saved c23 r50.1 r50.2.1 r50.2.2.1 r50.2.2.2.1 c47 c48 c24 r50.2.2.2.2 v_overLow v_overHigh v_text v_length v_at v_readKey v_readCount v_keys v_h].flatten _ := hP
      have hD : va_D A [W_Model k b0 o0 v_row v_number v_saved c23 r50.1 r50.2.1 r50.2.2.1 r50.2.2.2.1 c47 c48 c24 r50.2.2.2.2 v_overLow v_overHigh v_text v_length v_at v_readKey v_readCount v_keys v_h].flatten := hD
      refine lv_iconst (v := 0) hx hb dX8_findsOverflows_113 (by decide) ?_
      refine lv_istore_n (lv' := [(2, .int 0), (0, .ref (b0 o0)), (1, .int x1)]) hx hb dX8_findsOverflows_114 rfl hl (by decide) rfl (fun ls hl => ?_)
      refine lv_iconst (v := 0) hx hb dX8_findsOverflows_115 (by decide) ?_
      refine lv_istore_n (lv' := [(3, .int 0), (2, .int 0), (0, .ref (b0 o0)), (1, .int x1)]) hx hb dX8_findsOverflows_116 rfl hl (by decide) rfl (fun ls hl => ?_)
      refine w_Model_findsOverflows_L117 X b0 o0 v_row v_number v_saved v_place v_low v_high v_lowBefore v_highBefore v_least v_greatest v_things v_changing v_overLow v_overHigh v_text v_length v_at v_readKey v_readCount v_keys v_h N x1 c23 r50.1 r50.2.1 r50.2.2.1 r50.2.2.2.1 c47 c48 c24 r50.2.2.2.2 out _ ?_ N 0 0 v_overLow v_overHigh _ _ _ hP hD hS (lv_sub hl [2, 3, 1, 0] rfl) hf
      · intro i106 i107 c108 c109 H locs ls hP hD hS hl hf
        have hf := Option.some.inj hf
        subst hf
        exact kvret X hP hD hS dX8_findsOverflows_196
/-! Model_findsFlows: private void findsFlows(int, int); -/
abbrev rm_Model_findsFlows : Room := ({ frames := 4, cells := 0, slots := 0, locals := 100 } : Room)
def f_Model_findsFlows_L7 (i6 : Int32) (c18 : FJ) (c19 : FJ) (v_row : FI) (K77 : Int32 → FJ → FJ → Option (FI × FJ × FJ × FJ × FJ × FJ × FJ × Int32 × Int32 × FJ × FJ)) : Nat → Int32 → FJ → FJ → Option (FI × FJ × FJ × FJ × FJ × FJ × FJ × Int32 × Int32 × FJ × FJ)
  | 0, _, _, _ => none
  | n + 1, i8, c14, c15 => if ck 0 1002 = true then if (v_row (0 : Int32).toNatClampNeg) ≤ i8 then K77 i8 c14 c15 else (f_Model_restAt i6 i8 v_row).bind (fun r20 => if ck i8 24 = true then if ck 1 1002 = true then if ck i8 24 = true then (f_Model_restAt i6 i8 v_row).bind (fun r22 => if ck i8 24 = true then if ck 1 1002 = true then if ck i8 24 = true then f_Model_findsFlows_L7 i6 c18 c19 v_row K77 n (i8 + 1) (vp_updL c14 i8.toNatClampNeg (r20.toInt64 + ((c18 i8.toNatClampNeg) <<< ((v_row (1 : Int32).toNatClampNeg).toInt64 &&& 63)))) (vp_updL c15 i8.toNatClampNeg (r22.toInt64 + ((c19 i8.toNatClampNeg) <<< ((v_row (1 : Int32).toNatClampNeg).toInt64 &&& 63)))) else none else none else none) else none else none else none) else none
def f_Model_findsFlows_L90 (N : Nat) (c39 : Int32) (v_row : FI) (K123 : Int32 → FI → Option (FI × FJ × FJ × FJ × FJ × FJ × FJ × Int32 × Int32 × FJ × FJ)) : Nat → Int32 → FI → Option (FI × FJ × FJ × FJ × FJ × FJ × FJ × Int32 × Int32 × FJ × FJ)
  | 0, _, _ => none
  | n + 1, i31, c32 => if c39 ≤ i31 then K123 i31 c32 else if ck (7 + i31) 1002 = true then (f_Model_placesOf N (v_row (7 + i31).toNatClampNeg) v_row).bind (fun r43 => if ck i31 24 = true then f_Model_findsFlows_L90 N c39 v_row K123 n (i31 + 1) (upd c32 i31.toNatClampNeg r43) else none) else none
def f_Model_findsFlows (N : Nat) (x1 : Int32) (x2 : Int32) (v_row : FI) (v_number : FJ) (v_place : FI) (v_low : FJ) (v_high : FJ) (v_lowBefore : FJ) (v_highBefore : FJ) (v_least : FJ) (v_greatest : FJ) (v_things : Int32) (v_changing : Int32) (v_overLow : FJ) (v_overHigh : FJ) : Option (FI × FJ × FJ × FJ × FJ × FJ × FJ × Int32 × Int32 × FJ × FJ) := (f_Model_findsOverflows N x1 v_row v_number v_place v_low v_high v_lowBefore v_highBefore v_least v_greatest v_things v_changing v_overLow v_overHigh).bind (fun r1 => f_Model_findsFlows_L7 x1 r1.2.2.2.2.2.2.2.2.2.1 r1.2.2.2.2.2.2.2.2.2.2 v_row (fun i24 c25 c26 => if ck 6 1002 = true then f_Model_findsFlows_L90 N (v_row (6 : Int32).toNatClampNeg) v_row (fun i45 c46 => (f_Model_begins N 0 c46 r1.2.1 r1.2.2.1 c26 (v_row (6 : Int32).toNatClampNeg)).bind (fun r47 => (f_Model_rounds N x2 c46 r47.1 r47.2 r1.2.2.2.1 r1.2.2.2.2.1 c25 c26 (v_row (6 : Int32).toNatClampNeg) r1.2.2.2.2.2.2.2.2.1).bind (fun r48 => some (c46, r48.1, r48.2.1, r48.2.2.1, r48.2.2.2.1, c25, c26, (v_row (6 : Int32).toNatClampNeg), r48.2.2.2.2, r1.2.2.2.2.2.2.2.2.2.1, r1.2.2.2.2.2.2.2.2.2.2)))) N 0 r1.1 else none) N 0 r1.2.2.2.2.2.1 r1.2.2.2.2.2.2.1)
abbrev Q_Model_findsFlows (below : List Frame) (D : va_G) (k : Nat → ClassId) (A : Nat → Prop) (args : Array Value) (s : State) (b0 : Nat → Nat) (o0 : Nat) (v_row : FI) (v_number : FJ) (v_saved : Int32) (v_place : FI) (v_low : FJ) (v_high : FJ) (v_lowBefore : FJ) (v_highBefore : FJ) (v_least : FJ) (v_greatest : FJ) (v_things : Int32) (v_changing : Int32) (v_overLow : FJ) (v_overHigh : FJ) (v_text : FI) (v_length : Int32) (v_at : Int32) (v_readKey : FI) (v_readCount : FJ) (v_keys : Int32) (v_h : Int64) (out : FI × FJ × FJ × FJ × FJ × FJ × FJ × Int32 × Int32 × FJ × FJ) : State → Prop := MQ below (QW D k A none [W_Model k b0 o0 v_row v_number v_saved out.1 out.2.1 out.2.2.1 out.2.2.2.1 out.2.2.2.2.1 out.2.2.2.2.2.1 out.2.2.2.2.2.2.1 out.2.2.2.2.2.2.2.1 out.2.2.2.2.2.2.2.2.1 out.2.2.2.2.2.2.2.2.2.1 out.2.2.2.2.2.2.2.2.2.2 v_text v_length v_at v_readKey v_readCount v_keys v_h].flatten) args s 0 0 A
set_option maxRecDepth 100000 in
set_option maxHeartbeats 1000000 in
theorem w_Model_findsFlows_L7 {p : Program} {l : Launch} {e : Env} {s : State} {m : MethodId} {below : List Frame} {meth : Method} {c : Code} {args : Array Value} {A : Nat → Prop} {D : va_G} {k : Nat → ClassId} {t : Nat → Nat} (X : BX l D k t p s m args meth c cX8_findsFlows 4 RX8 none A) (b0 : Nat → Nat) (o0 : Nat) (v_row : FI) (v_number : FJ) (v_saved : Int32) (v_place : FI) (v_low : FJ) (v_high : FJ) (v_lowBefore : FJ) (v_highBefore : FJ) (v_least : FJ) (v_greatest : FJ) (v_things : Int32) (v_changing : Int32) (v_overLow : FJ) (v_overHigh : FJ) (v_text : FI) (v_length : Int32) (v_at : Int32) (v_readKey : FI) (v_readCount : FJ) (v_keys : Int32) (v_h : Int64) (N : Nat) (i6 : Int32) (i7 : Int32) (c9 : FI) (c10 : FJ) (c11 : FJ) (c12 : FJ) (c13 : FJ) (c16 : Int32) (c17 : Int32) (c18 : FJ) (c19 : FJ) (out : FI × FJ × FJ × FJ × FJ × FJ × FJ × Int32 × Int32 × FJ × FJ) (K77 : Int32 → FJ → FJ → Option (FI × FJ × FJ × FJ × FJ × FJ × FJ × Int32 × Int32 × FJ × FJ)) (hK77 : ∀ (i8' : Int32) (c14' : FJ) (c15' : FJ) (H : Heap) (locs : List Loc) (ls : Array Slot), va_P D vwCl [W_Model k b0 o0 v_row v_number v_saved c9 c10 c11 c12 c13 c14' c15' c16 c17 c18 c19 v_text v_length v_at v_readKey v_readCount v_keys v_h].flatten H → va_D A [W_Model k b0 o0 v_row v_number v_saved c9 c10 c11 c12 c13 c14' c15' c16 c17 c18 c19 v_text v_length v_at v_readKey v_readCount v_keys v_h].flatten → va_S A s.heap H locs → lv_has ls 4 [(0, .ref (b0 o0)), (2, .int i7)] → K77 i8' c14' c15' = some out → W p l e rm_Model_findsFlows s m args below meth c H locs 0 0 (Q_Model_findsFlows below D k A args s b0 o0 v_row v_number v_saved v_place v_low v_high v_lowBefore v_highBefore v_least v_greatest v_things v_changing v_overLow v_overHigh v_text v_length v_at v_readKey v_readCount v_keys v_h out) (F0 m 77 ls [])) : ∀ (n : Nat) (i8 : Int32) (c14 : FJ) (c15 : FJ) (H : Heap) (locs : List Loc) (ls : Array Slot), va_P D vwCl [W_Model k b0 o0 v_row v_number v_saved c9 c10 c11 c12 c13 c14 c15 c16 c17 c18 c19 v_text v_length v_at v_readKey v_readCount v_keys v_h].flatten H → va_D A [W_Model k b0 o0 v_row v_number v_saved c9 c10 c11 c12 c13 c14 c15 c16 c17 c18 c19 v_text v_length v_at v_readKey v_readCount v_keys v_h].flatten → va_S A s.heap H locs → lv_has ls 4 [(0, .ref (b0 o0)), (1, .int i6), (2, .int i7), (3, .int i8)] → f_Model_findsFlows_L7 i6 c18 c19 v_row K77 n i8 c14 c15 = some out → W p l e rm_Model_findsFlows s m args below meth c H locs 0 0 (Q_Model_findsFlows below D k A args s b0 o0 v_row v_number v_saved v_place v_low v_high v_lowBefore v_highBefore v_least v_greatest v_things v_changing v_overLow v_overHigh v_text v_length v_at v_readKey v_readCount v_keys v_h out) (F0 m 7 ls []) := by
  have hx := X.1.1
  have hb := X.1.2.1
  have hml := X.1.2.2.1
  have hown := X.1.2.2.2.1
  have hts := X.1.2.2.2.2
  intro n
  induction n with
  | zero =>
    intro i8 c14 c15 H locs ls hP hD hS hl hf
    rw [f_Model_findsFlows_L7] at hf
    cases hf
  | succ n ih =>
    intro i8 c14 c15 H locs ls hP hD hS hl hf
    rw [f_Model_findsFlows_L7] at hf
    refine lv_iload_n hx hb dX8_findsFlows_7 rfl (lv_at hl 3 rfl) ?_
    refine lv_aload_n hx hb dX8_findsFlows_8 rfl (lv_at hl 0 rfl) ?_
    refine kget (v := .ref (b0 (o0+1))) X hP ff_X8_7 0 rfl rfl dX8_findsFlows_9 ?_
    refine lv_iconst (v := 0) hx hb dX8_findsFlows_12 (by decide) ?_
    obtain ⟨hc, hf⟩ := ofck hf
    refine kiald (f := v_row) (n := 1002) X hP 1 rfl hc dX8_findsFlows_13 ?_
    refine lv_icmp_ge (tgt := 77) hx hb dX8_findsFlows_14 (by decide) (fun hc => ?_) (fun hc => ?_)
    · have hf := ofpos hf hc
      exact hK77 i8 c14 c15 _ _ _ hP hD hS (lv_sub hl [0, 2] rfl) hf
    · have hf := ofneg hf hc
      refine lv_aload_n hx hb dX8_findsFlows_17 rfl (lv_at hl 0 rfl) ?_
      refine kget (v := .ref (b0 (o0+8))) X hP ff_X8_32 0 rfl rfl dX8_findsFlows_18 ?_
      refine lv_iload_n hx hb dX8_findsFlows_21 rfl (lv_at hl 3 rfl) ?_
      refine lv_aload_n hx hb dX8_findsFlows_22 rfl (lv_at hl 0 rfl) ?_
      refine lv_iload_n hx hb dX8_findsFlows_23 rfl (lv_at hl 1 rfl) ?_
      refine lv_iload_n hx hb dX8_findsFlows_24 rfl (lv_at hl 3 rfl) ?_
      obtain ⟨r20, hg_r20, hf⟩ := ofbind hf
      refine kcV (bs := [W_Model k b0 o0 v_row v_number v_saved c9 c10 c11 c12 c13 c14 c15 c16 c17 c18 c19 v_text v_length v_at v_readKey v_readCount v_keys v_h]) (br := []) (bc := [W_Model k b0 o0 v_row v_number v_saved c9 c10 c11 c12 c13 c14 c15 c16 c17 c18 c19 v_text v_length v_at v_readKey v_readCount v_keys v_h]) (bc' := [W_Model k b0 o0 v_row v_number v_saved c9 c10 c11 c12 c13 c14 c15 c16 c17 c18 c19 v_text v_length v_at v_readKey v_readCount v_keys v_h]) X hP hD hS (c_Model_restAt l D k t b0 o0 v_row v_number v_saved c9 c10 c11 c12 c13 c14 c15 c16 c17 c18 c19 v_text v_length v_at v_readKey v_readCount v_keys v_h i6 i8 r20 hg_r20) mv_X8_92 hl [] [0] 8 ⟨rfl, rfl⟩ ⟨Nat.le_of_ble_eq_true rfl, Nat.le_of_ble_eq_true rfl⟩ rfl rfl rfl rfl rfl rfl rfl (Nat.le_of_ble_eq_true rfl) dX8_findsFlows_25 (fun H locs hP hD hS => ?_)
      have hP : va_P D vwCl [W_Model k b0 o0 v_row v_number v_saved c9 c10 c11 c12 c13 c14 c15 c16 c17 c18 c19 v_text v_length v_at v_readKey v_readCount v_keys v_h].flatten _ := hP
      have hD : va_D A [W_Model k b0 o0 v_row v_number v_saved c9 c10 c11 c12 c13 c14 c15 c16 c17 c18 c19 v_text v_length v_at v_readKey v_readCount v_keys v_h].flatten := hD
      refine lv_i2l (v := r20.toInt64) hx hb dX8_findsFlows_28 rfl ?_
      refine lv_aload_n hx hb dX8_findsFlows_29 rfl (lv_at hl 0 rfl) ?_
      refine kget (v := .ref (b0 (o0+10))) X hP ff_X8_38 0 rfl rfl dX8_findsFlows_30 ?_
      refine lv_iload_n hx hb dX8_findsFlows_33 rfl (lv_at hl 3 rfl) ?_
      obtain ⟨hc, hf⟩ := ofck hf
      refine klald (f := c18) (n := 24) X hP 10 rfl hc dX8_findsFlows_34 ?_
      refine lv_aload_n hx hb dX8_findsFlows_35 rfl (lv_at hl 0 rfl) ?_
      refine kget (v := .ref (b0 (o0+1))) X hP ff_X8_7 0 rfl rfl dX8_findsFlows_36 ?_
      refine lv_iconst (v := 1) hx hb dX8_findsFlows_39 (by decide) ?_
      obtain ⟨hc, hf⟩ := ofck hf
      refine kiald (f := v_row) (n := 1002) X hP 1 rfl hc dX8_findsFlows_40 ?_
      refine lv_lshl (v := (c18 i8.toNatClampNeg) <<< ((v_row (1 : Int32).toNatClampNeg).toInt64 &&& 63)) hx hb dX8_findsFlows_41 rfl ?_
      refine lv_ladd hx hb dX8_findsFlows_42 ?_
      obtain ⟨hc, hf⟩ := ofck hf
      generalize hc21 : vp_updL c14 i8.toNatClampNeg (r20.toInt64 + ((c18 i8.toNatClampNeg) <<< ((v_row (1 : Int32).toNatClampNeg).toInt64 &&& 63))) = c21 at hf
      refine klast2 (f := c14) (n := 24) (g := c21) X hP hD hS 8 rfl hc hc21 dX8_findsFlows_43 (fun H locs hP hD hS => ?_)
      have hP : va_P D vwCl [W_Model k b0 o0 v_row v_number v_saved c9 c10 c11 c12 c13 c21 c15 c16 c17 c18 c19 v_text v_length v_at v_readKey v_readCount v_keys v_h].flatten _ := hP
      have hD : va_D A [W_Model k b0 o0 v_row v_number v_saved c9 c10 c11 c12 c13 c21 c15 c16 c17 c18 c19 v_text v_length v_at v_readKey v_readCount v_keys v_h].flatten := hD
      refine lv_aload_n hx hb dX8_findsFlows_44 rfl (lv_at hl 0 rfl) ?_
      refine kget (v := .ref (b0 (o0+9))) X hP ff_X8_35 0 rfl rfl dX8_findsFlows_45 ?_
      refine lv_iload_n hx hb dX8_findsFlows_48 rfl (lv_at hl 3 rfl) ?_
      refine lv_aload_n hx hb dX8_findsFlows_49 rfl (lv_at hl 0 rfl) ?_
      refine lv_iload_n hx hb dX8_findsFlows_50 rfl (lv_at hl 1 rfl) ?_
      refine lv_iload_n hx hb dX8_findsFlows_51 rfl (lv_at hl 3 rfl) ?_
      obtain ⟨r22, hg_r22, hf⟩ := ofbind hf
      refine kcV (bs := [W_Model k b0 o0 v_row v_number v_saved c9 c10 c11 c12 c13 c21 c15 c16 c17 c18 c19 v_text v_length v_at v_readKey v_readCount v_keys v_h]) (br := []) (bc := [W_Model k b0 o0 v_row v_number v_saved c9 c10 c11 c12 c13 c21 c15 c16 c17 c18 c19 v_text v_length v_at v_readKey v_readCount v_keys v_h]) (bc' := [W_Model k b0 o0 v_row v_number v_saved c9 c10 c11 c12 c13 c21 c15 c16 c17 c18 c19 v_text v_length v_at v_readKey v_readCount v_keys v_h]) X hP hD hS (c_Model_restAt l D k t b0 o0 v_row v_number v_saved c9 c10 c11 c12 c13 c21 c15 c16 c17 c18 c19 v_text v_length v_at v_readKey v_readCount v_keys v_h i6 i8 r22 hg_r22) mv_X8_92 hl [] [0] 8 ⟨rfl, rfl⟩ ⟨Nat.le_of_ble_eq_true rfl, Nat.le_of_ble_eq_true rfl⟩ rfl rfl rfl rfl rfl rfl rfl (Nat.le_of_ble_eq_true rfl) dX8_findsFlows_52 (fun H locs hP hD hS => ?_)
      have hP : va_P D vwCl [W_Model k b0 o0 v_row v_number v_saved c9 c10 c11 c12 c13 c21 c15 c16 c17 c18 c19 v_text v_length v_at v_readKey v_readCount v_keys v_h].flatten _ := hP
      have hD : va_D A [W_Model k b0 o0 v_row v_number v_saved c9 c10 c11 c12 c13 c21 c15 c16 c17 c18 c19 v_text v_length v_at v_readKey v_readCount v_keys v_h].flatten := hD
      refine lv_i2l (v := r22.toInt64) hx hb dX8_findsFlows_55 rfl ?_
      refine lv_aload_n hx hb dX8_findsFlows_56 rfl (lv_at hl 0 rfl) ?_
      refine kget (v := .ref (b0 (o0+11))) X hP ff_X8_41 0 rfl rfl dX8_findsFlows_57 ?_
      refine lv_iload_n hx hb dX8_findsFlows_60 rfl (lv_at hl 3 rfl) ?_
      obtain ⟨hc, hf⟩ := ofck hf
      refine klald (f := c19) (n := 24) X hP 11 rfl hc dX8_findsFlows_61 ?_
      refine lv_aload_n hx hb dX8_findsFlows_62 rfl (lv_at hl 0 rfl) ?_
      refine kget (v := .ref (b0 (o0+1))) X hP ff_X8_7 0 rfl rfl dX8_findsFlows_63 ?_
      refine lv_iconst (v := 1) hx hb dX8_findsFlows_66 (by decide) ?_
      obtain ⟨hc, hf⟩ := ofck hf
      refine kiald (f := v_row) (n := 1002) X hP 1 rfl hc dX8_findsFlows_67 ?_
      refine lv_lshl (v := (c19 i8.toNatClampNeg) <<< ((v_row (1 : Int32).toNatClampNeg).toInt64 &&& 63)) hx hb dX8_findsFlows_68 rfl ?_
      refine lv_ladd hx hb dX8_findsFlows_69 ?_
      obtain ⟨hc, hf⟩ := ofck hf
      generalize hc23 : vp_updL c15 i8.toNatClampNeg (r22.toInt64 + ((c19 i8.toNatClampNeg) <<< ((v_row (1 : Int32).toNatClampNeg).toInt64 &&& 63))) = c23 at hf
      refine klast2 (f := c15) (n := 24) (g := c23) X hP hD hS 9 rfl hc hc23 dX8_findsFlows_70 (fun H locs hP hD hS => ?_)
      have hP : va_P D vwCl [W_Model k b0 o0 v_row v_number v_saved c9 c10 c11 c12 c13 c21 c23 c16 c17 c18 c19 v_text v_length v_at v_readKey v_readCount v_keys v_h].flatten _ := hP
      have hD : va_D A [W_Model k b0 o0 v_row v_number v_saved c9 c10 c11 c12 c13 c21 c23 c16 c17 c18 c19 v_text v_length v_at v_readKey v_readCount v_keys v_h].flatten := hD
      refine lv_iinc (v := i8 + 1) (lv' := [(3, .int (i8 + 1)), (0, .ref (b0 o0)), (1, .int i6), (2, .int i7)]) hx hb dX8_findsFlows_71 hl (k := 3) rfl rfl (by decide) rfl (fun ls hl => ?_)
      refine lv_goto (tgt := 7) hx hb dX8_findsFlows_74 (by decide) ?_
      exact ih (i8 + 1) c21 c23 _ _ _ hP hD hS (lv_sub hl [1, 2, 3, 0] rfl) hf
set_option maxRecDepth 100000 in
set_option maxHeartbeats 1000000 in
theorem w_Model_findsFlows_L90 {p : Program} {l : Launch} {e : Env} {s : State} {m : MethodId} {below : List Frame} {meth : Method} {c : Code} {args : Array Value} {A : Nat → Prop} {D : va_G} {k : Nat → ClassId} {t : Nat → Nat} (X : BX l D k t p s m args meth c cX8_findsFlows 4 RX8 none A) (b0 : Nat → Nat) (o0 : Nat) (v_row : FI) (v_number : FJ) (v_saved : Int32) (v_place : FI) (v_low : FJ) (v_high : FJ) (v_lowBefore : FJ) (v_highBefore : FJ) (v_least : FJ) (v_greatest : FJ) (v_things : Int32) (v_changing : Int32) (v_overLow : FJ) (v_overHigh : FJ) (v_text : FI) (v_length : Int32) (v_at : Int32) (v_readKey : FI) (v_readCount : FJ) (v_keys : Int32) (v_h : Int64) (N : Nat) (i30 : Int32) (c33 : FJ) (c34 : FJ) (c35 : FJ) (c36 : FJ) (c37 : FJ) (c38 : FJ) (c39 : Int32) (c40 : Int32) (c41 : FJ) (c42 : FJ) (out : FI × FJ × FJ × FJ × FJ × FJ × FJ × Int32 × Int32 × FJ × FJ) (K123 : Int32 → FI → Option (FI × FJ × FJ × FJ × FJ × FJ × FJ × Int32 × Int32 × FJ × FJ)) (hK123 : ∀ (i31' : Int32) (c32' : FI) (H : Heap) (locs : List Loc) (ls : Array Slot), va_P D vwCl [W_Model k b0 o0 v_row v_number v_saved c32' c33 c34 c35 c36 c37 c38 c39 c40 c41 c42 v_text v_length v_at v_readKey v_readCount v_keys v_h].flatten H → va_D A [W_Model k b0 o0 v_row v_number v_saved c32' c33 c34 c35 c36 c37 c38 c39 c40 c41 c42 v_text v_length v_at v_readKey v_readCount v_keys v_h].flatten → va_S A s.heap H locs → lv_has ls 4 [(0, .ref (b0 o0)), (2, .int i30)] → K123 i31' c32' = some out → W p l e rm_Model_findsFlows s m args below meth c H locs 0 0 (Q_Model_findsFlows below D k A args s b0 o0 v_row v_number v_saved v_place v_low v_high v_lowBefore v_highBefore v_least v_greatest v_things v_changing v_overLow v_overHigh v_text v_length v_at v_readKey v_readCount v_keys v_h out) (F0 m 123 ls [])) : ∀ (n : Nat) (i31 : Int32) (c32 : FI) (H : Heap) (locs : List Loc) (ls : Array Slot), va_P D vwCl [W_Model k b0 o0 v_row v_number v_saved c32 c33 c34 c35 c36 c37 c38 c39 c40 c41 c42 v_text v_length v_at v_readKey v_readCount v_keys v_h].flatten H → va_D A [W_Model k b0 o0 v_row v_number v_saved c32 c33 c34 c35 c36 c37 c38 c39 c40 c41 c42 v_text v_length v_at v_readKey v_readCount v_keys v_h].flatten → va_S A s.heap H locs → lv_has ls 4 [(0, .ref (b0 o0)), (2, .int i30), (3, .int i31)] → f_Model_findsFlows_L90 N c39 v_row K123 n i31 c32 = some out → W p l e rm_Model_findsFlows s m args below meth c H locs 0 0 (Q_Model_findsFlows below D k A args s b0 o0 v_row v_number v_saved v_place v_low v_high v_lowBefore v_highBefore v_least v_greatest v_things v_changing v_overLow v_overHigh v_text v_length v_at v_readKey v_readCount v_keys v_h out) (F0 m 90 ls []) := by
  have hx := X.1.1
  have hb := X.1.2.1
  have hml := X.1.2.2.1
  have hown := X.1.2.2.2.1
  have hts := X.1.2.2.2.2
  intro n
  induction n with
  | zero =>
    intro i31 c32 H locs ls hP hD hS hl hf
    rw [f_Model_findsFlows_L90] at hf
    cases hf
  | succ n ih =>
    intro i31 c32 H locs ls hP hD hS hl hf
    rw [f_Model_findsFlows_L90] at hf
    refine lv_iload_n hx hb dX8_findsFlows_90 rfl (lv_at hl 2 rfl) ?_
    refine lv_aload_n hx hb dX8_findsFlows_91 rfl (lv_at hl 0 rfl) ?_
    refine kget (v := .int c39) X hP ff_X8_127 0 rfl rfl dX8_findsFlows_92 ?_
    refine lv_icmp_ge (tgt := 123) hx hb dX8_findsFlows_95 (by decide) (fun hc => ?_) (fun hc => ?_)
    · have hf := ofpos hf hc
      exact hK123 i31 c32 _ _ _ hP hD hS (lv_sub hl [0, 1] rfl) hf
    · have hf := ofneg hf hc
      refine lv_aload_n hx hb dX8_findsFlows_98 rfl (lv_at hl 0 rfl) ?_
      refine kget (v := .ref (b0 (o0+3))) X hP ff_X8_17 0 rfl rfl dX8_findsFlows_99 ?_
      refine lv_iload_n hx hb dX8_findsFlows_102 rfl (lv_at hl 2 rfl) ?_
      refine lv_aload_n hx hb dX8_findsFlows_103 rfl (lv_at hl 0 rfl) ?_
      refine lv_aload_n hx hb dX8_findsFlows_104 rfl (lv_at hl 0 rfl) ?_
      refine kget (v := .ref (b0 (o0+1))) X hP ff_X8_7 0 rfl rfl dX8_findsFlows_105 ?_
      refine lv_bipush (v := 7) hx hb dX8_findsFlows_108 (by decide) ?_
      refine lv_iload_n hx hb dX8_findsFlows_110 rfl (lv_at hl 2 rfl) ?_
      refine lv_iadd hx hb dX8_findsFlows_111 ?_
      obtain ⟨hc, hf⟩ := ofck hf
      refine kiald (f := v_row) (n := 1002) X hP 1 rfl hc dX8_findsFlows_112 ?_
      obtain ⟨r43, hg_r43, hf⟩ := ofbind hf
      refine kcV (bs := [W_Model k b0 o0 v_row v_number v_saved c32 c33 c34 c35 c36 c37 c38 c39 c40 c41 c42 v_text v_length v_at v_readKey v_readCount v_keys v_h]) (br := []) (bc := [W_Model k b0 o0 v_row v_number v_saved c32 c33 c34 c35 c36 c37 c38 c39 c40 c41 c42 v_text v_length v_at v_readKey v_readCount v_keys v_h]) (bc' := [W_Model k b0 o0 v_row v_number v_saved c32 c33 c34 c35 c36 c37 c38 c39 c40 c41 c42 v_text v_length v_at v_readKey v_readCount v_keys v_h]) X hP hD hS (c_Model_placesOf l D k t b0 o0 v_row v_number v_saved c32 c33 c34 c35 c36 c37 c38 c39 c40 c41 c42 v_text v_length v_at v_readKey v_readCount v_keys v_h (v_row (7 + i31).toNatClampNeg) N r43 hg_r43) mv_X8_83 hl [] [0] 8 ⟨rfl, rfl⟩ ⟨Nat.le_of_ble_eq_true rfl, Nat.le_of_ble_eq_true rfl⟩ rfl rfl rfl rfl rfl rfl rfl (Nat.le_of_ble_eq_true rfl) dX8_findsFlows_113 (fun H locs hP hD hS => ?_)
      have hP : va_P D vwCl [W_Model k b0 o0 v_row v_number v_saved c32 c33 c34 c35 c36 c37 c38 c39 c40 c41 c42 v_text v_length v_at v_readKey v_readCount v_keys v_h].flatten _ := hP
      have hD : va_D A [W_Model k b0 o0 v_row v_number v_saved c32 c33 c34 c35 c36 c37 c38 c39 c40 c41 c42 v_text v_length v_at v_readKey v_readCount v_keys v_h].flatten := hD
      obtain ⟨hc, hf⟩ := ofck hf
      generalize hc44 : upd c32 i31.toNatClampNeg r43 = c44 at hf
      refine kiast2 (f := c32) (n := 24) (g := c44) X hP hD hS 3 rfl hc hc44 dX8_findsFlows_116 (fun H locs hP hD hS => ?_)
      have hP : va_P D vwCl [W_Model k b0 o0 v_row v_number v_saved c44 c33 c34 c35 c36 c37 c38 c39 c40 c41 c42 v_text v_length v_at v_readKey v_readCount v_keys v_h].flatten _ := hP
      have hD : va_D A [W_Model k b0 o0 v_row v_number v_saved c44 c33 c34 c35 c36 c37 c38 c39 c40 c41 c42 v_text v_length v_at v_readKey v_readCount v_keys v_h].flatten := hD
      refine lv_iinc (v := i31 + 1) (lv' := [(3, .int (i31 + 1)), (0, .ref (b0 o0)), (2, .int i30)]) hx hb dX8_findsFlows_117 hl (k := 2) rfl rfl (by decide) rfl (fun ls hl => ?_)
      refine lv_goto (tgt := 90) hx hb dX8_findsFlows_120 (by decide) ?_
      exact ih (i31 + 1) c44 _ _ _ hP hD hS (lv_sub hl [1, 2, 0] rfl) hf
set_option maxRecDepth 100000 in
set_option maxHeartbeats 1000000 in
theorem c_Model_findsFlows (l : Launch) (D : va_G) (k : Nat → ClassId) (t : Nat → Nat) (b0 : Nat → Nat) (o0 : Nat) (v_row : FI) (v_number : FJ) (v_saved : Int32) (v_place : FI) (v_low : FJ) (v_high : FJ) (v_lowBefore : FJ) (v_highBefore : FJ) (v_least : FJ) (v_greatest : FJ) (v_things : Int32) (v_changing : Int32) (v_overLow : FJ) (v_overHigh : FJ) (v_text : FI) (v_length : Int32) (v_at : Int32) (v_readKey : FI) (v_readCount : FJ) (v_keys : Int32) (v_h : Int64) (x1 : Int32) (x2 : Int32) (N : Nat) (out : FI × FJ × FJ × FJ × FJ × FJ × FJ × Int32 × Int32 × FJ × FJ) (hf : f_Model_findsFlows N x1 x2 v_row v_number v_place v_low v_high v_lowBefore v_highBefore v_least v_greatest v_things v_changing v_overLow v_overHigh = some out) : CT l D k t yX8_findsFlows cX8_findsFlows 4 none rm_Model_findsFlows [.ref (b0 o0), .int x1, .int x2] [W_Model k b0 o0 v_row v_number v_saved v_place v_low v_high v_lowBefore v_highBefore v_least v_greatest v_things v_changing v_overLow v_overHigh v_text v_length v_at v_readKey v_readCount v_keys v_h].flatten none [W_Model k b0 o0 v_row v_number v_saved out.1 out.2.1 out.2.2.1 out.2.2.2.1 out.2.2.2.2.1 out.2.2.2.2.2.1 out.2.2.2.2.2.2.1 out.2.2.2.2.2.2.2.1 out.2.2.2.2.2.2.2.2.1 out.2.2.2.2.2.2.2.2.2.1 out.2.2.2.2.2.2.2.2.2.2 v_text v_length v_at v_readKey v_readCount v_keys v_h].flatten := by
  refine kofW (by decide) (Nat.le_of_ble_eq_true rfl) ?_
  intro p e s m below meth c A ls X hP hD hS hl
  have hx := X.1.1
  have hb := X.1.2.1
  have hml := X.1.2.2.1
  have hown := X.1.2.2.2.1
  have hts := X.1.2.2.2.2
  have hl : lv_has ls 4 [(0, .ref (b0 o0)), (1, .int x1), (2, .int x2)] := hl
  rw [f_Model_findsFlows] at hf
  refine lv_aload_n hx hb dX8_findsFlows_0 rfl (lv_at hl 0 rfl) ?_
  refine lv_iload_n hx hb dX8_findsFlows_1 rfl (lv_at hl 1 rfl) ?_
  obtain ⟨r1, hg_r1, hf⟩ := ofbind hf
  refine kcV (bs := [W_Model k b0 o0 v_row v_number v_saved v_place v_low v_high v_lowBefore v_highBefore v_least v_greatest v_things v_changing v_overLow v_overHigh v_text v_length v_at v_readKey v_readCount v_keys v_h]) (br := []) (bc := [W_Model k b0 o0 v_row v_number v_saved v_place v_low v_high v_lowBefore v_highBefore v_least v_greatest v_things v_changing v_overLow v_overHigh v_text v_length v_at v_readKey v_readCount v_keys v_h]) (bc' := [W_Model k b0 o0 v_row v_number v_saved r1.1 r1.2.1 r1.2.2.1 r1.2.2.2.1 r1.2.2.2.2.1 r1.2.2.2.2.2.1 r1.2.2.2.2.2.2.1 r1.2.2.2.2.2.2.2.1 r1.2.2.2.2.2.2.2.2.1 r1.2.2.2.2.2.2.2.2.2.1 r1.2.2.2.2.2.2.2.2.2.2 v_text v_length v_at v_readKey v_readCount v_keys v_h]) X hP hD hS (c_Model_findsOverflows l D k t b0 o0 v_row v_number v_saved v_place v_low v_high v_lowBefore v_highBefore v_least v_greatest v_things v_changing v_overLow v_overHigh v_text v_length v_at v_readKey v_readCount v_keys v_h x1 N r1 hg_r1) mv_X8_150 hl [] [0] 8 ⟨rfl, rfl⟩ ⟨Nat.le_of_ble_eq_true rfl, Nat.le_of_ble_eq_true rfl⟩ rfl rfl rfl rfl rfl rfl rfl (Nat.le_of_ble_eq_true rfl) dX8_findsFlows_2 (fun H locs hP hD hS => ?_)
  have hP : va_P D vwCl [W_Model k b0 o0 v_row v_number v_saved r1.1 r1.2.1 r1.2.2.1 r1.2.2.2.1 r1.2.2.2.2.1 r1.2.2.2.2.2.1 r1.2.2.2.2.2.2.1 r1.2.2.2.2.2.2.2.1 r1.2.2.2.2.2.2.2.2.1 r1.2.2.2.2.2.2.2.2.2.1 r1.2.2.2.2.2.2.2.2.2.2 v_text v_length v_at v_readKey v_readCount v_keys v_h].flatten _ := hP
  have hD : va_D A [W_Model k b0 o0 v_row v_number v_saved r1.1 r1.2.1 r1.2.2.1 r1.2.2.2.1 r1.2.2.2.2.1 r1.2.2.2.2.2.1 r1.2.2.2.2.2.2.1 r1.2.2.2.2.2.2.2.1 r1.2.2.2.2.2.2.2.2.1 r1.2.2.2.2.2.2.2.2.2.1 r1.2.2.2.2.2.2.2.2.2.2 v_text v_length v_at v_readKey v_readCount v_keys v_h].flatten := hD
  refine lv_iconst (v := 0) hx hb dX8_findsFlows_5 (by decide) ?_
  refine lv_istore_n (lv' := [(3, .int 0), (0, .ref (b0 o0)), (1, .int x1), (2, .int x2)]) hx hb dX8_findsFlows_6 rfl hl (by decide) rfl (fun ls hl => ?_)
  refine w_Model_findsFlows_L7 X b0 o0 v_row v_number v_saved v_place v_low v_high v_lowBefore v_highBefore v_least v_greatest v_things v_changing v_overLow v_overHigh v_text v_length v_at v_readKey v_readCount v_keys v_h N x1 x2 r1.1 r1.2.1 r1.2.2.1 r1.2.2.2.1 r1.2.2.2.2.1 r1.2.2.2.2.2.2.2.1 r1.2.2.2.2.2.2.2.2.1 r1.2.2.2.2.2.2.2.2.2.1 r1.2.2.2.2.2.2.2.2.2.2 out _ ?_ N 0 r1.2.2.2.2.2.1 r1.2.2.2.2.2.2.1 _ _ _ hP hD hS (lv_sub hl [1, 2, 3, 0] rfl) hf
  · intro i24 c25 c26 H locs ls hP hD hS hl hf
    refine lv_aload_n hx hb dX8_findsFlows_77 rfl (lv_at hl 0 rfl) ?_
    refine lv_aload_n hx hb dX8_findsFlows_78 rfl (lv_at hl 0 rfl) ?_
    refine kget (v := .ref (b0 (o0+1))) X hP ff_X8_7 0 rfl rfl dX8_findsFlows_79 ?_
    refine lv_bipush (v := 6) hx hb dX8_findsFlows_82 (by decide) ?_
    obtain ⟨hc, hf⟩ := ofck hf
    refine kiald (f := v_row) (n := 1002) X hP 1 rfl hc dX8_findsFlows_84 ?_
    generalize hy27 : v_row (6 : Int32).toNatClampNeg = y27 at hf ⊢
    refine kputi (v := y27) X hP hD hS fp_X8_127 0 rfl (Nat.le_of_ble_eq_true rfl) dX8_findsFlows_85 (fun H locs hP hD hS => ?_)
    have hP : va_P D vwCl [W_Model k b0 o0 v_row v_number v_saved r1.1 r1.2.1 r1.2.2.1 r1.2.2.2.1 r1.2.2.2.2.1 c25 c26 y27 r1.2.2.2.2.2.2.2.2.1 r1.2.2.2.2.2.2.2.2.2.1 r1.2.2.2.2.2.2.2.2.2.2 v_text v_length v_at v_readKey v_readCount v_keys v_h].flatten _ := hP
    have hD : va_D A [W_Model k b0 o0 v_row v_number v_saved r1.1 r1.2.1 r1.2.2.1 r1.2.2.2.1 r1.2.2.2.2.1 c25 c26 y27 r1.2.2.2.2.2.2.2.2.1 r1.2.2.2.2.2.2.2.2.2.1 r1.2.2.2.2.2.2.2.2.2.2 v_text v_length v_at v_readKey v_readCount v_keys v_h].flatten := hD
    refine lv_iconst (v := 0) hx hb dX8_findsFlows_88 (by decide) ?_
    refine lv_istore_n (lv' := [(3, .int 0), (0, .ref (b0 o0)), (2, .int x2)]) hx hb dX8_findsFlows_89 rfl hl (by decide) rfl (fun ls hl => ?_)
    refine w_Model_findsFlows_L90 X b0 o0 v_row v_number v_saved v_place v_low v_high v_lowBefore v_highBefore v_least v_greatest v_things v_changing v_overLow v_overHigh v_text v_length v_at v_readKey v_readCount v_keys v_h N x2 r1.2.1 r1.2.2.1 r1.2.2.2.1 r1.2.2.2.2.1 c25 c26 y27 r1.2.2.2.2.2.2.2.2.1 r1.2.2.2.2.2.2.2.2.2.1 r1.2.2.2.2.2.2.2.2.2.2 out _ ?_ N 0 r1.1 _ _ _ hP hD hS (lv_sub hl [1, 2, 0] rfl) hf
    · intro i45 c46 H locs ls hP hD hS hl hf
      refine lv_aload_n hx hb dX8_findsFlows_123 rfl (lv_at hl 0 rfl) ?_
      refine lv_lconst (v := 0) hx hb dX8_findsFlows_124 (by decide) ?_
      obtain ⟨r47, hg_r47, hf⟩ := ofbind hf
      refine kcV (bs := [W_Model k b0 o0 v_row v_number v_saved c46 r1.2.1 r1.2.2.1 r1.2.2.2.1 r1.2.2.2.2.1 c25 c26 y27 r1.2.2.2.2.2.2.2.2.1 r1.2.2.2.2.2.2.2.2.2.1 r1.2.2.2.2.2.2.2.2.2.2 v_text v_length v_at v_readKey v_readCount v_keys v_h]) (br := []) (bc := [W_Model k b0 o0 v_row v_number v_saved c46 r1.2.1 r1.2.2.1 r1.2.2.2.1 r1.2.2.2.2.1 c25 c26 y27 r1.2.2.2.2.2.2.2.2.1 r1.2.2.2.2.2.2.2.2.2.1 r1.2.2.2.2.2.2.2.2.2.2 v_text v_length v_at v_readKey v_readCount v_keys v_h]) (bc' := [W_Model k b0 o0 v_row v_number v_saved c46 r47.1 r47.2 r1.2.2.2.1 r1.2.2.2.2.1 c25 c26 y27 r1.2.2.2.2.2.2.2.2.1 r1.2.2.2.2.2.2.2.2.2.1 r1.2.2.2.2.2.2.2.2.2.2 v_text v_length v_at v_readKey v_readCount v_keys v_h]) X hP hD hS (c_Model_begins l D k t b0 o0 v_row v_number v_saved c46 r1.2.1 r1.2.2.1 r1.2.2.2.1 r1.2.2.2.2.1 c25 c26 y27 r1.2.2.2.2.2.2.2.2.1 r1.2.2.2.2.2.2.2.2.2.1 r1.2.2.2.2.2.2.2.2.2.2 v_text v_length v_at v_readKey v_readCount v_keys v_h 0 N r47 hg_r47) mv_X8_143 hl [] [0] 8 ⟨rfl, rfl⟩ ⟨Nat.le_of_ble_eq_true rfl, Nat.le_of_ble_eq_true rfl⟩ rfl rfl rfl rfl rfl rfl rfl (Nat.le_of_ble_eq_true rfl) dX8_findsFlows_125 (fun H locs hP hD hS => ?_)
      have hP : va_P D vwCl [W_Model k b0 o0 v_row v_number v_saved c46 r47.1 r47.2 r1.2.2.2.1 r1.2.2.2.2.1 c25 c26 y27 r1.2.2.2.2.2.2.2.2.1 r1.2.2.2.2.2.2.2.2.2.1 r1.2.2.2.2.2.2.2.2.2.2 v_text v_length v_at v_readKey v_readCount v_keys v_h].flatten _ := hP
      have hD : va_D A [W_Model k b0 o0 v_row v_number v_saved c46 r47.1 r47.2 r1.2.2.2.1 r1.2.2.2.2.1 c25 c26 y27 r1.2.2.2.2.2.2.2.2.1 r1.2.2.2.2.2.2.2.2.2.1 r1.2.2.2.2.2.2.2.2.2.2 v_text v_length v_at v_readKey v_readCount v_keys v_h].flatten := hD
      refine lv_aload_n hx hb dX8_findsFlows_128 rfl (lv_at hl 0 rfl) ?_
      refine lv_iload_n hx hb dX8_findsFlows_129 rfl (lv_at hl 1 rfl) ?_
      obtain ⟨r48, hg_r48, hf⟩ := ofbind hf
      refine kcV (bs := [W_Model k b0 o0 v_row v_number v_saved c46 r47.1 r47.2 r1.2.2.2.1 r1.2.2.2.2.1 c25 c26 y27 r1.2.2.2.2.2.2.2.2.1 r1.2.2.2.2.2.2.2.2.2.1 r1.2.2.2.2.2.2.2.2.2.2 v_text v_length v_at v_readKey v_readCount v_keys v_h]) (br := []) (bc := [W_Model k b0 o0 v_row v_number v_saved c46 r47.1 r47.2 r1.2.2.2.1 r1.2.2.2.2.1 c25 c26 y27 r1.2.2.2.2.2.2.2.2.1 r1.2.2.2.2.2.2.2.2.2.1 r1.2.2.2.2.2.2.2.2.2.2 v_text v_length v_at v_readKey v_readCount v_keys v_h]) (bc' := [W_Model k b0 o0 v_row v_number v_saved c46 r48.1 r48.2.1 r48.2.2.1 r48.2.2.2.1 c25 c26 y27 r48.2.2.2.2 r1.2.2.2.2.2.2.2.2.2.1 r1.2.2.2.2.2.2.2.2.2.2 v_text v_length v_at v_readKey v_readCount v_keys v_h]) X hP hD hS (c_Model_rounds l D k t b0 o0 v_row v_number v_saved c46 r47.1 r47.2 r1.2.2.2.1 r1.2.2.2.2.1 c25 c26 y27 r1.2.2.2.2.2.2.2.2.1 r1.2.2.2.2.2.2.2.2.2.1 r1.2.2.2.2.2.2.2.2.2.2 v_text v_length v_at v_readKey v_readCount v_keys v_h x2 N r48 hg_r48) mv_X8_147 hl [] [0] 8 ⟨rfl, rfl⟩ ⟨Nat.le_of_ble_eq_true rfl, Nat.le_of_ble_eq_true rfl⟩ rfl rfl rfl rfl rfl rfl rfl (Nat.le_of_ble_eq_true rfl) dX8_findsFlows_130 (fun H locs hP hD hS => ?_)
      have hP : va_P D vwCl [W_Model k b0 o0 v_row v_number v_saved c46 r48.1 r48.2.1 r48.2.2.1 r48.2.2.2.1 c25 c26 y27 r48.2.2.2.2 r1.2.2.2.2.2.2.2.2.2.1 r1.2.2.2.2.2.2.2.2.2.2 v_text v_length v_at v_readKey v_readCount v_keys v_h].flatten _ := hP
      have hD : va_D A [W_Model k b0 o0 v_row v_number v_saved c46 r48.1 r48.2.1 r48.2.2.1 r48.2.2.2.1 c25 c26 y27 r48.2.2.2.2 r1.2.2.2.2.2.2.2.2.2.1 r1.2.2.2.2.2.2.2.2.2.2 v_text v_length v_at v_readKey v_readCount v_keys v_h].flatten := hD
      have hf := Option.some.inj hf
      subst hf
      exact kvret X hP hD hS dX8_findsFlows_133
/-! Model_overflow: public long overflow(int, int, boolean); -/
abbrev rm_Model_overflow : Room := ({ frames := 4, cells := 0, slots := 0, locals := 100 } : Room)
def f_Model_overflow (N : Nat) (x1 : Int32) (x2 : Int32) (x3 : Int32) (v_row : FI) (v_number : FJ) (v_place : FI) (v_low : FJ) (v_high : FJ) (v_lowBefore : FJ) (v_highBefore : FJ) (v_least : FJ) (v_greatest : FJ) (v_things : Int32) (v_changing : Int32) (v_overLow : FJ) (v_overHigh : FJ) : Option (Int64 × FI × FJ × FJ × FJ × FJ × FJ × FJ × Int32 × Int32 × FJ × FJ) := (f_Model_isBraid x1).bind (fun r1 => if r1 = 0 then some ((-2), v_place, v_low, v_high, v_lowBefore, v_highBefore, v_least, v_greatest, v_things, v_changing, v_overLow, v_overHigh) else (f_Model_isCounter x2 v_row).bind (fun r2 => if r2 = 0 then some ((-2), v_place, v_low, v_high, v_lowBefore, v_highBefore, v_least, v_greatest, v_things, v_changing, v_overLow, v_overHigh) else (f_Model_findsOverflows N x1 v_row v_number v_place v_low v_high v_lowBefore v_highBefore v_least v_greatest v_things v_changing v_overLow v_overHigh).bind (fun r3 => if x3 = 0 then if ck x2 24 = true then some (r3.2.2.2.2.2.2.2.2.2.1 x2.toNatClampNeg, r3.1, r3.2.1, r3.2.2.1, r3.2.2.2.1, r3.2.2.2.2.1, r3.2.2.2.2.2.1, r3.2.2.2.2.2.2.1, r3.2.2.2.2.2.2.2.1, r3.2.2.2.2.2.2.2.2.1, r3.2.2.2.2.2.2.2.2.2.1, r3.2.2.2.2.2.2.2.2.2.2) else none else if ck x2 24 = true then some (r3.2.2.2.2.2.2.2.2.2.2 x2.toNatClampNeg, r3.1, r3.2.1, r3.2.2.1, r3.2.2.2.1, r3.2.2.2.2.1, r3.2.2.2.2.2.1, r3.2.2.2.2.2.2.1, r3.2.2.2.2.2.2.2.1, r3.2.2.2.2.2.2.2.2.1, r3.2.2.2.2.2.2.2.2.2.1, r3.2.2.2.2.2.2.2.2.2.2) else none)))
abbrev Q_Model_overflow (below : List Frame) (D : va_G) (k : Nat → ClassId) (A : Nat → Prop) (args : Array Value) (s : State) (b0 : Nat → Nat) (o0 : Nat) (v_row : FI) (v_number : FJ) (v_saved : Int32) (v_place : FI) (v_low : FJ) (v_high : FJ) (v_lowBefore : FJ) (v_highBefore : FJ) (v_least : FJ) (v_greatest : FJ) (v_things : Int32) (v_changing : Int32) (v_overLow : FJ) (v_overHigh : FJ) (v_text : FI) (v_length : Int32) (v_at : Int32) (v_readKey : FI) (v_readCount : FJ) (v_keys : Int32) (v_h : Int64) (out : Int64 × FI × FJ × FJ × FJ × FJ × FJ × FJ × Int32 × Int32 × FJ × FJ) : State → Prop := MQ below (QW D k A (some (.long out.1)) [W_Model k b0 o0 v_row v_number v_saved out.2.1 out.2.2.1 out.2.2.2.1 out.2.2.2.2.1 out.2.2.2.2.2.1 out.2.2.2.2.2.2.1 out.2.2.2.2.2.2.2.1 out.2.2.2.2.2.2.2.2.1 out.2.2.2.2.2.2.2.2.2.1 out.2.2.2.2.2.2.2.2.2.2.1 out.2.2.2.2.2.2.2.2.2.2.2 v_text v_length v_at v_readKey v_readCount v_keys v_h].flatten) args s 0 0 A
set_option maxRecDepth 100000 in
set_option maxHeartbeats 1000000 in
theorem c_Model_overflow (l : Launch) (D : va_G) (k : Nat → ClassId) (t : Nat → Nat) (b0 : Nat → Nat) (o0 : Nat) (v_row : FI) (v_number : FJ) (v_saved : Int32) (v_place : FI) (v_low : FJ) (v_high : FJ) (v_lowBefore : FJ) (v_highBefore : FJ) (v_least : FJ) (v_greatest : FJ) (v_things : Int32) (v_changing : Int32) (v_overLow : FJ) (v_overHigh : FJ) (v_text : FI) (v_length : Int32) (v_at : Int32) (v_readKey : FI) (v_readCount : FJ) (v_keys : Int32) (v_h : Int64) (x1 : Int32) (x2 : Int32) (x3 : Int32) (N : Nat) (out : Int64 × FI × FJ × FJ × FJ × FJ × FJ × FJ × Int32 × Int32 × FJ × FJ) (hf : f_Model_overflow N x1 x2 x3 v_row v_number v_place v_low v_high v_lowBefore v_highBefore v_least v_greatest v_things v_changing v_overLow v_overHigh = some out) : CT l D k t yX8_overflow cX8_overflow 4 (some .long) rm_Model_overflow [.ref (b0 o0), .int x1, .int x2, .int x3] [W_Model k b0 o0 v_row v_number v_saved v_place v_low v_high v_lowBefore v_highBefore v_least v_greatest v_things v_changing v_overLow v_overHigh v_text v_length v_at v_readKey v_readCount v_keys v_h].flatten (some (.long out.1)) [W_Model k b0 o0 v_row v_number v_saved out.2.1 out.2.2.1 out.2.2.2.1 out.2.2.2.2.1 out.2.2.2.2.2.1 out.2.2.2.2.2.2.1 out.2.2.2.2.2.2.2.1 out.2.2.2.2.2.2.2.2.1 out.2.2.2.2.2.2.2.2.2.1 out.2.2.2.2.2.2.2.2.2.2.1 out.2.2.2.2.2.2.2.2.2.2.2 v_text v_length v_at v_readKey v_readCount v_keys v_h].flatten := by
  refine kofW (by decide) (Nat.le_of_ble_eq_true rfl) ?_
  intro p e s m below meth c A ls X hP hD hS hl
  have hx := X.1.1
  have hb := X.1.2.1
  have hml := X.1.2.2.1
  have hown := X.1.2.2.2.1
  have hts := X.1.2.2.2.2
  have hl : lv_has ls 4 [(0, .ref (b0 o0)), (1, .int x1), (2, .int x2), (3, .int x3)] := hl
  rw [f_Model_overflow] at hf
  refine lv_iload_n hx hb dX8_overflow_0 rfl (lv_at hl 1 rfl) ?_
  obtain ⟨r1, hg_r1, hf⟩ := ofbind hf
  refine kcS (bs := [W_Model k b0 o0 v_row v_number v_saved v_place v_low v_high v_lowBefore v_highBefore v_least v_greatest v_things v_changing v_overLow v_overHigh v_text v_length v_at v_readKey v_readCount v_keys v_h]) (br := [W_Model k b0 o0 v_row v_number v_saved v_place v_low v_high v_lowBefore v_highBefore v_least v_greatest v_things v_changing v_overLow v_overHigh v_text v_length v_at v_readKey v_readCount v_keys v_h]) (bc := []) (bc' := []) X hP hD hS (c_Model_isBraid l D k t x1 r1 hg_r1) ms_X8_100 hl [0] [] ⟨rfl, rfl⟩ ⟨Nat.le_of_ble_eq_true rfl, Nat.le_of_ble_eq_true rfl⟩ rfl rfl rfl rfl (Nat.le_of_ble_eq_true rfl) dX8_overflow_1 (fun H locs hP hD hS => ?_)
  have hP : va_P D vwCl [W_Model k b0 o0 v_row v_number v_saved v_place v_low v_high v_lowBefore v_highBefore v_least v_greatest v_things v_changing v_overLow v_overHigh v_text v_length v_at v_readKey v_readCount v_keys v_h].flatten _ := hP
  have hD : va_D A [W_Model k b0 o0 v_row v_number v_saved v_place v_low v_high v_lowBefore v_highBefore v_least v_greatest v_things v_changing v_overLow v_overHigh v_text v_length v_at v_readKey v_readCount v_keys v_h].flatten := hD
  refine lv_if_eq (tgt := 15) hx hb dX8_overflow_4 (by decide) (fun hc => ?_) (fun hc => ?_)
  · have hf := ofpos hf hc
    refine lv_ldc2 (v := (-2)) hx hb hown (hts _ kc_X8_103) dX8_overflow_15 ?_
    have hf := Option.some.inj hf
    subst hf
    exact klret (v := (-2)) X hP hD hS dX8_overflow_18
  · have hf := ofneg hf hc
    refine lv_aload_n hx hb dX8_overflow_7 rfl (lv_at hl 0 rfl) ?_
    refine lv_iload_n hx hb dX8_overflow_8 rfl (lv_at hl 2 rfl) ?_
    obtain ⟨r2, hg_r2, hf⟩ := ofbind hf
    refine kcV (bs := [W_Model k b0 o0 v_row v_number v_saved v_place v_low v_high v_lowBefore v_highBefore v_least v_greatest v_things v_changing v_overLow v_overHigh v_text v_length v_at v_readKey v_readCount v_keys v_h]) (br := []) (bc := [W_Model k b0 o0 v_row v_number v_saved v_place v_low v_high v_lowBefore v_highBefore v_least v_greatest v_things v_changing v_overLow v_overHigh v_text v_length v_at v_readKey v_readCount v_keys v_h]) (bc' := [W_Model k b0 o0 v_row v_number v_saved v_place v_low v_high v_lowBefore v_highBefore v_least v_greatest v_things v_changing v_overLow v_overHigh v_text v_length v_at v_readKey v_readCount v_keys v_h]) X hP hD hS (c_Model_isCounter l D k t b0 o0 v_row v_number v_saved v_place v_low v_high v_lowBefore v_highBefore v_least v_greatest v_things v_changing v_overLow v_overHigh v_text v_length v_at v_readKey v_readCount v_keys v_h x2 r2 hg_r2) mv_X8_86 hl [] [0] 8 ⟨rfl, rfl⟩ ⟨Nat.le_of_ble_eq_true rfl, Nat.le_of_ble_eq_true rfl⟩ rfl rfl rfl rfl rfl rfl rfl (Nat.le_of_ble_eq_true rfl) dX8_overflow_9 (fun H locs hP hD hS => ?_)
    have hP : va_P D vwCl [W_Model k b0 o0 v_row v_number v_saved v_place v_low v_high v_lowBefore v_highBefore v_least v_greatest v_things v_changing v_overLow v_overHigh v_text v_length v_at v_readKey v_readCount v_keys v_h].flatten _ := hP
    have hD : va_D A [W_Model k b0 o0 v_row v_number v_saved v_place v_low v_high v_lowBefore v_highBefore v_least v_greatest v_things v_changing v_overLow v_overHigh v_text v_length v_at v_readKey v_readCount v_keys v_h].flatten := hD
    refine lv_if_ne (tgt := 19) hx hb dX8_overflow_12 (by decide) (fun hc => ?_) (fun hc => ?_)
    · have hf := ofneg hf hc
      refine lv_aload_n hx hb dX8_overflow_19 rfl (lv_at hl 0 rfl) ?_
      refine lv_iload_n hx hb dX8_overflow_20 rfl (lv_at hl 1 rfl) ?_
      obtain ⟨r3, hg_r3, hf⟩ := ofbind hf
      refine kcV (bs := [W_Model k b0 o0 v_row v_number v_saved v_place v_low v_high v_lowBefore v_highBefore v_least v_greatest v_things v_changing v_overLow v_overHigh v_text v_length v_at v_readKey v_readCount v_keys v_h]) (br := []) (bc := [W_Model k b0 o0 v_row v_number v_saved v_place v_low v_high v_lowBefore v_highBefore v_least v_greatest v_things v_changing v_overLow v_overHigh v_text v_length v_at v_readKey v_readCount v_keys v_h]) (bc' := [W_Model k b0 o0 v_row v_number v_saved r3.1 r3.2.1 r3.2.2.1 r3.2.2.2.1 r3.2.2.2.2.1 r3.2.2.2.2.2.1 r3.2.2.2.2.2.2.1 r3.2.2.2.2.2.2.2.1 r3.2.2.2.2.2.2.2.2.1 r3.2.2.2.2.2.2.2.2.2.1 r3.2.2.2.2.2.2.2.2.2.2 v_text v_length v_at v_readKey v_readCount v_keys v_h]) X hP hD hS (c_Model_findsOverflows l D k t b0 o0 v_row v_number v_saved v_place v_low v_high v_lowBefore v_highBefore v_least v_greatest v_things v_changing v_overLow v_overHigh v_text v_length v_at v_readKey v_readCount v_keys v_h x1 N r3 hg_r3) mv_X8_150 hl [] [0] 8 ⟨rfl, rfl⟩ ⟨Nat.le_of_ble_eq_true rfl, Nat.le_of_ble_eq_true rfl⟩ rfl rfl rfl rfl rfl rfl rfl (Nat.le_of_ble_eq_true rfl) dX8_overflow_21 (fun H locs hP hD hS => ?_)
      have hP : va_P D vwCl [W_Model k b0 o0 v_row v_number v_saved r3.1 r3.2.1 r3.2.2.1 r3.2.2.2.1 r3.2.2.2.2.1 r3.2.2.2.2.2.1 r3.2.2.2.2.2.2.1 r3.2.2.2.2.2.2.2.1 r3.2.2.2.2.2.2.2.2.1 r3.2.2.2.2.2.2.2.2.2.1 r3.2.2.2.2.2.2.2.2.2.2 v_text v_length v_at v_readKey v_readCount v_keys v_h].flatten _ := hP
      have hD : va_D A [W_Model k b0 o0 v_row v_number v_saved r3.1 r3.2.1 r3.2.2.1 r3.2.2.2.1 r3.2.2.2.2.1 r3.2.2.2.2.2.1 r3.2.2.2.2.2.2.1 r3.2.2.2.2.2.2.2.1 r3.2.2.2.2.2.2.2.2.1 r3.2.2.2.2.2.2.2.2.2.1 r3.2.2.2.2.2.2.2.2.2.2 v_text v_length v_at v_readKey v_readCount v_keys v_h].flatten := hD
      refine lv_iload_n hx hb dX8_overflow_24 rfl (lv_at hl 3 rfl) ?_
      refine lv_if_eq (tgt := 37) hx hb dX8_overflow_25 (by decide) (fun hc => ?_) (fun hc => ?_)
      · have hf := ofpos hf hc
        refine lv_aload_n hx hb dX8_overflow_37 rfl (lv_at hl 0 rfl) ?_
        refine kget (v := .ref (b0 (o0+10))) X hP ff_X8_38 0 rfl rfl dX8_overflow_38 ?_
        refine lv_iload_n hx hb dX8_overflow_41 rfl (lv_at hl 2 rfl) ?_
        obtain ⟨hc, hf⟩ := ofck hf
        refine klald (f := r3.2.2.2.2.2.2.2.2.2.1) (n := 24) X hP 10 rfl hc dX8_overflow_42 ?_
        have hf := Option.some.inj hf
        subst hf
        exact klret (v := r3.2.2.2.2.2.2.2.2.2.1 x2.toNatClampNeg) X hP hD hS dX8_overflow_43
      · have hf := ofneg hf hc
        refine lv_aload_n hx hb dX8_overflow_28 rfl (lv_at hl 0 rfl) ?_
        refine kget (v := .ref (b0 (o0+11))) X hP ff_X8_41 0 rfl rfl dX8_overflow_29 ?_
        refine lv_iload_n hx hb dX8_overflow_32 rfl (lv_at hl 2 rfl) ?_
        obtain ⟨hc, hf⟩ := ofck hf
        refine klald (f := r3.2.2.2.2.2.2.2.2.2.2) (n := 24) X hP 11 rfl hc dX8_overflow_33 ?_
        refine lv_goto (tgt := 43) hx hb dX8_overflow_34 (by decide) ?_
        have hf := Option.some.inj hf
        subst hf
        exact klret (v := r3.2.2.2.2.2.2.2.2.2.2 x2.toNatClampNeg) X hP hD hS dX8_overflow_43
    · have hf := ofpos hf hc
      refine lv_ldc2 (v := (-2)) hx hb hown (hts _ kc_X8_103) dX8_overflow_15 ?_
      have hf := Option.some.inj hf
      subst hf
      exact klret (v := (-2)) X hP hD hS dX8_overflow_18
/-! Model_boundOf: private long boundOf(int, int, boolean, int); -/
abbrev rm_Model_boundOf : Room := ({ frames := 5, cells := 0, slots := 0, locals := 123 } : Room)
def f_Model_boundOf (N : Nat) (x1 : Int32) (x2 : Int32) (x3 : Int32) (x4 : Int32) (v_row : FI) (v_number : FJ) (v_place : FI) (v_low : FJ) (v_high : FJ) (v_lowBefore : FJ) (v_highBefore : FJ) (v_least : FJ) (v_greatest : FJ) (v_things : Int32) (v_changing : Int32) (v_overLow : FJ) (v_overHigh : FJ) : Option (Int64 × FI × FJ × FJ × FJ × FJ × FJ × FJ × Int32 × Int32 × FJ × FJ) := (f_Model_findsFlows N x1 x4 v_row v_number v_place v_low v_high v_lowBefore v_highBefore v_least v_greatest v_things v_changing v_overLow v_overHigh).bind (fun r1 => if x3 = 0 then if ck x2 24 = true then some (r1.2.1 x2.toNatClampNeg, r1.1, r1.2.1, r1.2.2.1, r1.2.2.2.1, r1.2.2.2.2.1, r1.2.2.2.2.2.1, r1.2.2.2.2.2.2.1, r1.2.2.2.2.2.2.2.1, r1.2.2.2.2.2.2.2.2.1, r1.2.2.2.2.2.2.2.2.2.1, r1.2.2.2.2.2.2.2.2.2.2) else none else if ck x2 24 = true then some (r1.2.2.1 x2.toNatClampNeg, r1.1, r1.2.1, r1.2.2.1, r1.2.2.2.1, r1.2.2.2.2.1, r1.2.2.2.2.2.1, r1.2.2.2.2.2.2.1, r1.2.2.2.2.2.2.2.1, r1.2.2.2.2.2.2.2.2.1, r1.2.2.2.2.2.2.2.2.2.1, r1.2.2.2.2.2.2.2.2.2.2) else none)
abbrev Q_Model_boundOf (below : List Frame) (D : va_G) (k : Nat → ClassId) (A : Nat → Prop) (args : Array Value) (s : State) (b0 : Nat → Nat) (o0 : Nat) (v_row : FI) (v_number : FJ) (v_saved : Int32) (v_place : FI) (v_low : FJ) (v_high : FJ) (v_lowBefore : FJ) (v_highBefore : FJ) (v_least : FJ) (v_greatest : FJ) (v_things : Int32) (v_changing : Int32) (v_overLow : FJ) (v_overHigh : FJ) (v_text : FI) (v_length : Int32) (v_at : Int32) (v_readKey : FI) (v_readCount : FJ) (v_keys : Int32) (v_h : Int64) (out : Int64 × FI × FJ × FJ × FJ × FJ × FJ × FJ × Int32 × Int32 × FJ × FJ) : State → Prop := MQ below (QW D k A (some (.long out.1)) [W_Model k b0 o0 v_row v_number v_saved out.2.1 out.2.2.1 out.2.2.2.1 out.2.2.2.2.1 out.2.2.2.2.2.1 out.2.2.2.2.2.2.1 out.2.2.2.2.2.2.2.1 out.2.2.2.2.2.2.2.2.1 out.2.2.2.2.2.2.2.2.2.1 out.2.2.2.2.2.2.2.2.2.2.1 out.2.2.2.2.2.2.2.2.2.2.2 v_text v_length v_at v_readKey v_readCount v_keys v_h].flatten) args s 0 0 A
set_option maxRecDepth 100000 in
set_option maxHeartbeats 1000000 in
theorem c_Model_boundOf (l : Launch) (D : va_G) (k : Nat → ClassId) (t : Nat → Nat) (b0 : Nat → Nat) (o0 : Nat) (v_row : FI) (v_number : FJ) (v_saved : Int32) (v_place : FI) (v_low : FJ) (v_high : FJ) (v_lowBefore : FJ) (v_highBefore : FJ) (v_least : FJ) (v_greatest : FJ) (v_things : Int32) (v_changing : Int32) (v_overLow : FJ) (v_overHigh : FJ) (v_text : FI) (v_length : Int32) (v_at : Int32) (v_readKey : FI) (v_readCount : FJ) (v_keys : Int32) (v_h : Int64) (x1 : Int32) (x2 : Int32) (x3 : Int32) (x4 : Int32) (N : Nat) (out : Int64 × FI × FJ × FJ × FJ × FJ × FJ × FJ × Int32 × Int32 × FJ × FJ) (hf : f_Model_boundOf N x1 x2 x3 x4 v_row v_number v_place v_low v_high v_lowBefore v_highBefore v_least v_greatest v_things v_changing v_overLow v_overHigh = some out) : CT l D k t yX8_boundOf cX8_boundOf 5 (some .long) rm_Model_boundOf [.ref (b0 o0), .int x1, .int x2, .int x3, .int x4] [W_Model k b0 o0 v_row v_number v_saved v_place v_low v_high v_lowBefore v_highBefore v_least v_greatest v_things v_changing v_overLow v_overHigh v_text v_length v_at v_readKey v_readCount v_keys v_h].flatten (some (.long out.1)) [W_Model k b0 o0 v_row v_number v_saved out.2.1 out.2.2.1 out.2.2.2.1 out.2.2.2.2.1 out.2.2.2.2.2.1 out.2.2.2.2.2.2.1 out.2.2.2.2.2.2.2.1 out.2.2.2.2.2.2.2.2.1 out.2.2.2.2.2.2.2.2.2.1 out.2.2.2.2.2.2.2.2.2.2.1 out.2.2.2.2.2.2.2.2.2.2.2 v_text v_length v_at v_readKey v_readCount v_keys v_h].flatten := by
  refine kofW (by decide) (Nat.le_of_ble_eq_true rfl) ?_
  intro p e s m below meth c A ls X hP hD hS hl
  have hx := X.1.1
  have hb := X.1.2.1
  have hml := X.1.2.2.1
  have hown := X.1.2.2.2.1
  have hts := X.1.2.2.2.2
  have hl : lv_has ls 5 [(0, .ref (b0 o0)), (1, .int x1), (2, .int x2), (3, .int x3), (4, .int x4)] := hl
  rw [f_Model_boundOf] at hf
  refine lv_aload_n hx hb dX8_boundOf_0 rfl (lv_at hl 0 rfl) ?_
  refine lv_iload_n hx hb dX8_boundOf_1 rfl (lv_at hl 1 rfl) ?_
  refine lv_iload hx hb dX8_boundOf_2 (lv_at hl 4 rfl) ?_
  obtain ⟨r1, hg_r1, hf⟩ := ofbind hf
  refine kcV (bs := [W_Model k b0 o0 v_row v_number v_saved v_place v_low v_high v_lowBefore v_highBefore v_least v_greatest v_things v_changing v_overLow v_overHigh v_text v_length v_at v_readKey v_readCount v_keys v_h]) (br := []) (bc := [W_Model k b0 o0 v_row v_number v_saved v_place v_low v_high v_lowBefore v_highBefore v_least v_greatest v_things v_changing v_overLow v_overHigh v_text v_length v_at v_readKey v_readCount v_keys v_h]) (bc' := [W_Model k b0 o0 v_row v_number v_saved r1.1 r1.2.1 r1.2.2.1 r1.2.2.2.1 r1.2.2.2.2.1 r1.2.2.2.2.2.1 r1.2.2.2.2.2.2.1 r1.2.2.2.2.2.2.2.1 r1.2.2.2.2.2.2.2.2.1 r1.2.2.2.2.2.2.2.2.2.1 r1.2.2.2.2.2.2.2.2.2.2 v_text v_length v_at v_readKey v_readCount v_keys v_h]) X hP hD hS (c_Model_findsFlows l D k t b0 o0 v_row v_number v_saved v_place v_low v_high v_lowBefore v_highBefore v_least v_greatest v_things v_changing v_overLow v_overHigh v_text v_length v_at v_readKey v_readCount v_keys v_h x1 x4 N r1 hg_r1) mv_X8_153 hl [] [0] 8 ⟨rfl, rfl⟩ ⟨Nat.le_of_ble_eq_true rfl, Nat.le_of_ble_eq_true rfl⟩ rfl rfl rfl rfl rfl rfl rfl (Nat.le_of_ble_eq_true rfl) dX8_boundOf_4 (fun H locs hP hD hS => ?_)
  have hP : va_P D vwCl [W_Model k b0 o0 v_row v_number v_saved r1.1 r1.2.1 r1.2.2.1 r1.2.2.2.1 r1.2.2.2.2.1 r1.2.2.2.2.2.1 r1.2.2.2.2.2.2.1 r1.2.2.2.2.2.2.2.1 r1.2.2.2.2.2.2.2.2.1 r1.2.2.2.2.2.2.2.2.2.1 r1.2.2.2.2.2.2.2.2.2.2 v_text v_length v_at v_readKey v_readCount v_keys v_h].flatten _ := hP
  have hD : va_D A [W_Model k b0 o0 v_row v_number v_saved r1.1 r1.2.1 r1.2.2.1 r1.2.2.2.1 r1.2.2.2.2.1 r1.2.2.2.2.2.1 r1.2.2.2.2.2.2.1 r1.2.2.2.2.2.2.2.1 r1.2.2.2.2.2.2.2.2.1 r1.2.2.2.2.2.2.2.2.2.1 r1.2.2.2.2.2.2.2.2.2.2 v_text v_length v_at v_readKey v_readCount v_keys v_h].flatten := hD
  refine lv_iload_n hx hb dX8_boundOf_7 rfl (lv_at hl 3 rfl) ?_
  refine lv_if_eq (tgt := 20) hx hb dX8_boundOf_8 (by decide) (fun hc => ?_) (fun hc => ?_)
  · have hf := ofpos hf hc
    refine lv_aload_n hx hb dX8_boundOf_20 rfl (lv_at hl 0 rfl) ?_
    refine kget (v := .ref (b0 (o0+4))) X hP ff_X8_20 0 rfl rfl dX8_boundOf_21 ?_
    refine lv_iload_n hx hb dX8_boundOf_24 rfl (lv_at hl 2 rfl) ?_
    obtain ⟨hc, hf⟩ := ofck hf
    refine klald (f := r1.2.1) (n := 24) X hP 4 rfl hc dX8_boundOf_25 ?_
    have hf := Option.some.inj hf
    subst hf
    exact klret (v := r1.2.1 x2.toNatClampNeg) X hP hD hS dX8_boundOf_26
  · have hf := ofneg hf hc
    refine lv_aload_n hx hb dX8_boundOf_11 rfl (lv_at hl 0 rfl) ?_
    refine kget (v := .ref (b0 (o0+5))) X hP ff_X8_23 0 rfl rfl dX8_boundOf_12 ?_
    refine lv_iload_n hx hb dX8_boundOf_15 rfl (lv_at hl 2 rfl) ?_
    obtain ⟨hc, hf⟩ := ofck hf
    refine klald (f := r1.2.2.1) (n := 24) X hP 5 rfl hc dX8_boundOf_16 ?_
    refine lv_goto (tgt := 26) hx hb dX8_boundOf_17 (by decide) ?_
    have hf := Option.some.inj hf
    subst hf
    exact klret (v := r1.2.2.1 x2.toNatClampNeg) X hP hD hS dX8_boundOf_26
/-! Model_bound: public long bound(int, int, boolean); -/
abbrev rm_Model_bound : Room := ({ frames := 6, cells := 0, slots := 0, locals := 147 } : Room)
def f_Model_bound (N : Nat) (x1 : Int32) (x2 : Int32) (x3 : Int32) (v_row : FI) (v_number : FJ) (v_place : FI) (v_low : FJ) (v_high : FJ) (v_lowBefore : FJ) (v_highBefore : FJ) (v_least : FJ) (v_greatest : FJ) (v_things : Int32) (v_changing : Int32) (v_overLow : FJ) (v_overHigh : FJ) : Option (Int64 × FI × FJ × FJ × FJ × FJ × FJ × FJ × Int32 × Int32 × FJ × FJ) := (f_Model_isBraid x1).bind (fun r1 => if r1 = 0 then some ((-2), v_place, v_low, v_high, v_lowBefore, v_highBefore, v_least, v_greatest, v_things, v_changing, v_overLow, v_overHigh) else (f_Model_isFlow x2 v_row).bind (fun r2 => if r2 = 0 then some ((-2), v_place, v_low, v_high, v_lowBefore, v_highBefore, v_least, v_greatest, v_things, v_changing, v_overLow, v_overHigh) else if ck 5 1002 = true then (f_Model_boundOf N x1 x2 x3 (v_row (5 : Int32).toNatClampNeg) v_row v_number v_place v_low v_high v_lowBefore v_highBefore v_least v_greatest v_things v_changing v_overLow v_overHigh).bind (fun r3 => some (r3.1, r3.2.1, r3.2.2.1, r3.2.2.2.1, r3.2.2.2.2.1, r3.2.2.2.2.2.1, r3.2.2.2.2.2.2.1, r3.2.2.2.2.2.2.2.1, r3.2.2.2.2.2.2.2.2.1, r3.2.2.2.2.2.2.2.2.2.1, r3.2.2.2.2.2.2.2.2.2.2.1, r3.2.2.2.2.2.2.2.2.2.2.2)) else none))
abbrev Q_Model_bound (below : List Frame) (D : va_G) (k : Nat → ClassId) (A : Nat → Prop) (args : Array Value) (s : State) (b0 : Nat → Nat) (o0 : Nat) (v_row : FI) (v_number : FJ) (v_saved : Int32) (v_place : FI) (v_low : FJ) (v_high : FJ) (v_lowBefore : FJ) (v_highBefore : FJ) (v_least : FJ) (v_greatest : FJ) (v_things : Int32) (v_changing : Int32) (v_overLow : FJ) (v_overHigh : FJ) (v_text : FI) (v_length : Int32) (v_at : Int32) (v_readKey : FI) (v_readCount : FJ) (v_keys : Int32) (v_h : Int64) (out : Int64 × FI × FJ × FJ × FJ × FJ × FJ × FJ × Int32 × Int32 × FJ × FJ) : State → Prop := MQ below (QW D k A (some (.long out.1)) [W_Model k b0 o0 v_row v_number v_saved out.2.1 out.2.2.1 out.2.2.2.1 out.2.2.2.2.1 out.2.2.2.2.2.1 out.2.2.2.2.2.2.1 out.2.2.2.2.2.2.2.1 out.2.2.2.2.2.2.2.2.1 out.2.2.2.2.2.2.2.2.2.1 out.2.2.2.2.2.2.2.2.2.2.1 out.2.2.2.2.2.2.2.2.2.2.2 v_text v_length v_at v_readKey v_readCount v_keys v_h].flatten) args s 0 0 A
set_option maxRecDepth 100000 in
set_option maxHeartbeats 1000000 in
theorem c_Model_bound (l : Launch) (D : va_G) (k : Nat → ClassId) (t : Nat → Nat) (b0 : Nat → Nat) (o0 : Nat) (v_row : FI) (v_number : FJ) (v_saved : Int32) (v_place : FI) (v_low : FJ) (v_high : FJ) (v_lowBefore : FJ) (v_highBefore : FJ) (v_least : FJ) (v_greatest : FJ) (v_things : Int32) (v_changing : Int32) (v_overLow : FJ) (v_overHigh : FJ) (v_text : FI) (v_length : Int32) (v_at : Int32) (v_readKey : FI) (v_readCount : FJ) (v_keys : Int32) (v_h : Int64) (x1 : Int32) (x2 : Int32) (x3 : Int32) (N : Nat) (out : Int64 × FI × FJ × FJ × FJ × FJ × FJ × FJ × Int32 × Int32 × FJ × FJ) (hf : f_Model_bound N x1 x2 x3 v_row v_number v_place v_low v_high v_lowBefore v_highBefore v_least v_greatest v_things v_changing v_overLow v_overHigh = some out) : CT l D k t yX8_bound cX8_bound 4 (some .long) rm_Model_bound [.ref (b0 o0), .int x1, .int x2, .int x3] [W_Model k b0 o0 v_row v_number v_saved v_place v_low v_high v_lowBefore v_highBefore v_least v_greatest v_things v_changing v_overLow v_overHigh v_text v_length v_at v_readKey v_readCount v_keys v_h].flatten (some (.long out.1)) [W_Model k b0 o0 v_row v_number v_saved out.2.1 out.2.2.1 out.2.2.2.1 out.2.2.2.2.1 out.2.2.2.2.2.1 out.2.2.2.2.2.2.1 out.2.2.2.2.2.2.2.1 out.2.2.2.2.2.2.2.2.1 out.2.2.2.2.2.2.2.2.2.1 out.2.2.2.2.2.2.2.2.2.2.1 out.2.2.2.2.2.2.2.2.2.2.2 v_text v_length v_at v_readKey v_readCount v_keys v_h].flatten := by
  refine kofW (by decide) (Nat.le_of_ble_eq_true rfl) ?_
  intro p e s m below meth c A ls X hP hD hS hl
  have hx := X.1.1
  have hb := X.1.2.1
  have hml := X.1.2.2.1
  have hown := X.1.2.2.2.1
  have hts := X.1.2.2.2.2
  have hl : lv_has ls 4 [(0, .ref (b0 o0)), (1, .int x1), (2, .int x2), (3, .int x3)] := hl
  rw [f_Model_bound] at hf
  refine lv_iload_n hx hb dX8_bound_0 rfl (lv_at hl 1 rfl) ?_
  obtain ⟨r1, hg_r1, hf⟩ := ofbind hf
  refine kcS (bs := [W_Model k b0 o0 v_row v_number v_saved v_place v_low v_high v_lowBefore v_highBefore v_least v_greatest v_things v_changing v_overLow v_overHigh v_text v_length v_at v_readKey v_readCount v_keys v_h]) (br := [W_Model k b0 o0 v_row v_number v_saved v_place v_low v_high v_lowBefore v_highBefore v_least v_greatest v_things v_changing v_overLow v_overHigh v_text v_length v_at v_readKey v_readCount v_keys v_h]) (bc := []) (bc' := []) X hP hD hS (c_Model_isBraid l D k t x1 r1 hg_r1) ms_X8_100 hl [0] [] ⟨rfl, rfl⟩ ⟨Nat.le_of_ble_eq_true rfl, Nat.le_of_ble_eq_true rfl⟩ rfl rfl rfl rfl (Nat.le_of_ble_eq_true rfl) dX8_bound_1 (fun H locs hP hD hS => ?_)
  have hP : va_P D vwCl [W_Model k b0 o0 v_row v_number v_saved v_place v_low v_high v_lowBefore v_highBefore v_least v_greatest v_things v_changing v_overLow v_overHigh v_text v_length v_at v_readKey v_readCount v_keys v_h].flatten _ := hP
  have hD : va_D A [W_Model k b0 o0 v_row v_number v_saved v_place v_low v_high v_lowBefore v_highBefore v_least v_greatest v_things v_changing v_overLow v_overHigh v_text v_length v_at v_readKey v_readCount v_keys v_h].flatten := hD
  refine lv_if_eq (tgt := 31) hx hb dX8_bound_4 (by decide) (fun hc => ?_) (fun hc => ?_)
  · have hf := ofpos hf hc
    refine lv_ldc2 (v := (-2)) hx hb hown (hts _ kc_X8_103) dX8_bound_31 ?_
    have hf := Option.some.inj hf
    subst hf
    exact klret (v := (-2)) X hP hD hS dX8_bound_34
  · have hf := ofneg hf hc
    refine lv_aload_n hx hb dX8_bound_7 rfl (lv_at hl 0 rfl) ?_
    refine lv_iload_n hx hb dX8_bound_8 rfl (lv_at hl 2 rfl) ?_
    obtain ⟨r2, hg_r2, hf⟩ := ofbind hf
    refine kcV (bs := [W_Model k b0 o0 v_row v_number v_saved v_place v_low v_high v_lowBefore v_highBefore v_least v_greatest v_things v_changing v_overLow v_overHigh v_text v_length v_at v_readKey v_readCount v_keys v_h]) (br := []) (bc := [W_Model k b0 o0 v_row v_number v_saved v_place v_low v_high v_lowBefore v_highBefore v_least v_greatest v_things v_changing v_overLow v_overHigh v_text v_length v_at v_readKey v_readCount v_keys v_h]) (bc' := [W_Model k b0 o0 v_row v_number v_saved v_place v_low v_high v_lowBefore v_highBefore v_least v_greatest v_things v_changing v_overLow v_overHigh v_text v_length v_at v_readKey v_readCount v_keys v_h]) X hP hD hS (c_Model_isFlow l D k t b0 o0 v_row v_number v_saved v_place v_low v_high v_lowBefore v_highBefore v_least v_greatest v_things v_changing v_overLow v_overHigh v_text v_length v_at v_readKey v_readCount v_keys v_h x2 r2 hg_r2) mv_X8_79 hl [] [0] 8 ⟨rfl, rfl⟩ ⟨Nat.le_of_ble_eq_true rfl, Nat.le_of_ble_eq_true rfl⟩ rfl rfl rfl rfl rfl rfl rfl (Nat.le_of_ble_eq_true rfl) dX8_bound_9 (fun H locs hP hD hS => ?_)
    have hP : va_P D vwCl [W_Model k b0 o0 v_row v_number v_saved v_place v_low v_high v_lowBefore v_highBefore v_least v_greatest v_things v_changing v_overLow v_overHigh v_text v_length v_at v_readKey v_readCount v_keys v_h].flatten _ := hP
    have hD : va_D A [W_Model k b0 o0 v_row v_number v_saved v_place v_low v_high v_lowBefore v_highBefore v_least v_greatest v_things v_changing v_overLow v_overHigh v_text v_length v_at v_readKey v_readCount v_keys v_h].flatten := hD
    refine lv_if_eq (tgt := 31) hx hb dX8_bound_12 (by decide) (fun hc => ?_) (fun hc => ?_)
    · have hf := ofpos hf hc
      refine lv_ldc2 (v := (-2)) hx hb hown (hts _ kc_X8_103) dX8_bound_31 ?_
      have hf := Option.some.inj hf
      subst hf
      exact klret (v := (-2)) X hP hD hS dX8_bound_34
    · have hf := ofneg hf hc
      refine lv_aload_n hx hb dX8_bound_15 rfl (lv_at hl 0 rfl) ?_
      refine lv_iload_n hx hb dX8_bound_16 rfl (lv_at hl 1 rfl) ?_
      refine lv_iload_n hx hb dX8_bound_17 rfl (lv_at hl 2 rfl) ?_
      refine lv_iload_n hx hb dX8_bound_18 rfl (lv_at hl 3 rfl) ?_
      refine lv_aload_n hx hb dX8_bound_19 rfl (lv_at hl 0 rfl) ?_
      refine kget (v := .ref (b0 (o0+1))) X hP ff_X8_7 0 rfl rfl dX8_bound_20 ?_
      refine lv_iconst (v := 5) hx hb dX8_bound_23 (by decide) ?_
      obtain ⟨hc, hf⟩ := ofck hf
      refine kiald (f := v_row) (n := 1002) X hP 1 rfl hc dX8_bound_24 ?_
      obtain ⟨r3, hg_r3, hf⟩ := ofbind hf
      refine kcV (bs := [W_Model k b0 o0 v_row v_number v_saved v_place v_low v_high v_lowBefore v_highBefore v_least v_greatest v_things v_changing v_overLow v_overHigh v_text v_length v_at v_readKey v_readCount v_keys v_h]) (br := []) (bc := [W_Model k b0 o0 v_row v_number v_saved v_place v_low v_high v_lowBefore v_highBefore v_least v_greatest v_things v_changing v_overLow v_overHigh v_text v_length v_at v_readKey v_readCount v_keys v_h]) (bc' := [W_Model k b0 o0 v_row v_number v_saved r3.2.1 r3.2.2.1 r3.2.2.2.1 r3.2.2.2.2.1 r3.2.2.2.2.2.1 r3.2.2.2.2.2.2.1 r3.2.2.2.2.2.2.2.1 r3.2.2.2.2.2.2.2.2.1 r3.2.2.2.2.2.2.2.2.2.1 r3.2.2.2.2.2.2.2.2.2.2.1 r3.2.2.2.2.2.2.2.2.2.2.2 v_text v_length v_at v_readKey v_readCount v_keys v_h]) X hP hD hS (c_Model_boundOf l D k t b0 o0 v_row v_number v_saved v_place v_low v_high v_lowBefore v_highBefore v_least v_greatest v_things v_changing v_overLow v_overHigh v_text v_length v_at v_readKey v_readCount v_keys v_h x1 x2 x3 (v_row (5 : Int32).toNatClampNeg) N r3 hg_r3) mv_X8_156 hl [] [0] 8 ⟨rfl, rfl⟩ ⟨Nat.le_of_ble_eq_true rfl, Nat.le_of_ble_eq_true rfl⟩ rfl rfl rfl rfl rfl rfl rfl (Nat.le_of_ble_eq_true rfl) dX8_bound_25 (fun H locs hP hD hS => ?_)
      have hP : va_P D vwCl [W_Model k b0 o0 v_row v_number v_saved r3.2.1 r3.2.2.1 r3.2.2.2.1 r3.2.2.2.2.1 r3.2.2.2.2.2.1 r3.2.2.2.2.2.2.1 r3.2.2.2.2.2.2.2.1 r3.2.2.2.2.2.2.2.2.1 r3.2.2.2.2.2.2.2.2.2.1 r3.2.2.2.2.2.2.2.2.2.2.1 r3.2.2.2.2.2.2.2.2.2.2.2 v_text v_length v_at v_readKey v_readCount v_keys v_h].flatten _ := hP
      have hD : va_D A [W_Model k b0 o0 v_row v_number v_saved r3.2.1 r3.2.2.1 r3.2.2.2.1 r3.2.2.2.2.1 r3.2.2.2.2.2.1 r3.2.2.2.2.2.2.1 r3.2.2.2.2.2.2.2.1 r3.2.2.2.2.2.2.2.2.1 r3.2.2.2.2.2.2.2.2.2.1 r3.2.2.2.2.2.2.2.2.2.2.1 r3.2.2.2.2.2.2.2.2.2.2.2 v_text v_length v_at v_readKey v_readCount v_keys v_h].flatten := hD
      refine lv_goto (tgt := 34) hx hb dX8_bound_28 (by decide) ?_
      have hf := Option.some.inj hf
      subst hf
      exact klret (v := r3.1) X hP hD hS dX8_bound_34
