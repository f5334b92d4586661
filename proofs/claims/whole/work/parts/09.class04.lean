/-! Decoder_decode_s: int decode(CounterBraid$State, CounterBraid$Braid, int); -/
abbrev rm_Decoder_decode_s : Room := ({ frames := 5, cells := 0, slots := 0, locals := 114 } : Room)
def f_Decoder_decode_s_L23 (c12 : FJ) (c13 : FJ) (v1_form_counters : Int32) (v1_form_bits : Int32) (v1_second_rests : FI) (K109 : Int32 → FJ → FJ → Option (Int32 × FJ × FJ × FJ × FJ × FJ × FJ × (Nat → FI) × FI × Int32 × FJ × FJ × FJ × FJ × FJ × FJ × (Nat → FI) × FI × Int32)) : Nat → Int32 → FJ → FJ → Option (Int32 × FJ × FJ × FJ × FJ × FJ × FJ × (Nat → FI) × FI × Int32 × FJ × FJ × FJ × FJ × FJ × FJ × (Nat → FI) × FI × Int32)
  | 0, _, _, _ => none
  | n + 1, i7, c17, c18 => if v1_form_counters ≤ i7 then K109 i7 c17 c18 else if ck i7 24 = true then (f_Bounds_boundOf i7 0 c12 c13).bind (fun r26 => if ck i7 24 = true then if ck i7 24 = true then (f_Bounds_boundOf i7 1 c12 c13).bind (fun r28 => if ck i7 24 = true then f_Decoder_decode_s_L23 c12 c13 v1_form_counters v1_form_bits v1_second_rests K109 n (i7 + 1) (vp_updL c17 i7.toNatClampNeg (((v1_second_rests i7.toNatClampNeg).toInt64) + (r26 <<< (v1_form_bits.toInt64 &&& 63)))) (vp_updL c18 i7.toNatClampNeg (((v1_second_rests i7.toNatClampNeg).toInt64) + (r28 <<< (v1_form_bits.toInt64 &&& 63)))) else none) else none else none) else none
def f_Decoder_decode_s_L112 (N : Nat) (c47 : FJ) (v1_form_counters : Int32) (v1_form_functions : Int32) (v1_flows : Int32) (v1_keys : FI) (K147 : Int32 → FJ → FJ → (Nat → FI) → FI → Int32 → Option (Int32 × FJ × FJ × FJ × FJ × FJ × FJ × (Nat → FI) × FI × Int32 × FJ × FJ × FJ × FJ × FJ × FJ × (Nat → FI) × FI × Int32)) : Nat → Int32 → FJ → FJ → (Nat → FI) → FI → Int32 → Option (Int32 × FJ × FJ × FJ × FJ × FJ × FJ × (Nat → FI) × FI × Int32 × FJ × FJ × FJ × FJ × FJ × FJ × (Nat → FI) × FI × Int32)
  | 0, _, _, _, _, _, _ => none
  | n + 1, i36, c50, c51, c52, c53, c54 => if v1_flows ≤ i36 then K147 i36 c50 c51 c52 c53 c54 else if ck i36 16 = true then (f_Form_placesOfKey N (v1_keys i36.toNatClampNeg) v1_form_counters v1_form_functions).bind (fun r55 => (f_Bounds_append N r55 0 c47 c50 c51 c52 c53 c54).bind (fun r56 => f_Decoder_decode_s_L112 N c47 v1_form_counters v1_form_functions v1_flows v1_keys K147 n (i36 + 1) r56.1 r56.2.1 r56.2.2.1 r56.2.2.2.1 r56.2.2.2.2)) else none
def f_Decoder_decode_s (N : Nat) (x3 : Int32) (v0_overflows_least : FJ) (v0_overflows_greatest : FJ) (v0_overflows_lowerSums : FJ) (v0_overflows_upperSums : FJ) (v0_overflows_lower : FJ) (v0_overflows_upper : FJ) (v0_overflows_places : (Nat → FI)) (v0_overflows_placeCounts : FI) (v0_overflows_things : Int32) (v0_amounts_least : FJ) (v0_amounts_greatest : FJ) (v0_amounts_lowerSums : FJ) (v0_amounts_upperSums : FJ) (v0_amounts_lower : FJ) (v0_amounts_upper : FJ) (v0_amounts_places : (Nat → FI)) (v0_amounts_placeCounts : FI) (v0_amounts_things : Int32) (v1_form_counters : Int32) (v1_form_bits : Int32) (v1_form_functions : Int32) (v1_form_countersAbove : Int32) (v1_form_functionsAbove : Int32) (v1_form_rounds : Int32) (v1_flows : Int32) (v1_keys : FI) (v1_second_rests : FI) (v1_second_marks : FI) (v1_second_numbers : FJ) : Option (Int32 × FJ × FJ × FJ × FJ × FJ × FJ × (Nat → FI) × FI × Int32 × FJ × FJ × FJ × FJ × FJ × FJ × (Nat → FI) × FI × Int32) := (f_Decoder_decodeOverflows N v0_overflows_least v0_overflows_greatest v0_overflows_lowerSums v0_overflows_upperSums v0_overflows_lower v0_overflows_upper v0_overflows_places v0_overflows_placeCounts v0_overflows_things v1_form_counters v1_form_countersAbove v1_form_functionsAbove v1_form_rounds v1_second_marks v1_second_numbers).bind (fun r1 => f_Decoder_decode_s_L23 r1.2.2.2.2.1 r1.2.2.2.2.2.1 v1_form_counters v1_form_bits v1_second_rests (fun i30 c31 c32 => f_Decoder_decode_s_L112 N c32 v1_form_counters v1_form_functions v1_flows v1_keys (fun i57 c58 c59 c60 c61 c62 => (f_Bounds_narrow N x3 c31 c32 v0_amounts_lowerSums v0_amounts_upperSums c58 c59 c60 c61 c62).bind (fun r63 => some (r63.1, r1.1, r1.2.1, r1.2.2.1, r1.2.2.2.1, r1.2.2.2.2.1, r1.2.2.2.2.2.1, r1.2.2.2.2.2.2.1, r1.2.2.2.2.2.2.2.1, r1.2.2.2.2.2.2.2.2, c31, c32, r63.2.1, r63.2.2.1, r63.2.2.2.1, r63.2.2.2.2, c60, c61, c62))) N 0 v0_amounts_lower v0_amounts_upper v0_amounts_places v0_amounts_placeCounts 0) N 0 v0_amounts_least v0_amounts_greatest)
abbrev Q_Decoder_decode_s (below : List Frame) (D : va_G) (k : Nat → ClassId) (A : Nat → Prop) (args : Array Value) (s : State) (b0 : Nat → Nat) (o0 : Nat) (s0 : DecoderS) (b1 : Nat → Nat) (o1 : Nat) (s1 : StateS) (out : Int32 × FJ × FJ × FJ × FJ × FJ × FJ × (Nat → FI) × FI × Int32 × FJ × FJ × FJ × FJ × FJ × FJ × (Nat → FI) × FI × Int32) : State → Prop := MQ below (QW D k A (some (.int out.1)) [W_Decoder k b0 o0 (((((out.2.1, out.2.2.1), out.2.2.2.1), (out.2.2.2.2.1, out.2.2.2.2.2.1)), ((out.2.2.2.2.2.2.1, out.2.2.2.2.2.2.2.1), (out.2.2.2.2.2.2.2.2.1, out.2.2.2.2.2.2.2.2.2.1))), ((((out.2.2.2.2.2.2.2.2.2.2.1, out.2.2.2.2.2.2.2.2.2.2.2.1), out.2.2.2.2.2.2.2.2.2.2.2.2.1), (out.2.2.2.2.2.2.2.2.2.2.2.2.2.1, out.2.2.2.2.2.2.2.2.2.2.2.2.2.2.1)), ((out.2.2.2.2.2.2.2.2.2.2.2.2.2.2.2.1, out.2.2.2.2.2.2.2.2.2.2.2.2.2.2.2.2.1), (out.2.2.2.2.2.2.2.2.2.2.2.2.2.2.2.2.2.1, out.2.2.2.2.2.2.2.2.2.2.2.2.2.2.2.2.2.2)))), W_State k b1 o1 s1].flatten) args s 0 0 A
set_option maxRecDepth 100000 in
set_option maxHeartbeats 1000000 in
theorem w_Decoder_decode_s_L23 {p : Program} {l : Launch} {e : Env} {s : State} {m : MethodId} {below : List Frame} {meth : Method} {c : Code} {args : Array Value} {A : Nat → Prop} {D : va_G} {k : Nat → ClassId} {t : Nat → Nat} (X : BX l D k t p s m args meth c cX2_decode 6 RX2 (some .int) A) (b0 : Nat → Nat) (o0 : Nat) (s0 : DecoderS) (b1 : Nat → Nat) (o1 : Nat) (s1 : StateS) (N : Nat) (i6 : Int32) (c8 : FJ) (c9 : FJ) (c10 : FJ) (c11 : FJ) (c12 : FJ) (c13 : FJ) (c14 : (Nat → FI)) (c15 : FI) (c16 : Int32) (c19 : FJ) (c20 : FJ) (c21 : FJ) (c22 : FJ) (c23 : (Nat → FI)) (c24 : FI) (c25 : Int32) (out : Int32 × FJ × FJ × FJ × FJ × FJ × FJ × (Nat → FI) × FI × Int32 × FJ × FJ × FJ × FJ × FJ × FJ × (Nat → FI) × FI × Int32) (K109 : Int32 → FJ → FJ → Option (Int32 × FJ × FJ × FJ × FJ × FJ × FJ × (Nat → FI) × FI × Int32 × FJ × FJ × FJ × FJ × FJ × FJ × (Nat → FI) × FI × Int32)) (hK109 : ∀ (i7' : Int32) (c17' : FJ) (c18' : FJ) (H : Heap) (locs : List Loc) (ls : Array Slot), va_P D vwCl [W_Decoder k b0 o0 (((((c8, c9), c10), (c11, c12)), ((c13, c14), (c15, c16))), ((((c17', c18'), c19), (c20, c21)), ((c22, c23), (c24, c25)))), W_State k b1 o1 s1].flatten H → va_D A [W_Decoder k b0 o0 (((((c8, c9), c10), (c11, c12)), ((c13, c14), (c15, c16))), ((((c17', c18'), c19), (c20, c21)), ((c22, c23), (c24, c25)))), W_State k b1 o1 s1].flatten → va_S A s.heap H locs → lv_has ls 6 [(0, .ref (b0 o0)), (1, .ref (b1 o1)), (3, .int i6), (4, .ref (b1 (o1+1)))] → K109 i7' c17' c18' = some out → W p l e rm_Decoder_decode_s s m args below meth c H locs 0 0 (Q_Decoder_decode_s below D k A args s b0 o0 s0 b1 o1 s1 out) (F0 m 109 ls [])) : ∀ (n : Nat) (i7 : Int32) (c17 : FJ) (c18 : FJ) (H : Heap) (locs : List Loc) (ls : Array Slot), va_P D vwCl [W_Decoder k b0 o0 (((((c8, c9), c10), (c11, c12)), ((c13, c14), (c15, c16))), ((((c17, c18), c19), (c20, c21)), ((c22, c23), (c24, c25)))), W_State k b1 o1 s1].flatten H → va_D A [W_Decoder k b0 o0 (((((c8, c9), c10), (c11, c12)), ((c13, c14), (c15, c16))), ((((c17, c18), c19), (c20, c21)), ((c22, c23), (c24, c25)))), W_State k b1 o1 s1].flatten → va_S A s.heap H locs → lv_has ls 6 [(0, .ref (b0 o0)), (1, .ref (b1 o1)), (2, .ref (b1 (o1+8))), (3, .int i6), (4, .ref (b1 (o1+1))), (5, .int i7)] → f_Decoder_decode_s_L23 c12 c13 s1.1.1.1.1.1.1 s1.1.1.1.1.1.2 s1.2.2.1.2 K109 n i7 c17 c18 = some out → W p l e rm_Decoder_decode_s s m args below meth c H locs 0 0 (Q_Decoder_decode_s below D k A args s b0 o0 s0 b1 o1 s1 out) (F0 m 23 ls []) := by
  have hx := X.1.1
  have hb := X.1.2.1
  have hml := X.1.2.2.1
  have hown := X.1.2.2.2.1
  have hts := X.1.2.2.2.2
  intro n
  induction n with
  | zero =>
    intro i7 c17 c18 H locs ls hP hD hS hl hf
    rw [f_Decoder_decode_s_L23] at hf
    cases hf
  | succ n ih =>
    intro i7 c17 c18 H locs ls hP hD hS hl hf
    rw [f_Decoder_decode_s_L23] at hf
    refine lv_iload hx hb dX2_decode_23 (lv_at hl 5 rfl) ?_
    refine lv_aload hx hb dX2_decode_25 (lv_at hl 4 rfl) ?_
    refine kget (v := .int s1.1.1.1.1.1.1) X hP ff_X2_36 68 rfl rfl dX2_decode_27 ?_
    refine lv_icmp_ge (tgt := 109) hx hb dX2_decode_30 (by decide) (fun hc => ?_) (fun hc => ?_)
    · have hf := ofpos hf hc
      exact hK109 i7 c17 c18 _ _ _ hP hD hS (lv_sub hl [0, 1, 3, 4] rfl) hf
    · have hf := ofneg hf hc
      refine lv_aload_n hx hb dX2_decode_33 rfl (lv_at hl 0 rfl) ?_
      refine kget (v := .ref (b0 (o0+34))) X hP ff_X2_18 0 rfl rfl dX2_decode_34 ?_
      refine kget (v := .ref (b0 (o0+35))) X hP ff_X2_24 34 rfl rfl dX2_decode_37 ?_
      refine lv_iload hx hb dX2_decode_40 (lv_at hl 5 rfl) ?_
      refine lv_aload_n hx hb dX2_decode_42 rfl (lv_at hl 2 rfl) ?_
      refine kget (v := .ref (b1 (o1+10))) X hP ff_X2_70 75 rfl rfl dX2_decode_43 ?_
      refine lv_iload hx hb dX2_decode_46 (lv_at hl 5 rfl) ?_
      obtain ⟨hc, hf⟩ := ofck hf
      refine kiald (f := s1.2.2.1.2) (n := 24) X hP 77 rfl hc dX2_decode_48 ?_
      refine lv_i2l (v := (s1.2.2.1.2 i7.toNatClampNeg).toInt64) hx hb dX2_decode_49 rfl ?_
      refine lv_aload_n hx hb dX2_decode_50 rfl (lv_at hl 0 rfl) ?_
      refine kget (v := .ref (b0 (o0+1))) X hP ff_X2_12 0 rfl rfl dX2_decode_51 ?_
      refine lv_iload hx hb dX2_decode_54 (lv_at hl 5 rfl) ?_
      refine lv_iconst (v := 0) hx hb dX2_decode_56 (by decide) ?_
      obtain ⟨r26, hg_r26, hf⟩ := ofbind hf
      have hP : va_P D vwCl [[((b0 o0), .inr (2, [.ref (b0 (o0+1)), .ref (b0 (o0+34))]))], W_Bounds k b0 (o0+1) c8 c9 c10 c11 c12 c13 c14 c15 c16, W_Bounds k b0 (o0+34) c17 c18 c19 c20 c21 c22 c23 c24 c25, W_State k b1 o1 s1].flatten _ := hP
      have hD : va_D A [[((b0 o0), .inr (2, [.ref (b0 (o0+1)), .ref (b0 (o0+34))]))], W_Bounds k b0 (o0+1) c8 c9 c10 c11 c12 c13 c14 c15 c16, W_Bounds k b0 (o0+34) c17 c18 c19 c20 c21 c22 c23 c24 c25, W_State k b1 o1 s1].flatten := hD
      refine kcV (bs := [[((b0 o0), .inr (2, [.ref (b0 (o0+1)), .ref (b0 (o0+34))]))], W_Bounds k b0 (o0+1) c8 c9 c10 c11 c12 c13 c14 c15 c16, W_Bounds k b0 (o0+34) c17 c18 c19 c20 c21 c22 c23 c24 c25, W_State k b1 o1 s1]) (br := [[((b0 o0), .inr (2, [.ref (b0 (o0+1)), .ref (b0 (o0+34))]))], W_Bounds k b0 (o0+34) c17 c18 c19 c20 c21 c22 c23 c24 c25, W_State k b1 o1 s1]) (bc := [W_Bounds k b0 (o0+1) c8 c9 c10 c11 c12 c13 c14 c15 c16]) (bc' := [W_Bounds k b0 (o0+1) c8 c9 c10 c11 c12 c13 c14 c15 c16]) X hP hD hS (c_Bounds_boundOf l D k t b0 (o0+1) c8 c9 c10 c11 c12 c13 c14 c15 c16 i7 0 r26 hg_r26) mv_X2_73 hl [0, 2, 3] [1] 0 ⟨rfl, rfl⟩ ⟨Nat.le_of_ble_eq_true rfl, Nat.le_of_ble_eq_true rfl⟩ rfl rfl rfl rfl rfl rfl rfl (Nat.le_of_ble_eq_true rfl) dX2_decode_57 (fun H locs hP hD hS => ?_)
      have hP : va_P D vwCl [[((b0 o0), .inr (2, [.ref (b0 (o0+1)), .ref (b0 (o0+34))]))], W_Bounds k b0 (o0+34) c17 c18 c19 c20 c21 c22 c23 c24 c25, W_State k b1 o1 s1, W_Bounds k b0 (o0+1) c8 c9 c10 c11 c12 c13 c14 c15 c16].flatten _ := hP
      have hD : va_D A [[((b0 o0), .inr (2, [.ref (b0 (o0+1)), .ref (b0 (o0+34))]))], W_Bounds k b0 (o0+34) c17 c18 c19 c20 c21 c22 c23 c24 c25, W_State k b1 o1 s1, W_Bounds k b0 (o0+1) c8 c9 c10 c11 c12 c13 c14 c15 c16].flatten := hD
      refine lv_aload hx hb dX2_decode_60 (lv_at hl 4 rfl) ?_
      refine kget (v := .int s1.1.1.1.1.1.2) X hP ff_X2_77 35 rfl rfl dX2_decode_62 ?_
      refine lv_lshl (v := r26 <<< (s1.1.1.1.1.1.2.toInt64 &&& 63)) hx hb dX2_decode_65 rfl ?_
      refine lv_ladd hx hb dX2_decode_66 ?_
      obtain ⟨hc, hf⟩ := ofck hf
      generalize hc27 : vp_updL c17 i7.toNatClampNeg (((s1.2.2.1.2 i7.toNatClampNeg).toInt64) + (r26 <<< (s1.1.1.1.1.1.2.toInt64 &&& 63))) = c27 at hf
      refine klast2 (f := c17) (n := 24) (g := c27) X hP hD hS 2 rfl hc hc27 dX2_decode_67 (fun H locs hP hD hS => ?_)
      have hP : va_P D vwCl [[((b0 o0), .inr (2, [.ref (b0 (o0+1)), .ref (b0 (o0+34))]))], W_Bounds k b0 (o0+34) c27 c18 c19 c20 c21 c22 c23 c24 c25, W_State k b1 o1 s1, W_Bounds k b0 (o0+1) c8 c9 c10 c11 c12 c13 c14 c15 c16].flatten _ := hP
      have hD : va_D A [[((b0 o0), .inr (2, [.ref (b0 (o0+1)), .ref (b0 (o0+34))]))], W_Bounds k b0 (o0+34) c27 c18 c19 c20 c21 c22 c23 c24 c25, W_State k b1 o1 s1, W_Bounds k b0 (o0+1) c8 c9 c10 c11 c12 c13 c14 c15 c16].flatten := hD
      refine lv_aload_n hx hb dX2_decode_68 rfl (lv_at hl 0 rfl) ?_
      refine kget (v := .ref (b0 (o0+34))) X hP ff_X2_18 0 rfl rfl dX2_decode_69 ?_
      refine kget (v := .ref (b0 (o0+36))) X hP ff_X2_33 1 rfl rfl dX2_decode_72 ?_
      refine lv_iload hx hb dX2_decode_75 (lv_at hl 5 rfl) ?_
      refine lv_aload_n hx hb dX2_decode_77 rfl (lv_at hl 2 rfl) ?_
      refine kget (v := .ref (b1 (o1+10))) X hP ff_X2_70 42 rfl rfl dX2_decode_78 ?_
      refine lv_iload hx hb dX2_decode_81 (lv_at hl 5 rfl) ?_
      obtain ⟨hc, hf⟩ := ofck hf
      refine kiald (f := s1.2.2.1.2) (n := 24) X hP 44 rfl hc dX2_decode_83 ?_
      refine lv_i2l (v := (s1.2.2.1.2 i7.toNatClampNeg).toInt64) hx hb dX2_decode_84 rfl ?_
      refine lv_aload_n hx hb dX2_decode_85 rfl (lv_at hl 0 rfl) ?_
      refine kget (v := .ref (b0 (o0+1))) X hP ff_X2_12 0 rfl rfl dX2_decode_86 ?_
      refine lv_iload hx hb dX2_decode_89 (lv_at hl 5 rfl) ?_
      refine lv_iconst (v := 1) hx hb dX2_decode_91 (by decide) ?_
      obtain ⟨r28, hg_r28, hf⟩ := ofbind hf
      refine kcV (bs := [[((b0 o0), .inr (2, [.ref (b0 (o0+1)), .ref (b0 (o0+34))]))], W_Bounds k b0 (o0+34) c27 c18 c19 c20 c21 c22 c23 c24 c25, W_State k b1 o1 s1, W_Bounds k b0 (o0+1) c8 c9 c10 c11 c12 c13 c14 c15 c16]) (br := [[((b0 o0), .inr (2, [.ref (b0 (o0+1)), .ref (b0 (o0+34))]))], W_Bounds k b0 (o0+34) c27 c18 c19 c20 c21 c22 c23 c24 c25, W_State k b1 o1 s1]) (bc := [W_Bounds k b0 (o0+1) c8 c9 c10 c11 c12 c13 c14 c15 c16]) (bc' := [W_Bounds k b0 (o0+1) c8 c9 c10 c11 c12 c13 c14 c15 c16]) X hP hD hS (c_Bounds_boundOf l D k t b0 (o0+1) c8 c9 c10 c11 c12 c13 c14 c15 c16 i7 1 r28 hg_r28) mv_X2_73 hl [0, 1, 2] [3] 0 ⟨rfl, rfl⟩ ⟨Nat.le_of_ble_eq_true rfl, Nat.le_of_ble_eq_true rfl⟩ rfl rfl rfl rfl rfl rfl rfl (Nat.le_of_ble_eq_true rfl) dX2_decode_92 (fun H locs hP hD hS => ?_)
      have hP : va_P D vwCl [[((b0 o0), .inr (2, [.ref (b0 (o0+1)), .ref (b0 (o0+34))]))], W_Bounds k b0 (o0+34) c27 c18 c19 c20 c21 c22 c23 c24 c25, W_State k b1 o1 s1, W_Bounds k b0 (o0+1) c8 c9 c10 c11 c12 c13 c14 c15 c16].flatten _ := hP
      have hD : va_D A [[((b0 o0), .inr (2, [.ref (b0 (o0+1)), .ref (b0 (o0+34))]))], W_Bounds k b0 (o0+34) c27 c18 c19 c20 c21 c22 c23 c24 c25, W_State k b1 o1 s1, W_Bounds k b0 (o0+1) c8 c9 c10 c11 c12 c13 c14 c15 c16].flatten := hD
      refine lv_aload hx hb dX2_decode_95 (lv_at hl 4 rfl) ?_
      refine kget (v := .int s1.1.1.1.1.1.2) X hP ff_X2_77 35 rfl rfl dX2_decode_97 ?_
      refine lv_lshl (v := r28 <<< (s1.1.1.1.1.1.2.toInt64 &&& 63)) hx hb dX2_decode_100 rfl ?_
      refine lv_ladd hx hb dX2_decode_101 ?_
      obtain ⟨hc, hf⟩ := ofck hf
      generalize hc29 : vp_updL c18 i7.toNatClampNeg (((s1.2.2.1.2 i7.toNatClampNeg).toInt64) + (r28 <<< (s1.1.1.1.1.1.2.toInt64 &&& 63))) = c29 at hf
      refine klast2 (f := c18) (n := 24) (g := c29) X hP hD hS 3 rfl hc hc29 dX2_decode_102 (fun H locs hP hD hS => ?_)
      have hP : va_P D vwCl [[((b0 o0), .inr (2, [.ref (b0 (o0+1)), .ref (b0 (o0+34))]))], W_Bounds k b0 (o0+34) c27 c29 c19 c20 c21 c22 c23 c24 c25, W_State k b1 o1 s1, W_Bounds k b0 (o0+1) c8 c9 c10 c11 c12 c13 c14 c15 c16].flatten _ := hP
      have hD : va_D A [[((b0 o0), .inr (2, [.ref (b0 (o0+1)), .ref (b0 (o0+34))]))], W_Bounds k b0 (o0+34) c27 c29 c19 c20 c21 c22 c23 c24 c25, W_State k b1 o1 s1, W_Bounds k b0 (o0+1) c8 c9 c10 c11 c12 c13 c14 c15 c16].flatten := hD
      refine lv_iinc (v := i7 + 1) (lv' := [(5, .int (i7 + 1)), (0, .ref (b0 o0)), (1, .ref (b1 o1)), (2, .ref (b1 (o1+8))), (3, .int i6), (4, .ref (b1 (o1+1)))]) hx hb dX2_decode_103 hl (k := 5) rfl rfl (by decide) rfl (fun ls hl => ?_)
      refine lv_goto (tgt := 23) hx hb dX2_decode_106 (by decide) ?_
      obtain ⟨hP, hD⟩ := B_perm (br := [[((b0 o0), .inr (2, [.ref (b0 (o0+1)), .ref (b0 (o0+34))]))], W_Bounds k b0 (o0+1) c8 c9 c10 c11 c12 c13 c14 c15 c16, W_Bounds k b0 (o0+34) c27 c29 c19 c20 c21 c22 c23 c24 c25, W_State k b1 o1 s1]) hP hD [0, 3, 1, 2] rfl rfl
      have hP : va_P D vwCl [W_Decoder k b0 o0 (((((c8, c9), c10), (c11, c12)), ((c13, c14), (c15, c16))), ((((c27, c29), c19), (c20, c21)), ((c22, c23), (c24, c25)))), W_State k b1 o1 s1].flatten _ := hP
      have hD : va_D A [W_Decoder k b0 o0 (((((c8, c9), c10), (c11, c12)), ((c13, c14), (c15, c16))), ((((c27, c29), c19), (c20, c21)), ((c22, c23), (c24, c25)))), W_State k b1 o1 s1].flatten := hD
      exact ih (i7 + 1) c27 c29 _ _ _ hP hD hS (lv_sub hl [1, 2, 3, 4, 5, 0] rfl) hf
set_option maxRecDepth 100000 in
set_option maxHeartbeats 1000000 in
theorem w_Decoder_decode_s_L112 {p : Program} {l : Launch} {e : Env} {s : State} {m : MethodId} {below : List Frame} {meth : Method} {c : Code} {args : Array Value} {A : Nat → Prop} {D : va_G} {k : Nat → ClassId} {t : Nat → Nat} (X : BX l D k t p s m args meth c cX2_decode 6 RX2 (some .int) A) (b0 : Nat → Nat) (o0 : Nat) (s0 : DecoderS) (b1 : Nat → Nat) (o1 : Nat) (s1 : StateS) (N : Nat) (i35 : Int32) (c37 : FJ) (c38 : FJ) (c39 : FJ) (c40 : FJ) (c41 : FJ) (c42 : FJ) (c43 : (Nat → FI)) (c44 : FI) (c45 : Int32) (c46 : FJ) (c47 : FJ) (c48 : FJ) (c49 : FJ) (out : Int32 × FJ × FJ × FJ × FJ × FJ × FJ × (Nat → FI) × FI × Int32 × FJ × FJ × FJ × FJ × FJ × FJ × (Nat → FI) × FI × Int32) (K147 : Int32 → FJ → FJ → (Nat → FI) → FI → Int32 → Option (Int32 × FJ × FJ × FJ × FJ × FJ × FJ × (Nat → FI) × FI × Int32 × FJ × FJ × FJ × FJ × FJ × FJ × (Nat → FI) × FI × Int32)) (hK147 : ∀ (i36' : Int32) (c50' : FJ) (c51' : FJ) (c52' : (Nat → FI)) (c53' : FI) (c54' : Int32) (H : Heap) (locs : List Loc) (ls : Array Slot), va_P D vwCl [W_Decoder k b0 o0 (((((c37, c38), c39), (c40, c41)), ((c42, c43), (c44, c45))), ((((c46, c47), c48), (c49, c50')), ((c51', c52'), (c53', c54')))), W_State k b1 o1 s1].flatten H → va_D A [W_Decoder k b0 o0 (((((c37, c38), c39), (c40, c41)), ((c42, c43), (c44, c45))), ((((c46, c47), c48), (c49, c50')), ((c51', c52'), (c53', c54')))), W_State k b1 o1 s1].flatten → va_S A s.heap H locs → lv_has ls 6 [(0, .ref (b0 o0)), (3, .int i35)] → K147 i36' c50' c51' c52' c53' c54' = some out → W p l e rm_Decoder_decode_s s m args below meth c H locs 0 0 (Q_Decoder_decode_s below D k A args s b0 o0 s0 b1 o1 s1 out) (F0 m 147 ls [])) : ∀ (n : Nat) (i36 : Int32) (c50 : FJ) (c51 : FJ) (c52 : (Nat → FI)) (c53 : FI) (c54 : Int32) (H : Heap) (locs : List Loc) (ls : Array Slot), va_P D vwCl [W_Decoder k b0 o0 (((((c37, c38), c39), (c40, c41)), ((c42, c43), (c44, c45))), ((((c46, c47), c48), (c49, c50)), ((c51, c52), (c53, c54)))), W_State k b1 o1 s1].flatten H → va_D A [W_Decoder k b0 o0 (((((c37, c38), c39), (c40, c41)), ((c42, c43), (c44, c45))), ((((c46, c47), c48), (c49, c50)), ((c51, c52), (c53, c54)))), W_State k b1 o1 s1].flatten → va_S A s.heap H locs → lv_has ls 6 [(0, .ref (b0 o0)), (1, .ref (b1 o1)), (3, .int i35), (4, .ref (b1 (o1+1))), (5, .int i36)] → f_Decoder_decode_s_L112 N c47 s1.1.1.1.1.1.1 s1.1.1.1.1.2 s1.1.1.2 s1.1.2 K147 n i36 c50 c51 c52 c53 c54 = some out → W p l e rm_Decoder_decode_s s m args below meth c H locs 0 0 (Q_Decoder_decode_s below D k A args s b0 o0 s0 b1 o1 s1 out) (F0 m 112 ls []) := by
  have hx := X.1.1
  have hb := X.1.2.1
  have hml := X.1.2.2.1
  have hown := X.1.2.2.2.1
  have hts := X.1.2.2.2.2
  intro n
  induction n with
  | zero =>
    intro i36 c50 c51 c52 c53 c54 H locs ls hP hD hS hl hf
    rw [f_Decoder_decode_s_L112] at hf
    cases hf
  | succ n ih =>
    intro i36 c50 c51 c52 c53 c54 H locs ls hP hD hS hl hf
    rw [f_Decoder_decode_s_L112] at hf
    refine lv_iload hx hb dX2_decode_112 (lv_at hl 4 rfl) ?_
    refine lv_aload_n hx hb dX2_decode_114 rfl (lv_at hl 1 rfl) ?_
    refine kget (v := .int s1.1.1.2) X hP ff_X2_80 67 rfl rfl dX2_decode_115 ?_
    refine lv_icmp_ge (tgt := 147) hx hb dX2_decode_118 (by decide) (fun hc => ?_) (fun hc => ?_)
    · have hf := ofpos hf hc
      exact hK147 i36 c50 c51 c52 c53 c54 _ _ _ hP hD hS (lv_sub hl [0, 2] rfl) hf
    · have hf := ofneg hf hc
      refine lv_aload_n hx hb dX2_decode_121 rfl (lv_at hl 0 rfl) ?_
      refine kget (v := .ref (b0 (o0+34))) X hP ff_X2_18 0 rfl rfl dX2_decode_122 ?_
      refine lv_aload hx hb dX2_decode_125 (lv_at hl 3 rfl) ?_
      refine lv_aload_n hx hb dX2_decode_127 rfl (lv_at hl 1 rfl) ?_
      refine kget (v := .ref (b1 (o1+2))) X hP ff_X2_83 67 rfl rfl dX2_decode_128 ?_
      refine lv_iload hx hb dX2_decode_131 (lv_at hl 4 rfl) ?_
      obtain ⟨hc, hf⟩ := ofck hf
      refine kiald (f := s1.1.2) (n := 16) X hP 69 rfl hc dX2_decode_133 ?_
      obtain ⟨r55, hg_r55, hf⟩ := ofbind hf
      have hP : va_P D vwCl [W_Decoder k b0 o0 (((((c37, c38), c39), (c40, c41)), ((c42, c43), (c44, c45))), ((((c46, c47), c48), (c49, c50)), ((c51, c52), (c53, c54)))), [((b1 o1), .inr (5, [.ref (b1 (o1+1)), .int s1.1.1.2, .ref (b1 (o1+2)), .ref (b1 (o1+3)), .ref (b1 (o1+8))]))], W_Form k b1 (o1+1) s1.1.1.1.1.1.1 s1.1.1.1.1.1.2 s1.1.1.1.1.2 s1.1.1.1.2.1.1 s1.1.1.1.2.1.2 s1.1.1.1.2.2, [((b1 (o1+2)), .inl (k 0, 16, .inl s1.1.2))], W_Braid k b1 (o1+3) s1.2.1.1.1 s1.2.1.1.2 s1.2.1.2.1 s1.2.1.2.2, W_Braid k b1 (o1+8) s1.2.2.1.1 s1.2.2.1.2 s1.2.2.2.1 s1.2.2.2.2].flatten _ := hP
      have hD : va_D A [W_Decoder k b0 o0 (((((c37, c38), c39), (c40, c41)), ((c42, c43), (c44, c45))), ((((c46, c47), c48), (c49, c50)), ((c51, c52), (c53, c54)))), [((b1 o1), .inr (5, [.ref (b1 (o1+1)), .int s1.1.1.2, .ref (b1 (o1+2)), .ref (b1 (o1+3)), .ref (b1 (o1+8))]))], W_Form k b1 (o1+1) s1.1.1.1.1.1.1 s1.1.1.1.1.1.2 s1.1.1.1.1.2 s1.1.1.1.2.1.1 s1.1.1.1.2.1.2 s1.1.1.1.2.2, [((b1 (o1+2)), .inl (k 0, 16, .inl s1.1.2))], W_Braid k b1 (o1+3) s1.2.1.1.1 s1.2.1.1.2 s1.2.1.2.1 s1.2.1.2.2, W_Braid k b1 (o1+8) s1.2.2.1.1 s1.2.2.1.2 s1.2.2.2.1 s1.2.2.2.2].flatten := hD
      refine kcV (bs := [W_Decoder k b0 o0 (((((c37, c38), c39), (c40, c41)), ((c42, c43), (c44, c45))), ((((c46, c47), c48), (c49, c50)), ((c51, c52), (c53, c54)))), [((b1 o1), .inr (5, [.ref (b1 (o1+1)), .int s1.1.1.2, .ref (b1 (o1+2)), .ref (b1 (o1+3)), .ref (b1 (o1+8))]))], W_Form k b1 (o1+1) s1.1.1.1.1.1.1 s1.1.1.1.1.1.2 s1.1.1.1.1.2 s1.1.1.1.2.1.1 s1.1.1.1.2.1.2 s1.1.1.1.2.2, [((b1 (o1+2)), .inl (k 0, 16, .inl s1.1.2))], W_Braid k b1 (o1+3) s1.2.1.1.1 s1.2.1.1.2 s1.2.1.2.1 s1.2.1.2.2, W_Braid k b1 (o1+8) s1.2.2.1.1 s1.2.2.1.2 s1.2.2.2.1 s1.2.2.2.2]) (br := [W_Decoder k b0 o0 (((((c37, c38), c39), (c40, c41)), ((c42, c43), (c44, c45))), ((((c46, c47), c48), (c49, c50)), ((c51, c52), (c53, c54)))), [((b1 o1), .inr (5, [.ref (b1 (o1+1)), .int s1.1.1.2, .ref (b1 (o1+2)), .ref (b1 (o1+3)), .ref (b1 (o1+8))]))], [((b1 (o1+2)), .inl (k 0, 16, .inl s1.1.2))], W_Braid k b1 (o1+3) s1.2.1.1.1 s1.2.1.1.2 s1.2.1.2.1 s1.2.1.2.2, W_Braid k b1 (o1+8) s1.2.2.1.1 s1.2.2.1.2 s1.2.2.2.1 s1.2.2.2.2]) (bc := [W_Form k b1 (o1+1) s1.1.1.1.1.1.1 s1.1.1.1.1.1.2 s1.1.1.1.1.2 s1.1.1.1.2.1.1 s1.1.1.1.2.1.2 s1.1.1.1.2.2]) (bc' := [W_Form k b1 (o1+1) s1.1.1.1.1.1.1 s1.1.1.1.1.1.2 s1.1.1.1.1.2 s1.1.1.1.2.1.1 s1.1.1.1.2.1.2 s1.1.1.1.2.2]) X hP hD hS (c_Form_placesOfKey l D k t b1 (o1+1) s1.1.1.1.1.1.1 s1.1.1.1.1.1.2 s1.1.1.1.1.2 s1.1.1.1.2.1.1 s1.1.1.1.2.1.2 s1.1.1.1.2.2 (s1.1.2 i36.toNatClampNeg) N r55 hg_r55) mv_X2_86 hl [0, 1, 3, 4, 5] [2] 3 ⟨rfl, rfl⟩ ⟨Nat.le_of_ble_eq_true rfl, Nat.le_of_ble_eq_true rfl⟩ rfl rfl rfl rfl rfl rfl rfl (Nat.le_of_ble_eq_true rfl) dX2_decode_134 (fun H locs hP hD hS => ?_)
      have hP : va_P D vwCl [W_Decoder k b0 o0 (((((c37, c38), c39), (c40, c41)), ((c42, c43), (c44, c45))), ((((c46, c47), c48), (c49, c50)), ((c51, c52), (c53, c54)))), [((b1 o1), .inr (5, [.ref (b1 (o1+1)), .int s1.1.1.2, .ref (b1 (o1+2)), .ref (b1 (o1+3)), .ref (b1 (o1+8))]))], [((b1 (o1+2)), .inl (k 0, 16, .inl s1.1.2))], W_Braid k b1 (o1+3) s1.2.1.1.1 s1.2.1.1.2 s1.2.1.2.1 s1.2.1.2.2, W_Braid k b1 (o1+8) s1.2.2.1.1 s1.2.2.1.2 s1.2.2.2.1 s1.2.2.2.2, W_Form k b1 (o1+1) s1.1.1.1.1.1.1 s1.1.1.1.1.1.2 s1.1.1.1.1.2 s1.1.1.1.2.1.1 s1.1.1.1.2.1.2 s1.1.1.1.2.2].flatten _ := hP
      have hD : va_D A [W_Decoder k b0 o0 (((((c37, c38), c39), (c40, c41)), ((c42, c43), (c44, c45))), ((((c46, c47), c48), (c49, c50)), ((c51, c52), (c53, c54)))), [((b1 o1), .inr (5, [.ref (b1 (o1+1)), .int s1.1.1.2, .ref (b1 (o1+2)), .ref (b1 (o1+3)), .ref (b1 (o1+8))]))], [((b1 (o1+2)), .inl (k 0, 16, .inl s1.1.2))], W_Braid k b1 (o1+3) s1.2.1.1.1 s1.2.1.1.2 s1.2.1.2.1 s1.2.1.2.2, W_Braid k b1 (o1+8) s1.2.2.1.1 s1.2.2.1.2 s1.2.2.2.1 s1.2.2.2.2, W_Form k b1 (o1+1) s1.1.1.1.1.1.1 s1.1.1.1.1.1.2 s1.1.1.1.1.2 s1.1.1.1.2.1.1 s1.1.1.1.2.1.2 s1.1.1.1.2.2].flatten := hD
      refine lv_lconst (v := 0) hx hb dX2_decode_137 (by decide) ?_
      obtain ⟨r56, hg_r56, hf⟩ := ofbind hf
      have hP : va_P D vwCl [[((b0 o0), .inr (2, [.ref (b0 (o0+1)), .ref (b0 (o0+34))]))], W_Bounds k b0 (o0+1) c37 c38 c39 c40 c41 c42 c43 c44 c45, W_Bounds k b0 (o0+34) c46 c47 c48 c49 c50 c51 c52 c53 c54, [((b1 o1), .inr (5, [.ref (b1 (o1+1)), .int s1.1.1.2, .ref (b1 (o1+2)), .ref (b1 (o1+3)), .ref (b1 (o1+8))]))], [((b1 (o1+2)), .inl (k 0, 16, .inl s1.1.2))], W_Braid k b1 (o1+3) s1.2.1.1.1 s1.2.1.1.2 s1.2.1.2.1 s1.2.1.2.2, W_Braid k b1 (o1+8) s1.2.2.1.1 s1.2.2.1.2 s1.2.2.2.1 s1.2.2.2.2, W_Form k b1 (o1+1) s1.1.1.1.1.1.1 s1.1.1.1.1.1.2 s1.1.1.1.1.2 s1.1.1.1.2.1.1 s1.1.1.1.2.1.2 s1.1.1.1.2.2].flatten _ := hP
      have hD : va_D A [[((b0 o0), .inr (2, [.ref (b0 (o0+1)), .ref (b0 (o0+34))]))], W_Bounds k b0 (o0+1) c37 c38 c39 c40 c41 c42 c43 c44 c45, W_Bounds k b0 (o0+34) c46 c47 c48 c49 c50 c51 c52 c53 c54, [((b1 o1), .inr (5, [.ref (b1 (o1+1)), .int s1.1.1.2, .ref (b1 (o1+2)), .ref (b1 (o1+3)), .ref (b1 (o1+8))]))], [((b1 (o1+2)), .inl (k 0, 16, .inl s1.1.2))], W_Braid k b1 (o1+3) s1.2.1.1.1 s1.2.1.1.2 s1.2.1.2.1 s1.2.1.2.2, W_Braid k b1 (o1+8) s1.2.2.1.1 s1.2.2.1.2 s1.2.2.2.1 s1.2.2.2.2, W_Form k b1 (o1+1) s1.1.1.1.1.1.1 s1.1.1.1.1.1.2 s1.1.1.1.1.2 s1.1.1.1.2.1.1 s1.1.1.1.2.1.2 s1.1.1.1.2.2].flatten := hD
      refine kcV (bs := [[((b0 o0), .inr (2, [.ref (b0 (o0+1)), .ref (b0 (o0+34))]))], W_Bounds k b0 (o0+1) c37 c38 c39 c40 c41 c42 c43 c44 c45, W_Bounds k b0 (o0+34) c46 c47 c48 c49 c50 c51 c52 c53 c54, [((b1 o1), .inr (5, [.ref (b1 (o1+1)), .int s1.1.1.2, .ref (b1 (o1+2)), .ref (b1 (o1+3)), .ref (b1 (o1+8))]))], [((b1 (o1+2)), .inl (k 0, 16, .inl s1.1.2))], W_Braid k b1 (o1+3) s1.2.1.1.1 s1.2.1.1.2 s1.2.1.2.1 s1.2.1.2.2, W_Braid k b1 (o1+8) s1.2.2.1.1 s1.2.2.1.2 s1.2.2.2.1 s1.2.2.2.2, W_Form k b1 (o1+1) s1.1.1.1.1.1.1 s1.1.1.1.1.1.2 s1.1.1.1.1.2 s1.1.1.1.2.1.1 s1.1.1.1.2.1.2 s1.1.1.1.2.2]) (br := [[((b0 o0), .inr (2, [.ref (b0 (o0+1)), .ref (b0 (o0+34))]))], W_Bounds k b0 (o0+1) c37 c38 c39 c40 c41 c42 c43 c44 c45, [((b1 o1), .inr (5, [.ref (b1 (o1+1)), .int s1.1.1.2, .ref (b1 (o1+2)), .ref (b1 (o1+3)), .ref (b1 (o1+8))]))], [((b1 (o1+2)), .inl (k 0, 16, .inl s1.1.2))], W_Braid k b1 (o1+3) s1.2.1.1.1 s1.2.1.1.2 s1.2.1.2.1 s1.2.1.2.2, W_Braid k b1 (o1+8) s1.2.2.1.1 s1.2.2.1.2 s1.2.2.2.1 s1.2.2.2.2, W_Form k b1 (o1+1) s1.1.1.1.1.1.1 s1.1.1.1.1.1.2 s1.1.1.1.1.2 s1.1.1.1.2.1.1 s1.1.1.1.2.1.2 s1.1.1.1.2.2]) (bc := [W_Bounds k b0 (o0+34) c46 c47 c48 c49 c50 c51 c52 c53 c54]) (bc' := [W_Bounds k b0 (o0+34) c46 c47 c48 c49 r56.1 r56.2.1 r56.2.2.1 r56.2.2.2.1 r56.2.2.2.2]) X hP hD hS (c_Bounds_append l D k t b0 (o0+34) c46 c47 c48 c49 c50 c51 c52 c53 c54 r55 0 N r56 hg_r56) mv_X2_50 hl [0, 1, 3, 4, 5, 6, 7] [2] 0 ⟨rfl, rfl⟩ ⟨Nat.le_of_ble_eq_true rfl, Nat.le_of_ble_eq_true rfl⟩ rfl rfl rfl rfl rfl rfl rfl (Nat.le_of_ble_eq_true rfl) dX2_decode_138 (fun H locs hP hD hS => ?_)
      have hP : va_P D vwCl [[((b0 o0), .inr (2, [.ref (b0 (o0+1)), .ref (b0 (o0+34))]))], W_Bounds k b0 (o0+1) c37 c38 c39 c40 c41 c42 c43 c44 c45, [((b1 o1), .inr (5, [.ref (b1 (o1+1)), .int s1.1.1.2, .ref (b1 (o1+2)), .ref (b1 (o1+3)), .ref (b1 (o1+8))]))], [((b1 (o1+2)), .inl (k 0, 16, .inl s1.1.2))], W_Braid k b1 (o1+3) s1.2.1.1.1 s1.2.1.1.2 s1.2.1.2.1 s1.2.1.2.2, W_Braid k b1 (o1+8) s1.2.2.1.1 s1.2.2.1.2 s1.2.2.2.1 s1.2.2.2.2, W_Form k b1 (o1+1) s1.1.1.1.1.1.1 s1.1.1.1.1.1.2 s1.1.1.1.1.2 s1.1.1.1.2.1.1 s1.1.1.1.2.1.2 s1.1.1.1.2.2, W_Bounds k b0 (o0+34) c46 c47 c48 c49 r56.1 r56.2.1 r56.2.2.1 r56.2.2.2.1 r56.2.2.2.2].flatten _ := hP
      have hD : va_D A [[((b0 o0), .inr (2, [.ref (b0 (o0+1)), .ref (b0 (o0+34))]))], W_Bounds k b0 (o0+1) c37 c38 c39 c40 c41 c42 c43 c44 c45, [((b1 o1), .inr (5, [.ref (b1 (o1+1)), .int s1.1.1.2, .ref (b1 (o1+2)), .ref (b1 (o1+3)), .ref (b1 (o1+8))]))], [((b1 (o1+2)), .inl (k 0, 16, .inl s1.1.2))], W_Braid k b1 (o1+3) s1.2.1.1.1 s1.2.1.1.2 s1.2.1.2.1 s1.2.1.2.2, W_Braid k b1 (o1+8) s1.2.2.1.1 s1.2.2.1.2 s1.2.2.2.1 s1.2.2.2.2, W_Form k b1 (o1+1) s1.1.1.1.1.1.1 s1.1.1.1.1.1.2 s1.1.1.1.1.2 s1.1.1.1.2.1.1 s1.1.1.1.2.1.2 s1.1.1.1.2.2, W_Bounds k b0 (o0+34) c46 c47 c48 c49 r56.1 r56.2.1 r56.2.2.1 r56.2.2.2.1 r56.2.2.2.2].flatten := hD
      refine lv_iinc (v := i36 + 1) (lv' := [(5, .int (i36 + 1)), (0, .ref (b0 o0)), (1, .ref (b1 o1)), (3, .int i35), (4, .ref (b1 (o1+1)))]) hx hb dX2_decode_141 hl (k := 4) rfl rfl (by decide) rfl (fun ls hl => ?_)
      refine lv_goto (tgt := 112) hx hb dX2_decode_144 (by decide) ?_
      obtain ⟨hP, hD⟩ := B_perm (br := [[((b0 o0), .inr (2, [.ref (b0 (o0+1)), .ref (b0 (o0+34))]))], W_Bounds k b0 (o0+1) c37 c38 c39 c40 c41 c42 c43 c44 c45, W_Bounds k b0 (o0+34) c46 c47 c48 c49 r56.1 r56.2.1 r56.2.2.1 r56.2.2.2.1 r56.2.2.2.2, [((b1 o1), .inr (5, [.ref (b1 (o1+1)), .int s1.1.1.2, .ref (b1 (o1+2)), .ref (b1 (o1+3)), .ref (b1 (o1+8))]))], [((b1 (o1+2)), .inl (k 0, 16, .inl s1.1.2))], W_Braid k b1 (o1+3) s1.2.1.1.1 s1.2.1.1.2 s1.2.1.2.1 s1.2.1.2.2, W_Braid k b1 (o1+8) s1.2.2.1.1 s1.2.2.1.2 s1.2.2.2.1 s1.2.2.2.2, W_Form k b1 (o1+1) s1.1.1.1.1.1.1 s1.1.1.1.1.1.2 s1.1.1.1.1.2 s1.1.1.1.2.1.1 s1.1.1.1.2.1.2 s1.1.1.1.2.2]) hP hD [0, 1, 7, 2, 3, 4, 5, 6] rfl rfl
      have hP : va_P D vwCl [W_Decoder k b0 o0 (((((c37, c38), c39), (c40, c41)), ((c42, c43), (c44, c45))), ((((c46, c47), c48), (c49, r56.1)), ((r56.2.1, r56.2.2.1), (r56.2.2.2.1, r56.2.2.2.2)))), [((b1 o1), .inr (5, [.ref (b1 (o1+1)), .int s1.1.1.2, .ref (b1 (o1+2)), .ref (b1 (o1+3)), .ref (b1 (o1+8))]))], [((b1 (o1+2)), .inl (k 0, 16, .inl s1.1.2))], W_Braid k b1 (o1+3) s1.2.1.1.1 s1.2.1.1.2 s1.2.1.2.1 s1.2.1.2.2, W_Braid k b1 (o1+8) s1.2.2.1.1 s1.2.2.1.2 s1.2.2.2.1 s1.2.2.2.2, W_Form k b1 (o1+1) s1.1.1.1.1.1.1 s1.1.1.1.1.1.2 s1.1.1.1.1.2 s1.1.1.1.2.1.1 s1.1.1.1.2.1.2 s1.1.1.1.2.2].flatten _ := hP
      have hD : va_D A [W_Decoder k b0 o0 (((((c37, c38), c39), (c40, c41)), ((c42, c43), (c44, c45))), ((((c46, c47), c48), (c49, r56.1)), ((r56.2.1, r56.2.2.1), (r56.2.2.2.1, r56.2.2.2.2)))), [((b1 o1), .inr (5, [.ref (b1 (o1+1)), .int s1.1.1.2, .ref (b1 (o1+2)), .ref (b1 (o1+3)), .ref (b1 (o1+8))]))], [((b1 (o1+2)), .inl (k 0, 16, .inl s1.1.2))], W_Braid k b1 (o1+3) s1.2.1.1.1 s1.2.1.1.2 s1.2.1.2.1 s1.2.1.2.2, W_Braid k b1 (o1+8) s1.2.2.1.1 s1.2.2.1.2 s1.2.2.2.1 s1.2.2.2.2, W_Form k b1 (o1+1) s1.1.1.1.1.1.1 s1.1.1.1.1.1.2 s1.1.1.1.1.2 s1.1.1.1.2.1.1 s1.1.1.1.2.1.2 s1.1.1.1.2.2].flatten := hD
      obtain ⟨hP, hD⟩ := B_perm (br := [W_Decoder k b0 o0 (((((c37, c38), c39), (c40, c41)), ((c42, c43), (c44, c45))), ((((c46, c47), c48), (c49, r56.1)), ((r56.2.1, r56.2.2.1), (r56.2.2.2.1, r56.2.2.2.2)))), [((b1 o1), .inr (5, [.ref (b1 (o1+1)), .int s1.1.1.2, .ref (b1 (o1+2)), .ref (b1 (o1+3)), .ref (b1 (o1+8))]))], W_Form k b1 (o1+1) s1.1.1.1.1.1.1 s1.1.1.1.1.1.2 s1.1.1.1.1.2 s1.1.1.1.2.1.1 s1.1.1.1.2.1.2 s1.1.1.1.2.2, [((b1 (o1+2)), .inl (k 0, 16, .inl s1.1.2))], W_Braid k b1 (o1+3) s1.2.1.1.1 s1.2.1.1.2 s1.2.1.2.1 s1.2.1.2.2, W_Braid k b1 (o1+8) s1.2.2.1.1 s1.2.2.1.2 s1.2.2.2.1 s1.2.2.2.2]) hP hD [0, 1, 5, 2, 3, 4] rfl rfl
      have hP : va_P D vwCl [W_Decoder k b0 o0 (((((c37, c38), c39), (c40, c41)), ((c42, c43), (c44, c45))), ((((c46, c47), c48), (c49, r56.1)), ((r56.2.1, r56.2.2.1), (r56.2.2.2.1, r56.2.2.2.2)))), W_State k b1 o1 s1].flatten _ := hP
      have hD : va_D A [W_Decoder k b0 o0 (((((c37, c38), c39), (c40, c41)), ((c42, c43), (c44, c45))), ((((c46, c47), c48), (c49, r56.1)), ((r56.2.1, r56.2.2.1), (r56.2.2.2.1, r56.2.2.2.2)))), W_State k b1 o1 s1].flatten := hD
      exact ih (i36 + 1) r56.1 r56.2.1 r56.2.2.1 r56.2.2.2.1 r56.2.2.2.2 _ _ _ hP hD hS (lv_sub hl [1, 2, 3, 4, 0] rfl) hf
set_option maxRecDepth 100000 in
set_option maxHeartbeats 1000000 in
theorem c_Decoder_decode_s (l : Launch) (D : va_G) (k : Nat → ClassId) (t : Nat → Nat) (b0 : Nat → Nat) (o0 : Nat) (s0 : DecoderS) (b1 : Nat → Nat) (o1 : Nat) (s1 : StateS) (x3 : Int32) (N : Nat) (out : Int32 × FJ × FJ × FJ × FJ × FJ × FJ × (Nat → FI) × FI × Int32 × FJ × FJ × FJ × FJ × FJ × FJ × (Nat → FI) × FI × Int32) (hf : f_Decoder_decode_s N x3 s0.1.1.1.1.1 s0.1.1.1.1.2 s0.1.1.1.2 s0.1.1.2.1 s0.1.1.2.2 s0.1.2.1.1 s0.1.2.1.2 s0.1.2.2.1 s0.1.2.2.2 s0.2.1.1.1.1 s0.2.1.1.1.2 s0.2.1.1.2 s0.2.1.2.1 s0.2.1.2.2 s0.2.2.1.1 s0.2.2.1.2 s0.2.2.2.1 s0.2.2.2.2 s1.1.1.1.1.1.1 s1.1.1.1.1.1.2 s1.1.1.1.1.2 s1.1.1.1.2.1.1 s1.1.1.1.2.1.2 s1.1.1.1.2.2 s1.1.1.2 s1.1.2 s1.2.2.1.2 s1.2.2.2.1 s1.2.2.2.2 = some out) : CT l D k t yX2_decode cX2_decode 6 (some .int) rm_Decoder_decode_s [.ref (b0 o0), .ref (b1 o1), .ref (b1 (o1+8)), .int x3] [W_Decoder k b0 o0 s0, W_State k b1 o1 s1].flatten (some (.int out.1)) [W_Decoder k b0 o0 (((((out.2.1, out.2.2.1), out.2.2.2.1), (out.2.2.2.2.1, out.2.2.2.2.2.1)), ((out.2.2.2.2.2.2.1, out.2.2.2.2.2.2.2.1), (out.2.2.2.2.2.2.2.2.1, out.2.2.2.2.2.2.2.2.2.1))), ((((out.2.2.2.2.2.2.2.2.2.2.1, out.2.2.2.2.2.2.2.2.2.2.2.1), out.2.2.2.2.2.2.2.2.2.2.2.2.1), (out.2.2.2.2.2.2.2.2.2.2.2.2.2.1, out.2.2.2.2.2.2.2.2.2.2.2.2.2.2.1)), ((out.2.2.2.2.2.2.2.2.2.2.2.2.2.2.2.1, out.2.2.2.2.2.2.2.2.2.2.2.2.2.2.2.2.1), (out.2.2.2.2.2.2.2.2.2.2.2.2.2.2.2.2.2.1, out.2.2.2.2.2.2.2.2.2.2.2.2.2.2.2.2.2.2)))), W_State k b1 o1 s1].flatten := by
  refine kofW (by decide) (Nat.le_of_ble_eq_true rfl) ?_
  intro p e s m below meth c A ls X hP hD hS hl
  have hx := X.1.1
  have hb := X.1.2.1
  have hml := X.1.2.2.1
  have hown := X.1.2.2.2.1
  have hts := X.1.2.2.2.2
  have hl : lv_has ls 6 [(0, .ref (b0 o0)), (1, .ref (b1 o1)), (2, .ref (b1 (o1+8))), (3, .int x3)] := hl
  rw [f_Decoder_decode_s] at hf
  refine lv_aload_n hx hb dX2_decode_0 rfl (lv_at hl 1 rfl) ?_
  refine kget (v := .ref (b1 (o1+1))) X hP ff_X2_60 67 rfl rfl dX2_decode_1 ?_
  refine lv_astore (lv' := [(4, .ref (b1 (o1+1))), (0, .ref (b0 o0)), (1, .ref (b1 o1)), (2, .ref (b1 (o1+8))), (3, .int x3)]) hx hb dX2_decode_4 hl (by decide) rfl (fun ls hl => ?_)
  refine lv_aload_n hx hb dX2_decode_6 rfl (lv_at hl 1 rfl) ?_
  refine lv_aload hx hb dX2_decode_7 (lv_at hl 0 rfl) ?_
  refine lv_aload_n hx hb dX2_decode_9 rfl (lv_at hl 3 rfl) ?_
  obtain ⟨r1, hg_r1, hf⟩ := ofbind hf
  have hP : va_P D vwCl [W_Decoder k b0 o0 s0, [((b1 o1), .inr (5, [.ref (b1 (o1+1)), .int s1.1.1.2, .ref (b1 (o1+2)), .ref (b1 (o1+3)), .ref (b1 (o1+8))]))], W_Form k b1 (o1+1) s1.1.1.1.1.1.1 s1.1.1.1.1.1.2 s1.1.1.1.1.2 s1.1.1.1.2.1.1 s1.1.1.1.2.1.2 s1.1.1.1.2.2, [((b1 (o1+2)), .inl (k 0, 16, .inl s1.1.2))], W_Braid k b1 (o1+3) s1.2.1.1.1 s1.2.1.1.2 s1.2.1.2.1 s1.2.1.2.2, W_Braid k b1 (o1+8) s1.2.2.1.1 s1.2.2.1.2 s1.2.2.2.1 s1.2.2.2.2].flatten _ := hP
  have hD : va_D A [W_Decoder k b0 o0 s0, [((b1 o1), .inr (5, [.ref (b1 (o1+1)), .int s1.1.1.2, .ref (b1 (o1+2)), .ref (b1 (o1+3)), .ref (b1 (o1+8))]))], W_Form k b1 (o1+1) s1.1.1.1.1.1.1 s1.1.1.1.1.1.2 s1.1.1.1.1.2 s1.1.1.1.2.1.1 s1.1.1.1.2.1.2 s1.1.1.1.2.2, [((b1 (o1+2)), .inl (k 0, 16, .inl s1.1.2))], W_Braid k b1 (o1+3) s1.2.1.1.1 s1.2.1.1.2 s1.2.1.2.1 s1.2.1.2.2, W_Braid k b1 (o1+8) s1.2.2.1.1 s1.2.2.1.2 s1.2.2.2.1 s1.2.2.2.2].flatten := hD
  refine kcV (bs := [W_Decoder k b0 o0 s0, [((b1 o1), .inr (5, [.ref (b1 (o1+1)), .int s1.1.1.2, .ref (b1 (o1+2)), .ref (b1 (o1+3)), .ref (b1 (o1+8))]))], W_Form k b1 (o1+1) s1.1.1.1.1.1.1 s1.1.1.1.1.1.2 s1.1.1.1.1.2 s1.1.1.1.2.1.1 s1.1.1.1.2.1.2 s1.1.1.1.2.2, [((b1 (o1+2)), .inl (k 0, 16, .inl s1.1.2))], W_Braid k b1 (o1+3) s1.2.1.1.1 s1.2.1.1.2 s1.2.1.2.1 s1.2.1.2.2, W_Braid k b1 (o1+8) s1.2.2.1.1 s1.2.2.1.2 s1.2.2.2.1 s1.2.2.2.2]) (br := [[((b1 o1), .inr (5, [.ref (b1 (o1+1)), .int s1.1.1.2, .ref (b1 (o1+2)), .ref (b1 (o1+3)), .ref (b1 (o1+8))]))], [((b1 (o1+2)), .inl (k 0, 16, .inl s1.1.2))], W_Braid k b1 (o1+3) s1.2.1.1.1 s1.2.1.1.2 s1.2.1.2.1 s1.2.1.2.2]) (bc := [W_Decoder k b0 o0 s0, W_Form k b1 (o1+1) s1.1.1.1.1.1.1 s1.1.1.1.1.1.2 s1.1.1.1.1.2 s1.1.1.1.2.1.1 s1.1.1.1.2.1.2 s1.1.1.1.2.2, W_Braid k b1 (o1+8) s1.2.2.1.1 s1.2.2.1.2 s1.2.2.2.1 s1.2.2.2.2]) (bc' := [W_Decoder k b0 o0 (u_Decoder_overflows s0 ((((r1.1, r1.2.1), r1.2.2.1), (r1.2.2.2.1, r1.2.2.2.2.1)), ((r1.2.2.2.2.2.1, r1.2.2.2.2.2.2.1), (r1.2.2.2.2.2.2.2.1, r1.2.2.2.2.2.2.2.2)))), W_Form k b1 (o1+1) s1.1.1.1.1.1.1 s1.1.1.1.1.1.2 s1.1.1.1.1.2 s1.1.1.1.2.1.1 s1.1.1.1.2.1.2 s1.1.1.1.2.2, W_Braid k b1 (o1+8) s1.2.2.1.1 s1.2.2.1.2 s1.2.2.2.1 s1.2.2.2.2]) X hP hD hS (c_Decoder_decodeOverflows l D k t b0 o0 s0 b1 (o1+1) s1.1.1.1.1.1.1 s1.1.1.1.1.1.2 s1.1.1.1.1.2 s1.1.1.1.2.1.1 s1.1.1.1.2.1.2 s1.1.1.1.2.2 b1 (o1+8) s1.2.2.1.1 s1.2.2.1.2 s1.2.2.2.1 s1.2.2.2.2 N r1 hg_r1) mv_X2_66 hl [1, 3, 4] [0, 2, 5] 2 ⟨rfl, rfl⟩ ⟨Nat.le_of_ble_eq_true rfl, Nat.le_of_ble_eq_true rfl⟩ rfl rfl rfl rfl rfl rfl rfl (Nat.le_of_ble_eq_true rfl) dX2_decode_10 (fun H locs hP hD hS => ?_)
  have hP : va_P D vwCl [[((b1 o1), .inr (5, [.ref (b1 (o1+1)), .int s1.1.1.2, .ref (b1 (o1+2)), .ref (b1 (o1+3)), .ref (b1 (o1+8))]))], [((b1 (o1+2)), .inl (k 0, 16, .inl s1.1.2))], W_Braid k b1 (o1+3) s1.2.1.1.1 s1.2.1.1.2 s1.2.1.2.1 s1.2.1.2.2, W_Decoder k b0 o0 (u_Decoder_overflows s0 ((((r1.1, r1.2.1), r1.2.2.1), (r1.2.2.2.1, r1.2.2.2.2.1)), ((r1.2.2.2.2.2.1, r1.2.2.2.2.2.2.1), (r1.2.2.2.2.2.2.2.1, r1.2.2.2.2.2.2.2.2)))), W_Form k b1 (o1+1) s1.1.1.1.1.1.1 s1.1.1.1.1.1.2 s1.1.1.1.1.2 s1.1.1.1.2.1.1 s1.1.1.1.2.1.2 s1.1.1.1.2.2, W_Braid k b1 (o1+8) s1.2.2.1.1 s1.2.2.1.2 s1.2.2.2.1 s1.2.2.2.2].flatten _ := hP
  have hD : va_D A [[((b1 o1), .inr (5, [.ref (b1 (o1+1)), .int s1.1.1.2, .ref (b1 (o1+2)), .ref (b1 (o1+3)), .ref (b1 (o1+8))]))], [((b1 (o1+2)), .inl (k 0, 16, .inl s1.1.2))], W_Braid k b1 (o1+3) s1.2.1.1.1 s1.2.1.1.2 s1.2.1.2.1 s1.2.1.2.2, W_Decoder k b0 o0 (u_Decoder_overflows s0 ((((r1.1, r1.2.1), r1.2.2.1), (r1.2.2.2.1, r1.2.2.2.2.1)), ((r1.2.2.2.2.2.1, r1.2.2.2.2.2.2.1), (r1.2.2.2.2.2.2.2.1, r1.2.2.2.2.2.2.2.2)))), W_Form k b1 (o1+1) s1.1.1.1.1.1.1 s1.1.1.1.1.1.2 s1.1.1.1.1.2 s1.1.1.1.2.1.1 s1.1.1.1.2.1.2 s1.1.1.1.2.2, W_Braid k b1 (o1+8) s1.2.2.1.1 s1.2.2.1.2 s1.2.2.2.1 s1.2.2.2.2].flatten := hD
  refine lv_aload_n hx hb dX2_decode_13 rfl (lv_at hl 1 rfl) ?_
  refine kget (v := .ref (b0 (o0+34))) X hP ff_X2_18 7 rfl rfl dX2_decode_14 ?_
  have hP : va_P D vwCl [[((b1 o1), .inr (5, [.ref (b1 (o1+1)), .int s1.1.1.2, .ref (b1 (o1+2)), .ref (b1 (o1+3)), .ref (b1 (o1+8))]))], [((b1 (o1+2)), .inl (k 0, 16, .inl s1.1.2))], W_Braid k b1 (o1+3) s1.2.1.1.1 s1.2.1.1.2 s1.2.1.2.1 s1.2.1.2.2, [((b0 o0), .inr (2, [.ref (b0 (o0+1)), .ref (b0 (o0+34))]))], W_Bounds k b0 (o0+1) r1.1 r1.2.1 r1.2.2.1 r1.2.2.2.1 r1.2.2.2.2.1 r1.2.2.2.2.2.1 r1.2.2.2.2.2.2.1 r1.2.2.2.2.2.2.2.1 r1.2.2.2.2.2.2.2.2, W_Bounds k b0 (o0+34) s0.2.1.1.1.1 s0.2.1.1.1.2 s0.2.1.1.2 s0.2.1.2.1 s0.2.1.2.2 s0.2.2.1.1 s0.2.2.1.2 s0.2.2.2.1 s0.2.2.2.2, W_Form k b1 (o1+1) s1.1.1.1.1.1.1 s1.1.1.1.1.1.2 s1.1.1.1.1.2 s1.1.1.1.2.1.1 s1.1.1.1.2.1.2 s1.1.1.1.2.2, W_Braid k b1 (o1+8) s1.2.2.1.1 s1.2.2.1.2 s1.2.2.2.1 s1.2.2.2.2].flatten _ := hP
  have hD : va_D A [[((b1 o1), .inr (5, [.ref (b1 (o1+1)), .int s1.1.1.2, .ref (b1 (o1+2)), .ref (b1 (o1+3)), .ref (b1 (o1+8))]))], [((b1 (o1+2)), .inl (k 0, 16, .inl s1.1.2))], W_Braid k b1 (o1+3) s1.2.1.1.1 s1.2.1.1.2 s1.2.1.2.1 s1.2.1.2.2, [((b0 o0), .inr (2, [.ref (b0 (o0+1)), .ref (b0 (o0+34))]))], W_Bounds k b0 (o0+1) r1.1 r1.2.1 r1.2.2.1 r1.2.2.2.1 r1.2.2.2.2.1 r1.2.2.2.2.2.1 r1.2.2.2.2.2.2.1 r1.2.2.2.2.2.2.2.1 r1.2.2.2.2.2.2.2.2, W_Bounds k b0 (o0+34) s0.2.1.1.1.1 s0.2.1.1.1.2 s0.2.1.1.2 s0.2.1.2.1 s0.2.1.2.2 s0.2.2.1.1 s0.2.2.1.2 s0.2.2.2.1 s0.2.2.2.2, W_Form k b1 (o1+1) s1.1.1.1.1.1.1 s1.1.1.1.1.1.2 s1.1.1.1.1.2 s1.1.1.1.2.1.1 s1.1.1.1.2.1.2 s1.1.1.1.2.2, W_Braid k b1 (o1+8) s1.2.2.1.1 s1.2.2.1.2 s1.2.2.2.1 s1.2.2.2.2].flatten := hD
  refine kcV (bs := [[((b1 o1), .inr (5, [.ref (b1 (o1+1)), .int s1.1.1.2, .ref (b1 (o1+2)), .ref (b1 (o1+3)), .ref (b1 (o1+8))]))], [((b1 (o1+2)), .inl (k 0, 16, .inl s1.1.2))], W_Braid k b1 (o1+3) s1.2.1.1.1 s1.2.1.1.2 s1.2.1.2.1 s1.2.1.2.2, [((b0 o0), .inr (2, [.ref (b0 (o0+1)), .ref (b0 (o0+34))]))], W_Bounds k b0 (o0+1) r1.1 r1.2.1 r1.2.2.1 r1.2.2.2.1 r1.2.2.2.2.1 r1.2.2.2.2.2.1 r1.2.2.2.2.2.2.1 r1.2.2.2.2.2.2.2.1 r1.2.2.2.2.2.2.2.2, W_Bounds k b0 (o0+34) s0.2.1.1.1.1 s0.2.1.1.1.2 s0.2.1.1.2 s0.2.1.2.1 s0.2.1.2.2 s0.2.2.1.1 s0.2.2.1.2 s0.2.2.2.1 s0.2.2.2.2, W_Form k b1 (o1+1) s1.1.1.1.1.1.1 s1.1.1.1.1.1.2 s1.1.1.1.1.2 s1.1.1.1.2.1.1 s1.1.1.1.2.1.2 s1.1.1.1.2.2, W_Braid k b1 (o1+8) s1.2.2.1.1 s1.2.2.1.2 s1.2.2.2.1 s1.2.2.2.2]) (br := [[((b1 o1), .inr (5, [.ref (b1 (o1+1)), .int s1.1.1.2, .ref (b1 (o1+2)), .ref (b1 (o1+3)), .ref (b1 (o1+8))]))], [((b1 (o1+2)), .inl (k 0, 16, .inl s1.1.2))], W_Braid k b1 (o1+3) s1.2.1.1.1 s1.2.1.1.2 s1.2.1.2.1 s1.2.1.2.2, [((b0 o0), .inr (2, [.ref (b0 (o0+1)), .ref (b0 (o0+34))]))], W_Bounds k b0 (o0+1) r1.1 r1.2.1 r1.2.2.1 r1.2.2.2.1 r1.2.2.2.2.1 r1.2.2.2.2.2.1 r1.2.2.2.2.2.2.1 r1.2.2.2.2.2.2.2.1 r1.2.2.2.2.2.2.2.2, W_Form k b1 (o1+1) s1.1.1.1.1.1.1 s1.1.1.1.1.1.2 s1.1.1.1.1.2 s1.1.1.1.2.1.1 s1.1.1.1.2.1.2 s1.1.1.1.2.2, W_Braid k b1 (o1+8) s1.2.2.1.1 s1.2.2.1.2 s1.2.2.2.1 s1.2.2.2.2]) (bc := [W_Bounds k b0 (o0+34) s0.2.1.1.1.1 s0.2.1.1.1.2 s0.2.1.1.2 s0.2.1.2.1 s0.2.1.2.2 s0.2.2.1.1 s0.2.2.1.2 s0.2.2.2.1 s0.2.2.2.2]) (bc' := [W_Bounds k b0 (o0+34) s0.2.1.1.1.1 s0.2.1.1.1.2 s0.2.1.1.2 s0.2.1.2.1 s0.2.1.2.2 s0.2.2.1.1 s0.2.2.1.2 s0.2.2.2.1 0]) X hP hD hS (c_Bounds_start l D k t b0 (o0+34) s0.2.1.1.1.1 s0.2.1.1.1.2 s0.2.1.1.2 s0.2.1.2.1 s0.2.1.2.2 s0.2.2.1.1 s0.2.2.1.2 s0.2.2.2.1 s0.2.2.2.2) mv_X2_21 hl [0, 1, 2, 3, 4, 6, 7] [5] 0 ⟨rfl, rfl⟩ ⟨Nat.le_of_ble_eq_true rfl, Nat.le_of_ble_eq_true rfl⟩ rfl rfl rfl rfl rfl rfl rfl (Nat.le_of_ble_eq_true rfl) dX2_decode_17 (fun H locs hP hD hS => ?_)
  have hP : va_P D vwCl [[((b1 o1), .inr (5, [.ref (b1 (o1+1)), .int s1.1.1.2, .ref (b1 (o1+2)), .ref (b1 (o1+3)), .ref (b1 (o1+8))]))], [((b1 (o1+2)), .inl (k 0, 16, .inl s1.1.2))], W_Braid k b1 (o1+3) s1.2.1.1.1 s1.2.1.1.2 s1.2.1.2.1 s1.2.1.2.2, [((b0 o0), .inr (2, [.ref (b0 (o0+1)), .ref (b0 (o0+34))]))], W_Bounds k b0 (o0+1) r1.1 r1.2.1 r1.2.2.1 r1.2.2.2.1 r1.2.2.2.2.1 r1.2.2.2.2.2.1 r1.2.2.2.2.2.2.1 r1.2.2.2.2.2.2.2.1 r1.2.2.2.2.2.2.2.2, W_Form k b1 (o1+1) s1.1.1.1.1.1.1 s1.1.1.1.1.1.2 s1.1.1.1.1.2 s1.1.1.1.2.1.1 s1.1.1.1.2.1.2 s1.1.1.1.2.2, W_Braid k b1 (o1+8) s1.2.2.1.1 s1.2.2.1.2 s1.2.2.2.1 s1.2.2.2.2, W_Bounds k b0 (o0+34) s0.2.1.1.1.1 s0.2.1.1.1.2 s0.2.1.1.2 s0.2.1.2.1 s0.2.1.2.2 s0.2.2.1.1 s0.2.2.1.2 s0.2.2.2.1 0].flatten _ := hP
  have hD : va_D A [[((b1 o1), .inr (5, [.ref (b1 (o1+1)), .int s1.1.1.2, .ref (b1 (o1+2)), .ref (b1 (o1+3)), .ref (b1 (o1+8))]))], [((b1 (o1+2)), .inl (k 0, 16, .inl s1.1.2))], W_Braid k b1 (o1+3) s1.2.1.1.1 s1.2.1.1.2 s1.2.1.2.1 s1.2.1.2.2, [((b0 o0), .inr (2, [.ref (b0 (o0+1)), .ref (b0 (o0+34))]))], W_Bounds k b0 (o0+1) r1.1 r1.2.1 r1.2.2.1 r1.2.2.2.1 r1.2.2.2.2.1 r1.2.2.2.2.2.1 r1.2.2.2.2.2.2.1 r1.2.2.2.2.2.2.2.1 r1.2.2.2.2.2.2.2.2, W_Form k b1 (o1+1) s1.1.1.1.1.1.1 s1.1.1.1.1.1.2 s1.1.1.1.1.2 s1.1.1.1.2.1.1 s1.1.1.1.2.1.2 s1.1.1.1.2.2, W_Braid k b1 (o1+8) s1.2.2.1.1 s1.2.2.1.2 s1.2.2.2.1 s1.2.2.2.2, W_Bounds k b0 (o0+34) s0.2.1.1.1.1 s0.2.1.1.1.2 s0.2.1.1.2 s0.2.1.2.1 s0.2.1.2.2 s0.2.2.1.1 s0.2.2.1.2 s0.2.2.2.1 0].flatten := hD
  refine lv_iconst (v := 0) hx hb dX2_decode_20 (by decide) ?_
  refine lv_istore (lv' := [(5, .int 0), (4, .ref (b1 (o1+1))), (0, .ref (b0 o0)), (1, .ref (b1 o1)), (2, .ref (b1 (o1+8))), (3, .int x3)]) hx hb dX2_decode_21 hl (by decide) rfl (fun ls hl => ?_)
  obtain ⟨hP, hD⟩ := B_perm (br := [[((b1 o1), .inr (5, [.ref (b1 (o1+1)), .int s1.1.1.2, .ref (b1 (o1+2)), .ref (b1 (o1+3)), .ref (b1 (o1+8))]))], [((b1 (o1+2)), .inl (k 0, 16, .inl s1.1.2))], W_Braid k b1 (o1+3) s1.2.1.1.1 s1.2.1.1.2 s1.2.1.2.1 s1.2.1.2.2, [((b0 o0), .inr (2, [.ref (b0 (o0+1)), .ref (b0 (o0+34))]))], W_Bounds k b0 (o0+1) r1.1 r1.2.1 r1.2.2.1 r1.2.2.2.1 r1.2.2.2.2.1 r1.2.2.2.2.2.1 r1.2.2.2.2.2.2.1 r1.2.2.2.2.2.2.2.1 r1.2.2.2.2.2.2.2.2, W_Bounds k b0 (o0+34) s0.2.1.1.1.1 s0.2.1.1.1.2 s0.2.1.1.2 s0.2.1.2.1 s0.2.1.2.2 s0.2.2.1.1 s0.2.2.1.2 s0.2.2.2.1 0, W_Form k b1 (o1+1) s1.1.1.1.1.1.1 s1.1.1.1.1.1.2 s1.1.1.1.1.2 s1.1.1.1.2.1.1 s1.1.1.1.2.1.2 s1.1.1.1.2.2, W_Braid k b1 (o1+8) s1.2.2.1.1 s1.2.2.1.2 s1.2.2.2.1 s1.2.2.2.2]) hP hD [0, 1, 2, 3, 4, 7, 5, 6] rfl rfl
  have hP : va_P D vwCl [[((b1 o1), .inr (5, [.ref (b1 (o1+1)), .int s1.1.1.2, .ref (b1 (o1+2)), .ref (b1 (o1+3)), .ref (b1 (o1+8))]))], [((b1 (o1+2)), .inl (k 0, 16, .inl s1.1.2))], W_Braid k b1 (o1+3) s1.2.1.1.1 s1.2.1.1.2 s1.2.1.2.1 s1.2.1.2.2, W_Decoder k b0 o0 (((((r1.1, r1.2.1), r1.2.2.1), (r1.2.2.2.1, r1.2.2.2.2.1)), ((r1.2.2.2.2.2.1, r1.2.2.2.2.2.2.1), (r1.2.2.2.2.2.2.2.1, r1.2.2.2.2.2.2.2.2))), ((((s0.2.1.1.1.1, s0.2.1.1.1.2), s0.2.1.1.2), (s0.2.1.2.1, s0.2.1.2.2)), ((s0.2.2.1.1, s0.2.2.1.2), (s0.2.2.2.1, 0)))), W_Form k b1 (o1+1) s1.1.1.1.1.1.1 s1.1.1.1.1.1.2 s1.1.1.1.1.2 s1.1.1.1.2.1.1 s1.1.1.1.2.1.2 s1.1.1.1.2.2, W_Braid k b1 (o1+8) s1.2.2.1.1 s1.2.2.1.2 s1.2.2.2.1 s1.2.2.2.2].flatten _ := hP
  have hD : va_D A [[((b1 o1), .inr (5, [.ref (b1 (o1+1)), .int s1.1.1.2, .ref (b1 (o1+2)), .ref (b1 (o1+3)), .ref (b1 (o1+8))]))], [((b1 (o1+2)), .inl (k 0, 16, .inl s1.1.2))], W_Braid k b1 (o1+3) s1.2.1.1.1 s1.2.1.1.2 s1.2.1.2.1 s1.2.1.2.2, W_Decoder k b0 o0 (((((r1.1, r1.2.1), r1.2.2.1), (r1.2.2.2.1, r1.2.2.2.2.1)), ((r1.2.2.2.2.2.1, r1.2.2.2.2.2.2.1), (r1.2.2.2.2.2.2.2.1, r1.2.2.2.2.2.2.2.2))), ((((s0.2.1.1.1.1, s0.2.1.1.1.2), s0.2.1.1.2), (s0.2.1.2.1, s0.2.1.2.2)), ((s0.2.2.1.1, s0.2.2.1.2), (s0.2.2.2.1, 0)))), W_Form k b1 (o1+1) s1.1.1.1.1.1.1 s1.1.1.1.1.1.2 s1.1.1.1.1.2 s1.1.1.1.2.1.1 s1.1.1.1.2.1.2 s1.1.1.1.2.2, W_Braid k b1 (o1+8) s1.2.2.1.1 s1.2.2.1.2 s1.2.2.2.1 s1.2.2.2.2].flatten := hD
  obtain ⟨hP, hD⟩ := B_perm (br := [[((b1 o1), .inr (5, [.ref (b1 (o1+1)), .int s1.1.1.2, .ref (b1 (o1+2)), .ref (b1 (o1+3)), .ref (b1 (o1+8))]))], W_Form k b1 (o1+1) s1.1.1.1.1.1.1 s1.1.1.1.1.1.2 s1.1.1.1.1.2 s1.1.1.1.2.1.1 s1.1.1.1.2.1.2 s1.1.1.1.2.2, [((b1 (o1+2)), .inl (k 0, 16, .inl s1.1.2))], W_Braid k b1 (o1+3) s1.2.1.1.1 s1.2.1.1.2 s1.2.1.2.1 s1.2.1.2.2, W_Braid k b1 (o1+8) s1.2.2.1.1 s1.2.2.1.2 s1.2.2.2.1 s1.2.2.2.2, W_Decoder k b0 o0 (((((r1.1, r1.2.1), r1.2.2.1), (r1.2.2.2.1, r1.2.2.2.2.1)), ((r1.2.2.2.2.2.1, r1.2.2.2.2.2.2.1), (r1.2.2.2.2.2.2.2.1, r1.2.2.2.2.2.2.2.2))), ((((s0.2.1.1.1.1, s0.2.1.1.1.2), s0.2.1.1.2), (s0.2.1.2.1, s0.2.1.2.2)), ((s0.2.2.1.1, s0.2.2.1.2), (s0.2.2.2.1, 0))))]) hP hD [0, 4, 1, 2, 5, 3] rfl rfl
  have hP : va_P D vwCl [W_State k b1 o1 s1, W_Decoder k b0 o0 (((((r1.1, r1.2.1), r1.2.2.1), (r1.2.2.2.1, r1.2.2.2.2.1)), ((r1.2.2.2.2.2.1, r1.2.2.2.2.2.2.1), (r1.2.2.2.2.2.2.2.1, r1.2.2.2.2.2.2.2.2))), ((((s0.2.1.1.1.1, s0.2.1.1.1.2), s0.2.1.1.2), (s0.2.1.2.1, s0.2.1.2.2)), ((s0.2.2.1.1, s0.2.2.1.2), (s0.2.2.2.1, 0))))].flatten _ := hP
  have hD : va_D A [W_State k b1 o1 s1, W_Decoder k b0 o0 (((((r1.1, r1.2.1), r1.2.2.1), (r1.2.2.2.1, r1.2.2.2.2.1)), ((r1.2.2.2.2.2.1, r1.2.2.2.2.2.2.1), (r1.2.2.2.2.2.2.2.1, r1.2.2.2.2.2.2.2.2))), ((((s0.2.1.1.1.1, s0.2.1.1.1.2), s0.2.1.1.2), (s0.2.1.2.1, s0.2.1.2.2)), ((s0.2.2.1.1, s0.2.2.1.2), (s0.2.2.2.1, 0))))].flatten := hD
  obtain ⟨hP, hD⟩ := B_perm (br := [W_Decoder k b0 o0 (((((r1.1, r1.2.1), r1.2.2.1), (r1.2.2.2.1, r1.2.2.2.2.1)), ((r1.2.2.2.2.2.1, r1.2.2.2.2.2.2.1), (r1.2.2.2.2.2.2.2.1, r1.2.2.2.2.2.2.2.2))), ((((s0.2.1.1.1.1, s0.2.1.1.1.2), s0.2.1.1.2), (s0.2.1.2.1, s0.2.1.2.2)), ((s0.2.2.1.1, s0.2.2.1.2), (s0.2.2.2.1, 0)))), W_State k b1 o1 s1]) hP hD [1, 0] rfl rfl
  have hP : va_P D vwCl [W_Decoder k b0 o0 (((((r1.1, r1.2.1), r1.2.2.1), (r1.2.2.2.1, r1.2.2.2.2.1)), ((r1.2.2.2.2.2.1, r1.2.2.2.2.2.2.1), (r1.2.2.2.2.2.2.2.1, r1.2.2.2.2.2.2.2.2))), ((((s0.2.1.1.1.1, s0.2.1.1.1.2), s0.2.1.1.2), (s0.2.1.2.1, s0.2.1.2.2)), ((s0.2.2.1.1, s0.2.2.1.2), (s0.2.2.2.1, 0)))), W_State k b1 o1 s1].flatten _ := hP
  have hD : va_D A [W_Decoder k b0 o0 (((((r1.1, r1.2.1), r1.2.2.1), (r1.2.2.2.1, r1.2.2.2.2.1)), ((r1.2.2.2.2.2.1, r1.2.2.2.2.2.2.1), (r1.2.2.2.2.2.2.2.1, r1.2.2.2.2.2.2.2.2))), ((((s0.2.1.1.1.1, s0.2.1.1.1.2), s0.2.1.1.2), (s0.2.1.2.1, s0.2.1.2.2)), ((s0.2.2.1.1, s0.2.2.1.2), (s0.2.2.2.1, 0)))), W_State k b1 o1 s1].flatten := hD
  refine w_Decoder_decode_s_L23 X b0 o0 s0 b1 o1 s1 N x3 r1.1 r1.2.1 r1.2.2.1 r1.2.2.2.1 r1.2.2.2.2.1 r1.2.2.2.2.2.1 r1.2.2.2.2.2.2.1 r1.2.2.2.2.2.2.2.1 r1.2.2.2.2.2.2.2.2 s0.2.1.1.2 s0.2.1.2.1 s0.2.1.2.2 s0.2.2.1.1 s0.2.2.1.2 s0.2.2.2.1 0 out _ ?_ N 0 s0.2.1.1.1.1 s0.2.1.1.1.2 _ _ _ hP hD hS (lv_sub hl [2, 3, 4, 5, 1, 0] rfl) hf
  · intro i30 c31 c32 H locs ls hP hD hS hl hf
    refine lv_iconst (v := 0) hx hb dX2_decode_109 (by decide) ?_
    refine lv_istore (lv' := [(5, .int 0), (0, .ref (b0 o0)), (1, .ref (b1 o1)), (3, .int x3), (4, .ref (b1 (o1+1)))]) hx hb dX2_decode_110 hl (by decide) rfl (fun ls hl => ?_)
    refine w_Decoder_decode_s_L112 X b0 o0 s0 b1 o1 s1 N x3 r1.1 r1.2.1 r1.2.2.1 r1.2.2.2.1 r1.2.2.2.2.1 r1.2.2.2.2.2.1 r1.2.2.2.2.2.2.1 r1.2.2.2.2.2.2.2.1 r1.2.2.2.2.2.2.2.2 c31 c32 s0.2.1.1.2 s0.2.1.2.1 out _ ?_ N 0 s0.2.1.2.2 s0.2.2.1.1 s0.2.2.1.2 s0.2.2.2.1 0 _ _ _ hP hD hS (lv_sub hl [1, 2, 3, 4, 0] rfl) hf
    · intro i57 c58 c59 c60 c61 c62 H locs ls hP hD hS hl hf
      refine lv_aload_n hx hb dX2_decode_147 rfl (lv_at hl 0 rfl) ?_
      refine kget (v := .ref (b0 (o0+34))) X hP ff_X2_18 0 rfl rfl dX2_decode_148 ?_
      refine lv_iload_n hx hb dX2_decode_151 rfl (lv_at hl 1 rfl) ?_
      obtain ⟨r63, hg_r63, hf⟩ := ofbind hf
      have hP : va_P D vwCl [[((b0 o0), .inr (2, [.ref (b0 (o0+1)), .ref (b0 (o0+34))]))], W_Bounds k b0 (o0+1) r1.1 r1.2.1 r1.2.2.1 r1.2.2.2.1 r1.2.2.2.2.1 r1.2.2.2.2.2.1 r1.2.2.2.2.2.2.1 r1.2.2.2.2.2.2.2.1 r1.2.2.2.2.2.2.2.2, W_Bounds k b0 (o0+34) c31 c32 s0.2.1.1.2 s0.2.1.2.1 c58 c59 c60 c61 c62, W_State k b1 o1 s1].flatten _ := hP
      have hD : va_D A [[((b0 o0), .inr (2, [.ref (b0 (o0+1)), .ref (b0 (o0+34))]))], W_Bounds k b0 (o0+1) r1.1 r1.2.1 r1.2.2.1 r1.2.2.2.1 r1.2.2.2.2.1 r1.2.2.2.2.2.1 r1.2.2.2.2.2.2.1 r1.2.2.2.2.2.2.2.1 r1.2.2.2.2.2.2.2.2, W_Bounds k b0 (o0+34) c31 c32 s0.2.1.1.2 s0.2.1.2.1 c58 c59 c60 c61 c62, W_State k b1 o1 s1].flatten := hD
      refine kcV (bs := [[((b0 o0), .inr (2, [.ref (b0 (o0+1)), .ref (b0 (o0+34))]))], W_Bounds k b0 (o0+1) r1.1 r1.2.1 r1.2.2.1 r1.2.2.2.1 r1.2.2.2.2.1 r1.2.2.2.2.2.1 r1.2.2.2.2.2.2.1 r1.2.2.2.2.2.2.2.1 r1.2.2.2.2.2.2.2.2, W_Bounds k b0 (o0+34) c31 c32 s0.2.1.1.2 s0.2.1.2.1 c58 c59 c60 c61 c62, W_State k b1 o1 s1]) (br := [[((b0 o0), .inr (2, [.ref (b0 (o0+1)), .ref (b0 (o0+34))]))], W_Bounds k b0 (o0+1) r1.1 r1.2.1 r1.2.2.1 r1.2.2.2.1 r1.2.2.2.2.1 r1.2.2.2.2.2.1 r1.2.2.2.2.2.2.1 r1.2.2.2.2.2.2.2.1 r1.2.2.2.2.2.2.2.2, W_State k b1 o1 s1]) (bc := [W_Bounds k b0 (o0+34) c31 c32 s0.2.1.1.2 s0.2.1.2.1 c58 c59 c60 c61 c62]) (bc' := [W_Bounds k b0 (o0+34) c31 c32 r63.2.1 r63.2.2.1 r63.2.2.2.1 r63.2.2.2.2 c60 c61 c62]) X hP hD hS (c_Bounds_narrow l D k t b0 (o0+34) c31 c32 s0.2.1.1.2 s0.2.1.2.1 c58 c59 c60 c61 c62 x3 N r63 hg_r63) mv_X2_57 hl [0, 1, 3] [2] 0 ⟨rfl, rfl⟩ ⟨Nat.le_of_ble_eq_true rfl, Nat.le_of_ble_eq_true rfl⟩ rfl rfl rfl rfl rfl rfl rfl (Nat.le_of_ble_eq_true rfl) dX2_decode_152 (fun H locs hP hD hS => ?_)
      have hP : va_P D vwCl [[((b0 o0), .inr (2, [.ref (b0 (o0+1)), .ref (b0 (o0+34))]))], W_Bounds k b0 (o0+1) r1.1 r1.2.1 r1.2.2.1 r1.2.2.2.1 r1.2.2.2.2.1 r1.2.2.2.2.2.1 r1.2.2.2.2.2.2.1 r1.2.2.2.2.2.2.2.1 r1.2.2.2.2.2.2.2.2, W_State k b1 o1 s1, W_Bounds k b0 (o0+34) c31 c32 r63.2.1 r63.2.2.1 r63.2.2.2.1 r63.2.2.2.2 c60 c61 c62].flatten _ := hP
      have hD : va_D A [[((b0 o0), .inr (2, [.ref (b0 (o0+1)), .ref (b0 (o0+34))]))], W_Bounds k b0 (o0+1) r1.1 r1.2.1 r1.2.2.1 r1.2.2.2.1 r1.2.2.2.2.1 r1.2.2.2.2.2.1 r1.2.2.2.2.2.2.1 r1.2.2.2.2.2.2.2.1 r1.2.2.2.2.2.2.2.2, W_State k b1 o1 s1, W_Bounds k b0 (o0+34) c31 c32 r63.2.1 r63.2.2.1 r63.2.2.2.1 r63.2.2.2.2 c60 c61 c62].flatten := hD
      obtain ⟨hP, hD⟩ := B_perm (br := [[((b0 o0), .inr (2, [.ref (b0 (o0+1)), .ref (b0 (o0+34))]))], W_Bounds k b0 (o0+1) r1.1 r1.2.1 r1.2.2.1 r1.2.2.2.1 r1.2.2.2.2.1 r1.2.2.2.2.2.1 r1.2.2.2.2.2.2.1 r1.2.2.2.2.2.2.2.1 r1.2.2.2.2.2.2.2.2, W_Bounds k b0 (o0+34) c31 c32 r63.2.1 r63.2.2.1 r63.2.2.2.1 r63.2.2.2.2 c60 c61 c62, W_State k b1 o1 s1]) hP hD [0, 1, 3, 2] rfl rfl
      have hP : va_P D vwCl [W_Decoder k b0 o0 (((((r1.1, r1.2.1), r1.2.2.1), (r1.2.2.2.1, r1.2.2.2.2.1)), ((r1.2.2.2.2.2.1, r1.2.2.2.2.2.2.1), (r1.2.2.2.2.2.2.2.1, r1.2.2.2.2.2.2.2.2))), ((((c31, c32), r63.2.1), (r63.2.2.1, r63.2.2.2.1)), ((r63.2.2.2.2, c60), (c61, c62)))), W_State k b1 o1 s1].flatten _ := hP
      have hD : va_D A [W_Decoder k b0 o0 (((((r1.1, r1.2.1), r1.2.2.1), (r1.2.2.2.1, r1.2.2.2.2.1)), ((r1.2.2.2.2.2.1, r1.2.2.2.2.2.2.1), (r1.2.2.2.2.2.2.2.1, r1.2.2.2.2.2.2.2.2))), ((((c31, c32), r63.2.1), (r63.2.2.1, r63.2.2.2.1)), ((r63.2.2.2.2, c60), (c61, c62)))), W_State k b1 o1 s1].flatten := hD
      have hf := Option.some.inj hf
      subst hf
      exact kiret (v := r63.1) X hP hD hS dX2_decode_155
/-! Form_copyFrom: void copyFrom(CounterBraid$Form); -/
abbrev rm_Form_copyFrom : Room := ({ frames := 0, cells := 0, slots := 0, locals := 0 } : Room)
set_option maxRecDepth 100000 in
set_option maxHeartbeats 1000000 in
theorem c_Form_copyFrom (l : Launch) (D : va_G) (k : Nat → ClassId) (t : Nat → Nat) (b0 : Nat → Nat) (o0 : Nat) (v0_counters : Int32) (v0_bits : Int32) (v0_functions : Int32) (v0_countersAbove : Int32) (v0_functionsAbove : Int32) (v0_rounds : Int32) (b1 : Nat → Nat) (o1 : Nat) (v1_counters : Int32) (v1_bits : Int32) (v1_functions : Int32) (v1_countersAbove : Int32) (v1_functionsAbove : Int32) (v1_rounds : Int32) : CT l D k t yX3_copyFrom cX3_copyFrom 2 none rm_Form_copyFrom [.ref (b0 o0), .ref (b1 o1)] [W_Form k b0 o0 v0_counters v0_bits v0_functions v0_countersAbove v0_functionsAbove v0_rounds, W_Form k b1 o1 v1_counters v1_bits v1_functions v1_countersAbove v1_functionsAbove v1_rounds].flatten none [W_Form k b0 o0 v1_counters v1_bits v1_functions v1_countersAbove v1_functionsAbove v1_rounds, W_Form k b1 o1 v1_counters v1_bits v1_functions v1_countersAbove v1_functionsAbove v1_rounds].flatten := by
  refine kofW (by decide) (Nat.le_of_ble_eq_true rfl) ?_
  intro p e s m below meth c A ls X hP hD hS hl
  have hx := X.1.1
  have hb := X.1.2.1
  have hml := X.1.2.2.1
  have hown := X.1.2.2.2.1
  have hts := X.1.2.2.2.2
  have hl : lv_has ls 2 [(0, .ref (b0 o0)), (1, .ref (b1 o1))] := hl
  refine lv_aload_n hx hb dX3_copyFrom_0 rfl (lv_at hl 0 rfl) ?_
  refine lv_aload_n hx hb dX3_copyFrom_1 rfl (lv_at hl 1 rfl) ?_
  refine kget (v := .int v1_counters) X hP ff_X3_9 1 rfl rfl dX3_copyFrom_2 ?_
  refine kputi (v := v1_counters) X hP hD hS fp_X3_9 0 rfl (Nat.le_of_ble_eq_true rfl) dX3_copyFrom_5 (fun H locs hP hD hS => ?_)
  have hP : va_P D vwCl [W_Form k b0 o0 v1_counters v0_bits v0_functions v0_countersAbove v0_functionsAbove v0_rounds, W_Form k b1 o1 v1_counters v1_bits v1_functions v1_countersAbove v1_functionsAbove v1_rounds].flatten _ := hP
  have hD : va_D A [W_Form k b0 o0 v1_counters v0_bits v0_functions v0_countersAbove v0_functionsAbove v0_rounds, W_Form k b1 o1 v1_counters v1_bits v1_functions v1_countersAbove v1_functionsAbove v1_rounds].flatten := hD
  refine lv_aload_n hx hb dX3_copyFrom_8 rfl (lv_at hl 0 rfl) ?_
  refine lv_aload_n hx hb dX3_copyFrom_9 rfl (lv_at hl 1 rfl) ?_
  refine kget (v := .int v1_bits) X hP ff_X3_15 1 rfl rfl dX3_copyFrom_10 ?_
  refine kputi (v := v1_bits) X hP hD hS fp_X3_15 0 rfl (Nat.le_of_ble_eq_true rfl) dX3_copyFrom_13 (fun H locs hP hD hS => ?_)
  have hP : va_P D vwCl [W_Form k b0 o0 v1_counters v1_bits v0_functions v0_countersAbove v0_functionsAbove v0_rounds, W_Form k b1 o1 v1_counters v1_bits v1_functions v1_countersAbove v1_functionsAbove v1_rounds].flatten _ := hP
  have hD : va_D A [W_Form k b0 o0 v1_counters v1_bits v0_functions v0_countersAbove v0_functionsAbove v0_rounds, W_Form k b1 o1 v1_counters v1_bits v1_functions v1_countersAbove v1_functionsAbove v1_rounds].flatten := hD
  refine lv_aload_n hx hb dX3_copyFrom_16 rfl (lv_at hl 0 rfl) ?_
  refine lv_aload_n hx hb dX3_copyFrom_17 rfl (lv_at hl 1 rfl) ?_
  refine kget (v := .int v1_functions) X hP ff_X3_18 1 rfl rfl dX3_copyFrom_18 ?_
  refine kputi (v := v1_functions) X hP hD hS fp_X3_18 0 rfl (Nat.le_of_ble_eq_true rfl) dX3_copyFrom_21 (fun H locs hP hD hS => ?_)
  have hP : va_P D vwCl [W_Form k b0 o0 v1_counters v1_bits v1_functions v0_countersAbove v0_functionsAbove v0_rounds, W_Form k b1 o1 v1_counters v1_bits v1_functions v1_countersAbove v1_functionsAbove v1_rounds].flatten _ := hP
  have hD : va_D A [W_Form k b0 o0 v1_counters v1_bits v1_functions v0_countersAbove v0_functionsAbove v0_rounds, W_Form k b1 o1 v1_counters v1_bits v1_functions v1_countersAbove v1_functionsAbove v1_rounds].flatten := hD
  refine lv_aload_n hx hb dX3_copyFrom_24 rfl (lv_at hl 0 rfl) ?_
  refine lv_aload_n hx hb dX3_copyFrom_25 rfl (lv_at hl 1 rfl) ?_
  refine kget (v := .int v1_countersAbove) X hP ff_X3_21 1 rfl rfl dX3_copyFrom_26 ?_
  refine kputi (v := v1_countersAbove) X hP hD hS fp_X3_21 0 rfl (Nat.le_of_ble_eq_true rfl) dX3_copyFrom_29 (fun H locs hP hD hS => ?_)
  have hP : va_P D vwCl [W_Form k b0 o0 v1_counters v1_bits v1_functions v1_countersAbove v0_functionsAbove v0_rounds, W_Form k b1 o1 v1_counters v1_bits v1_functions v1_countersAbove v1_functionsAbove v1_rounds].flatten _ := hP
  have hD : va_D A [W_Form k b0 o0 v1_counters v1_bits v1_functions v1_countersAbove v0_functionsAbove v0_rounds, W_Form k b1 o1 v1_counters v1_bits v1_functions v1_countersAbove v1_functionsAbove v1_rounds].flatten := hD
  refine lv_aload_n hx hb dX3_copyFrom_32 rfl (lv_at hl 0 rfl) ?_
  refine lv_aload_n hx hb dX3_copyFrom_33 rfl (lv_at hl 1 rfl) ?_
  refine kget (v := .int v1_functionsAbove) X hP ff_X3_24 1 rfl rfl dX3_copyFrom_34 ?_
  refine kputi (v := v1_functionsAbove) X hP hD hS fp_X3_24 0 rfl (Nat.le_of_ble_eq_true rfl) dX3_copyFrom_37 (fun H locs hP hD hS => ?_)
  have hP : va_P D vwCl [W_Form k b0 o0 v1_counters v1_bits v1_functions v1_countersAbove v1_functionsAbove v0_rounds, W_Form k b1 o1 v1_counters v1_bits v1_functions v1_countersAbove v1_functionsAbove v1_rounds].flatten _ := hP
  have hD : va_D A [W_Form k b0 o0 v1_counters v1_bits v1_functions v1_countersAbove v1_functionsAbove v0_rounds, W_Form k b1 o1 v1_counters v1_bits v1_functions v1_countersAbove v1_functionsAbove v1_rounds].flatten := hD
  refine lv_aload_n hx hb dX3_copyFrom_40 rfl (lv_at hl 0 rfl) ?_
  refine lv_aload_n hx hb dX3_copyFrom_41 rfl (lv_at hl 1 rfl) ?_
  refine kget (v := .int v1_rounds) X hP ff_X3_27 1 rfl rfl dX3_copyFrom_42 ?_
  refine kputi (v := v1_rounds) X hP hD hS fp_X3_27 0 rfl (Nat.le_of_ble_eq_true rfl) dX3_copyFrom_45 (fun H locs hP hD hS => ?_)
  have hP : va_P D vwCl [W_Form k b0 o0 v1_counters v1_bits v1_functions v1_countersAbove v1_functionsAbove v1_rounds, W_Form k b1 o1 v1_counters v1_bits v1_functions v1_countersAbove v1_functionsAbove v1_rounds].flatten _ := hP
  have hD : va_D A [W_Form k b0 o0 v1_counters v1_bits v1_functions v1_countersAbove v1_functionsAbove v1_rounds, W_Form k b1 o1 v1_counters v1_bits v1_functions v1_countersAbove v1_functionsAbove v1_rounds].flatten := hD
  exact kvret X hP hD hS dX3_copyFrom_48
/-! State_copyFrom: void copyFrom(CounterBraid$State); -/
abbrev rm_State_copyFrom : Room := ({ frames := 2, cells := 0, slots := 0, locals := 81 } : Room)
set_option maxRecDepth 100000 in
set_option maxHeartbeats 1000000 in
theorem c_State_copyFrom (l : Launch) (D : va_G) (k : Nat → ClassId) (t : Nat → Nat) (b0 : Nat → Nat) (o0 : Nat) (s0 : StateS) (b1 : Nat → Nat) (o1 : Nat) (s1 : StateS) : CT l D k t yX5_copyFrom cX5_copyFrom 2 none rm_State_copyFrom [.ref (b0 o0), .ref (b1 o1)] [W_State k b0 o0 s0, W_State k b1 o1 s1].flatten none [W_State k b0 o0 s1, W_State k b1 o1 s1].flatten := by
  refine kofW (by decide) (Nat.le_of_ble_eq_true rfl) ?_
  intro p e s m below meth c A ls X hP hD hS hl
  have hx := X.1.1
  have hb := X.1.2.1
  have hml := X.1.2.2.1
  have hown := X.1.2.2.2.1
  have hts := X.1.2.2.2.2
  have hl : lv_has ls 2 [(0, .ref (b0 o0)), (1, .ref (b1 o1))] := hl
  refine lv_aload_n hx hb dX5_copyFrom_0 rfl (lv_at hl 0 rfl) ?_
  refine kget (v := .ref (b0 (o0+1))) X hP ff_X5_12 0 rfl rfl dX5_copyFrom_1 ?_
  refine lv_aload_n hx hb dX5_copyFrom_4 rfl (lv_at hl 1 rfl) ?_
  refine kget (v := .ref (b1 (o1+1))) X hP ff_X5_12 13 rfl rfl dX5_copyFrom_5 ?_
  have hP : va_P D vwCl [[((b0 o0), .inr (5, [.ref (b0 (o0+1)), .int s0.1.1.2, .ref (b0 (o0+2)), .ref (b0 (o0+3)), .ref (b0 (o0+8))]))], W_Form k b0 (o0+1) s0.1.1.1.1.1.1 s0.1.1.1.1.1.2 s0.1.1.1.1.2 s0.1.1.1.2.1.1 s0.1.1.1.2.1.2 s0.1.1.1.2.2, [((b0 (o0+2)), .inl (k 0, 16, .inl s0.1.2))], W_Braid k b0 (o0+3) s0.2.1.1.1 s0.2.1.1.2 s0.2.1.2.1 s0.2.1.2.2, W_Braid k b0 (o0+8) s0.2.2.1.1 s0.2.2.1.2 s0.2.2.2.1 s0.2.2.2.2, W_State k b1 o1 s1].flatten _ := hP
  have hD : va_D A [[((b0 o0), .inr (5, [.ref (b0 (o0+1)), .int s0.1.1.2, .ref (b0 (o0+2)), .ref (b0 (o0+3)), .ref (b0 (o0+8))]))], W_Form k b0 (o0+1) s0.1.1.1.1.1.1 s0.1.1.1.1.1.2 s0.1.1.1.1.2 s0.1.1.1.2.1.1 s0.1.1.1.2.1.2 s0.1.1.1.2.2, [((b0 (o0+2)), .inl (k 0, 16, .inl s0.1.2))], W_Braid k b0 (o0+3) s0.2.1.1.1 s0.2.1.1.2 s0.2.1.2.1 s0.2.1.2.2, W_Braid k b0 (o0+8) s0.2.2.1.1 s0.2.2.1.2 s0.2.2.2.1 s0.2.2.2.2, W_State k b1 o1 s1].flatten := hD
  have hP : va_P D vwCl [[((b0 o0), .inr (5, [.ref (b0 (o0+1)), .int s0.1.1.2, .ref (b0 (o0+2)), .ref (b0 (o0+3)), .ref (b0 (o0+8))]))], W_Form k b0 (o0+1) s0.1.1.1.1.1.1 s0.1.1.1.1.1.2 s0.1.1.1.1.2 s0.1.1.1.2.1.1 s0.1.1.1.2.1.2 s0.1.1.1.2.2, [((b0 (o0+2)), .inl (k 0, 16, .inl s0.1.2))], W_Braid k b0 (o0+3) s0.2.1.1.1 s0.2.1.1.2 s0.2.1.2.1 s0.2.1.2.2, W_Braid k b0 (o0+8) s0.2.2.1.1 s0.2.2.1.2 s0.2.2.2.1 s0.2.2.2.2, [((b1 o1), .inr (5, [.ref (b1 (o1+1)), .int s1.1.1.2, .ref (b1 (o1+2)), .ref (b1 (o1+3)), .ref (b1 (o1+8))]))], W_Form k b1 (o1+1) s1.1.1.1.1.1.1 s1.1.1.1.1.1.2 s1.1.1.1.1.2 s1.1.1.1.2.1.1 s1.1.1.1.2.1.2 s1.1.1.1.2.2, [((b1 (o1+2)), .inl (k 0, 16, .inl s1.1.2))], W_Braid k b1 (o1+3) s1.2.1.1.1 s1.2.1.1.2 s1.2.1.2.1 s1.2.1.2.2, W_Braid k b1 (o1+8) s1.2.2.1.1 s1.2.2.1.2 s1.2.2.2.1 s1.2.2.2.2].flatten _ := hP
  have hD : va_D A [[((b0 o0), .inr (5, [.ref (b0 (o0+1)), .int s0.1.1.2, .ref (b0 (o0+2)), .ref (b0 (o0+3)), .ref (b0 (o0+8))]))], W_Form k b0 (o0+1) s0.1.1.1.1.1.1 s0.1.1.1.1.1.2 s0.1.1.1.1.2 s0.1.1.1.2.1.1 s0.1.1.1.2.1.2 s0.1.1.1.2.2, [((b0 (o0+2)), .inl (k 0, 16, .inl s0.1.2))], W_Braid k b0 (o0+3) s0.2.1.1.1 s0.2.1.1.2 s0.2.1.2.1 s0.2.1.2.2, W_Braid k b0 (o0+8) s0.2.2.1.1 s0.2.2.1.2 s0.2.2.2.1 s0.2.2.2.2, [((b1 o1), .inr (5, [.ref (b1 (o1+1)), .int s1.1.1.2, .ref (b1 (o1+2)), .ref (b1 (o1+3)), .ref (b1 (o1+8))]))], W_Form k b1 (o1+1) s1.1.1.1.1.1.1 s1.1.1.1.1.1.2 s1.1.1.1.1.2 s1.1.1.1.2.1.1 s1.1.1.1.2.1.2 s1.1.1.1.2.2, [((b1 (o1+2)), .inl (k 0, 16, .inl s1.1.2))], W_Braid k b1 (o1+3) s1.2.1.1.1 s1.2.1.1.2 s1.2.1.2.1 s1.2.1.2.2, W_Braid k b1 (o1+8) s1.2.2.1.1 s1.2.2.1.2 s1.2.2.2.1 s1.2.2.2.2].flatten := hD
  refine kcV (bs := [[((b0 o0), .inr (5, [.ref (b0 (o0+1)), .int s0.1.1.2, .ref (b0 (o0+2)), .ref (b0 (o0+3)), .ref (b0 (o0+8))]))], W_Form k b0 (o0+1) s0.1.1.1.1.1.1 s0.1.1.1.1.1.2 s0.1.1.1.1.2 s0.1.1.1.2.1.1 s0.1.1.1.2.1.2 s0.1.1.1.2.2, [((b0 (o0+2)), .inl (k 0, 16, .inl s0.1.2))], W_Braid k b0 (o0+3) s0.2.1.1.1 s0.2.1.1.2 s0.2.1.2.1 s0.2.1.2.2, W_Braid k b0 (o0+8) s0.2.2.1.1 s0.2.2.1.2 s0.2.2.2.1 s0.2.2.2.2, [((b1 o1), .inr (5, [.ref (b1 (o1+1)), .int s1.1.1.2, .ref (b1 (o1+2)), .ref (b1 (o1+3)), .ref (b1 (o1+8))]))], W_Form k b1 (o1+1) s1.1.1.1.1.1.1 s1.1.1.1.1.1.2 s1.1.1.1.1.2 s1.1.1.1.2.1.1 s1.1.1.1.2.1.2 s1.1.1.1.2.2, [((b1 (o1+2)), .inl (k 0, 16, .inl s1.1.2))], W_Braid k b1 (o1+3) s1.2.1.1.1 s1.2.1.1.2 s1.2.1.2.1 s1.2.1.2.2, W_Braid k b1 (o1+8) s1.2.2.1.1 s1.2.2.1.2 s1.2.2.2.1 s1.2.2.2.2]) (br := [[((b0 o0), .inr (5, [.ref (b0 (o0+1)), .int s0.1.1.2, .ref (b0 (o0+2)), .ref (b0 (o0+3)), .ref (b0 (o0+8))]))], [((b0 (o0+2)), .inl (k 0, 16, .inl s0.1.2))], W_Braid k b0 (o0+3) s0.2.1.1.1 s0.2.1.1.2 s0.2.1.2.1 s0.2.1.2.2, W_Braid k b0 (o0+8) s0.2.2.1.1 s0.2.2.1.2 s0.2.2.2.1 s0.2.2.2.2, [((b1 o1), .inr (5, [.ref (b1 (o1+1)), .int s1.1.1.2, .ref (b1 (o1+2)), .ref (b1 (o1+3)), .ref (b1 (o1+8))]))], [((b1 (o1+2)), .inl (k 0, 16, .inl s1.1.2))], W_Braid k b1 (o1+3) s1.2.1.1.1 s1.2.1.1.2 s1.2.1.2.1 s1.2.1.2.2, W_Braid k b1 (o1+8) s1.2.2.1.1 s1.2.2.1.2 s1.2.2.2.1 s1.2.2.2.2]) (bc := [W_Form k b0 (o0+1) s0.1.1.1.1.1.1 s0.1.1.1.1.1.2 s0.1.1.1.1.2 s0.1.1.1.2.1.1 s0.1.1.1.2.1.2 s0.1.1.1.2.2, W_Form k b1 (o1+1) s1.1.1.1.1.1.1 s1.1.1.1.1.1.2 s1.1.1.1.1.2 s1.1.1.1.2.1.1 s1.1.1.1.2.1.2 s1.1.1.1.2.2]) (bc' := [W_Form k b0 (o0+1) s1.1.1.1.1.1.1 s1.1.1.1.1.1.2 s1.1.1.1.1.2 s1.1.1.1.2.1.1 s1.1.1.1.2.1.2 s1.1.1.1.2.2, W_Form k b1 (o1+1) s1.1.1.1.1.1.1 s1.1.1.1.1.1.2 s1.1.1.1.1.2 s1.1.1.1.2.1.1 s1.1.1.1.2.1.2 s1.1.1.1.2.2]) X hP hD hS (c_Form_copyFrom l D k t b0 (o0+1) s0.1.1.1.1.1.1 s0.1.1.1.1.1.2 s0.1.1.1.1.2 s0.1.1.1.2.1.1 s0.1.1.1.2.1.2 s0.1.1.1.2.2 b1 (o1+1) s1.1.1.1.1.1.1 s1.1.1.1.1.1.2 s1.1.1.1.1.2 s1.1.1.1.2.1.1 s1.1.1.1.2.1.2 s1.1.1.1.2.2) mv_X5_32 hl [0, 2, 3, 4, 5, 7, 8, 9] [1, 6] 3 ⟨rfl, rfl⟩ ⟨Nat.le_of_ble_eq_true rfl, Nat.le_of_ble_eq_true rfl⟩ rfl rfl rfl rfl rfl rfl rfl (Nat.le_of_ble_eq_true rfl) dX5_copyFrom_8 (fun H locs hP hD hS => ?_)
  have hP : va_P D vwCl [[((b0 o0), .inr (5, [.ref (b0 (o0+1)), .int s0.1.1.2, .ref (b0 (o0+2)), .ref (b0 (o0+3)), .ref (b0 (o0+8))]))], [((b0 (o0+2)), .inl (k 0, 16, .inl s0.1.2))], W_Braid k b0 (o0+3) s0.2.1.1.1 s0.2.1.1.2 s0.2.1.2.1 s0.2.1.2.2, W_Braid k b0 (o0+8) s0.2.2.1.1 s0.2.2.1.2 s0.2.2.2.1 s0.2.2.2.2, [((b1 o1), .inr (5, [.ref (b1 (o1+1)), .int s1.1.1.2, .ref (b1 (o1+2)), .ref (b1 (o1+3)), .ref (b1 (o1+8))]))], [((b1 (o1+2)), .inl (k 0, 16, .inl s1.1.2))], W_Braid k b1 (o1+3) s1.2.1.1.1 s1.2.1.1.2 s1.2.1.2.1 s1.2.1.2.2, W_Braid k b1 (o1+8) s1.2.2.1.1 s1.2.2.1.2 s1.2.2.2.1 s1.2.2.2.2, W_Form k b0 (o0+1) s1.1.1.1.1.1.1 s1.1.1.1.1.1.2 s1.1.1.1.1.2 s1.1.1.1.2.1.1 s1.1.1.1.2.1.2 s1.1.1.1.2.2, W_Form k b1 (o1+1) s1.1.1.1.1.1.1 s1.1.1.1.1.1.2 s1.1.1.1.1.2 s1.1.1.1.2.1.1 s1.1.1.1.2.1.2 s1.1.1.1.2.2].flatten _ := hP
  have hD : va_D A [[((b0 o0), .inr (5, [.ref (b0 (o0+1)), .int s0.1.1.2, .ref (b0 (o0+2)), .ref (b0 (o0+3)), .ref (b0 (o0+8))]))], [((b0 (o0+2)), .inl (k 0, 16, .inl s0.1.2))], W_Braid k b0 (o0+3) s0.2.1.1.1 s0.2.1.1.2 s0.2.1.2.1 s0.2.1.2.2, W_Braid k b0 (o0+8) s0.2.2.1.1 s0.2.2.1.2 s0.2.2.2.1 s0.2.2.2.2, [((b1 o1), .inr (5, [.ref (b1 (o1+1)), .int s1.1.1.2, .ref (b1 (o1+2)), .ref (b1 (o1+3)), .ref (b1 (o1+8))]))], [((b1 (o1+2)), .inl (k 0, 16, .inl s1.1.2))], W_Braid k b1 (o1+3) s1.2.1.1.1 s1.2.1.1.2 s1.2.1.2.1 s1.2.1.2.2, W_Braid k b1 (o1+8) s1.2.2.1.1 s1.2.2.1.2 s1.2.2.2.1 s1.2.2.2.2, W_Form k b0 (o0+1) s1.1.1.1.1.1.1 s1.1.1.1.1.1.2 s1.1.1.1.1.2 s1.1.1.1.2.1.1 s1.1.1.1.2.1.2 s1.1.1.1.2.2, W_Form k b1 (o1+1) s1.1.1.1.1.1.1 s1.1.1.1.1.1.2 s1.1.1.1.1.2 s1.1.1.1.2.1.1 s1.1.1.1.2.1.2 s1.1.1.1.2.2].flatten := hD
  refine lv_aload_n hx hb dX5_copyFrom_11 rfl (lv_at hl 0 rfl) ?_
  refine lv_aload_n hx hb dX5_copyFrom_12 rfl (lv_at hl 1 rfl) ?_
  refine kget (v := .int s1.1.1.2) X hP ff_X5_36 12 rfl rfl dX5_copyFrom_13 ?_
  refine kputi (v := s1.1.1.2) X hP hD hS fp_X5_36 0 rfl (Nat.le_of_ble_eq_true rfl) dX5_copyFrom_16 (fun H locs hP hD hS => ?_)
  have hP : va_P D vwCl [[((b0 o0), .inr (5, [.ref (b0 (o0+1)), .int s1.1.1.2, .ref (b0 (o0+2)), .ref (b0 (o0+3)), .ref (b0 (o0+8))]))], [((b0 (o0+2)), .inl (k 0, 16, .inl s0.1.2))], W_Braid k b0 (o0+3) s0.2.1.1.1 s0.2.1.1.2 s0.2.1.2.1 s0.2.1.2.2, W_Braid k b0 (o0+8) s0.2.2.1.1 s0.2.2.1.2 s0.2.2.2.1 s0.2.2.2.2, [((b1 o1), .inr (5, [.ref (b1 (o1+1)), .int s1.1.1.2, .ref (b1 (o1+2)), .ref (b1 (o1+3)), .ref (b1 (o1+8))]))], [((b1 (o1+2)), .inl (k 0, 16, .inl s1.1.2))], W_Braid k b1 (o1+3) s1.2.1.1.1 s1.2.1.1.2 s1.2.1.2.1 s1.2.1.2.2, W_Braid k b1 (o1+8) s1.2.2.1.1 s1.2.2.1.2 s1.2.2.2.1 s1.2.2.2.2, W_Form k b0 (o0+1) s1.1.1.1.1.1.1 s1.1.1.1.1.1.2 s1.1.1.1.1.2 s1.1.1.1.2.1.1 s1.1.1.1.2.1.2 s1.1.1.1.2.2, W_Form k b1 (o1+1) s1.1.1.1.1.1.1 s1.1.1.1.1.1.2 s1.1.1.1.1.2 s1.1.1.1.2.1.1 s1.1.1.1.2.1.2 s1.1.1.1.2.2].flatten _ := hP
  have hD : va_D A [[((b0 o0), .inr (5, [.ref (b0 (o0+1)), .int s1.1.1.2, .ref (b0 (o0+2)), .ref (b0 (o0+3)), .ref (b0 (o0+8))]))], [((b0 (o0+2)), .inl (k 0, 16, .inl s0.1.2))], W_Braid k b0 (o0+3) s0.2.1.1.1 s0.2.1.1.2 s0.2.1.2.1 s0.2.1.2.2, W_Braid k b0 (o0+8) s0.2.2.1.1 s0.2.2.1.2 s0.2.2.2.1 s0.2.2.2.2, [((b1 o1), .inr (5, [.ref (b1 (o1+1)), .int s1.1.1.2, .ref (b1 (o1+2)), .ref (b1 (o1+3)), .ref (b1 (o1+8))]))], [((b1 (o1+2)), .inl (k 0, 16, .inl s1.1.2))], W_Braid k b1 (o1+3) s1.2.1.1.1 s1.2.1.1.2 s1.2.1.2.1 s1.2.1.2.2, W_Braid k b1 (o1+8) s1.2.2.1.1 s1.2.2.1.2 s1.2.2.2.1 s1.2.2.2.2, W_Form k b0 (o0+1) s1.1.1.1.1.1.1 s1.1.1.1.1.1.2 s1.1.1.1.1.2 s1.1.1.1.2.1.1 s1.1.1.1.2.1.2 s1.1.1.1.2.2, W_Form k b1 (o1+1) s1.1.1.1.1.1.1 s1.1.1.1.1.1.2 s1.1.1.1.1.2 s1.1.1.1.2.1.1 s1.1.1.1.2.1.2 s1.1.1.1.2.2].flatten := hD
  refine lv_aload_n hx hb dX5_copyFrom_19 rfl (lv_at hl 1 rfl) ?_
  refine kget (v := .ref (b1 (o1+2))) X hP ff_X5_18 12 rfl rfl dX5_copyFrom_20 ?_
  refine lv_iconst (v := 0) hx hb dX5_copyFrom_23 (by decide) ?_
  refine lv_aload_n hx hb dX5_copyFrom_24 rfl (lv_at hl 0 rfl) ?_
  refine kget (v := .ref (b0 (o0+2))) X hP ff_X5_18 0 rfl rfl dX5_copyFrom_25 ?_
  refine lv_iconst (v := 0) hx hb dX5_copyFrom_28 (by decide) ?_
  refine lv_bipush (v := 16) hx hb dX5_copyFrom_29 (by decide) ?_
  refine kcpyi (f := s1.1.2) (g := s0.1.2) X hl hP hD hS mj_X5_40 13 1 rfl rfl rfl (Nat.le_of_ble_eq_true rfl) (Nat.le_of_ble_eq_true rfl) dX5_copyFrom_31 (fun H locs hP hD hS => ?_)
  have hP : va_P D vwCl [[((b0 o0), .inr (5, [.ref (b0 (o0+1)), .int s1.1.1.2, .ref (b0 (o0+2)), .ref (b0 (o0+3)), .ref (b0 (o0+8))]))], [((b0 (o0+2)), .inl (k 0, 16, .inl s1.1.2))], W_Braid k b0 (o0+3) s0.2.1.1.1 s0.2.1.1.2 s0.2.1.2.1 s0.2.1.2.2, W_Braid k b0 (o0+8) s0.2.2.1.1 s0.2.2.1.2 s0.2.2.2.1 s0.2.2.2.2, [((b1 o1), .inr (5, [.ref (b1 (o1+1)), .int s1.1.1.2, .ref (b1 (o1+2)), .ref (b1 (o1+3)), .ref (b1 (o1+8))]))], [((b1 (o1+2)), .inl (k 0, 16, .inl s1.1.2))], W_Braid k b1 (o1+3) s1.2.1.1.1 s1.2.1.1.2 s1.2.1.2.1 s1.2.1.2.2, W_Braid k b1 (o1+8) s1.2.2.1.1 s1.2.2.1.2 s1.2.2.2.1 s1.2.2.2.2, W_Form k b0 (o0+1) s1.1.1.1.1.1.1 s1.1.1.1.1.1.2 s1.1.1.1.1.2 s1.1.1.1.2.1.1 s1.1.1.1.2.1.2 s1.1.1.1.2.2, W_Form k b1 (o1+1) s1.1.1.1.1.1.1 s1.1.1.1.1.1.2 s1.1.1.1.1.2 s1.1.1.1.2.1.1 s1.1.1.1.2.1.2 s1.1.1.1.2.2].flatten _ := hP
  have hD : va_D A [[((b0 o0), .inr (5, [.ref (b0 (o0+1)), .int s1.1.1.2, .ref (b0 (o0+2)), .ref (b0 (o0+3)), .ref (b0 (o0+8))]))], [((b0 (o0+2)), .inl (k 0, 16, .inl s1.1.2))], W_Braid k b0 (o0+3) s0.2.1.1.1 s0.2.1.1.2 s0.2.1.2.1 s0.2.1.2.2, W_Braid k b0 (o0+8) s0.2.2.1.1 s0.2.2.1.2 s0.2.2.2.1 s0.2.2.2.2, [((b1 o1), .inr (5, [.ref (b1 (o1+1)), .int s1.1.1.2, .ref (b1 (o1+2)), .ref (b1 (o1+3)), .ref (b1 (o1+8))]))], [((b1 (o1+2)), .inl (k 0, 16, .inl s1.1.2))], W_Braid k b1 (o1+3) s1.2.1.1.1 s1.2.1.1.2 s1.2.1.2.1 s1.2.1.2.2, W_Braid k b1 (o1+8) s1.2.2.1.1 s1.2.2.1.2 s1.2.2.2.1 s1.2.2.2.2, W_Form k b0 (o0+1) s1.1.1.1.1.1.1 s1.1.1.1.1.1.2 s1.1.1.1.1.2 s1.1.1.1.2.1.1 s1.1.1.1.2.1.2 s1.1.1.1.2.2, W_Form k b1 (o1+1) s1.1.1.1.1.1.1 s1.1.1.1.1.1.2 s1.1.1.1.1.2 s1.1.1.1.2.1.1 s1.1.1.1.2.1.2 s1.1.1.1.2.2].flatten := hD
  refine lv_aload_n hx hb dX5_copyFrom_34 rfl (lv_at hl 0 rfl) ?_
  refine kget (v := .ref (b0 (o0+3))) X hP ff_X5_25 0 rfl rfl dX5_copyFrom_35 ?_
  refine lv_aload_n hx hb dX5_copyFrom_38 rfl (lv_at hl 1 rfl) ?_
  refine kget (v := .ref (b1 (o1+3))) X hP ff_X5_25 12 rfl rfl dX5_copyFrom_39 ?_
  refine kcV (bs := [[((b0 o0), .inr (5, [.ref (b0 (o0+1)), .int s1.1.1.2, .ref (b0 (o0+2)), .ref (b0 (o0+3)), .ref (b0 (o0+8))]))], [((b0 (o0+2)), .inl (k 0, 16, .inl s1.1.2))], W_Braid k b0 (o0+3) s0.2.1.1.1 s0.2.1.1.2 s0.2.1.2.1 s0.2.1.2.2, W_Braid k b0 (o0+8) s0.2.2.1.1 s0.2.2.1.2 s0.2.2.2.1 s0.2.2.2.2, [((b1 o1), .inr (5, [.ref (b1 (o1+1)), .int s1.1.1.2, .ref (b1 (o1+2)), .ref (b1 (o1+3)), .ref (b1 (o1+8))]))], [((b1 (o1+2)), .inl (k 0, 16, .inl s1.1.2))], W_Braid k b1 (o1+3) s1.2.1.1.1 s1.2.1.1.2 s1.2.1.2.1 s1.2.1.2.2, W_Braid k b1 (o1+8) s1.2.2.1.1 s1.2.2.1.2 s1.2.2.2.1 s1.2.2.2.2, W_Form k b0 (o0+1) s1.1.1.1.1.1.1 s1.1.1.1.1.1.2 s1.1.1.1.1.2 s1.1.1.1.2.1.1 s1.1.1.1.2.1.2 s1.1.1.1.2.2, W_Form k b1 (o1+1) s1.1.1.1.1.1.1 s1.1.1.1.1.1.2 s1.1.1.1.1.2 s1.1.1.1.2.1.1 s1.1.1.1.2.1.2 s1.1.1.1.2.2]) (br := [[((b0 o0), .inr (5, [.ref (b0 (o0+1)), .int s1.1.1.2, .ref (b0 (o0+2)), .ref (b0 (o0+3)), .ref (b0 (o0+8))]))], [((b0 (o0+2)), .inl (k 0, 16, .inl s1.1.2))], W_Braid k b0 (o0+8) s0.2.2.1.1 s0.2.2.1.2 s0.2.2.2.1 s0.2.2.2.2, [((b1 o1), .inr (5, [.ref (b1 (o1+1)), .int s1.1.1.2, .ref (b1 (o1+2)), .ref (b1 (o1+3)), .ref (b1 (o1+8))]))], [((b1 (o1+2)), .inl (k 0, 16, .inl s1.1.2))], W_Braid k b1 (o1+8) s1.2.2.1.1 s1.2.2.1.2 s1.2.2.2.1 s1.2.2.2.2, W_Form k b0 (o0+1) s1.1.1.1.1.1.1 s1.1.1.1.1.1.2 s1.1.1.1.1.2 s1.1.1.1.2.1.1 s1.1.1.1.2.1.2 s1.1.1.1.2.2, W_Form k b1 (o1+1) s1.1.1.1.1.1.1 s1.1.1.1.1.1.2 s1.1.1.1.1.2 s1.1.1.1.2.1.1 s1.1.1.1.2.1.2 s1.1.1.1.2.2]) (bc := [W_Braid k b0 (o0+3) s0.2.1.1.1 s0.2.1.1.2 s0.2.1.2.1 s0.2.1.2.2, W_Braid k b1 (o1+3) s1.2.1.1.1 s1.2.1.1.2 s1.2.1.2.1 s1.2.1.2.2]) (bc' := [W_Braid k b0 (o0+3) s1.2.1.1.1 s1.2.1.1.2 s1.2.1.2.1 s1.2.1.2.2, W_Braid k b1 (o1+3) s1.2.1.1.1 s1.2.1.1.2 s1.2.1.2.1 s1.2.1.2.2]) X hP hD hS (c_Braid_copyFrom l D k t b0 (o0+3) s0.2.1.1.1 s0.2.1.1.2 s0.2.1.2.1 s0.2.1.2.2 b1 (o1+3) s1.2.1.1.1 s1.2.1.1.2 s1.2.1.2.1 s1.2.1.2.2) mv_X5_46 hl [0, 1, 3, 4, 5, 7, 8, 9] [2, 6] 1 ⟨rfl, rfl⟩ ⟨Nat.le_of_ble_eq_true rfl, Nat.le_of_ble_eq_true rfl⟩ rfl rfl rfl rfl rfl rfl rfl (Nat.le_of_ble_eq_true rfl) dX5_copyFrom_42 (fun H locs hP hD hS => ?_)
  have hP : va_P D vwCl [[((b0 o0), .inr (5, [.ref (b0 (o0+1)), .int s1.1.1.2, .ref (b0 (o0+2)), .ref (b0 (o0+3)), .ref (b0 (o0+8))]))], [((b0 (o0+2)), .inl (k 0, 16, .inl s1.1.2))], W_Braid k b0 (o0+8) s0.2.2.1.1 s0.2.2.1.2 s0.2.2.2.1 s0.2.2.2.2, [((b1 o1), .inr (5, [.ref (b1 (o1+1)), .int s1.1.1.2, .ref (b1 (o1+2)), .ref (b1 (o1+3)), .ref (b1 (o1+8))]))], [((b1 (o1+2)), .inl (k 0, 16, .inl s1.1.2))], W_Braid k b1 (o1+8) s1.2.2.1.1 s1.2.2.1.2 s1.2.2.2.1 s1.2.2.2.2, W_Form k b0 (o0+1) s1.1.1.1.1.1.1 s1.1.1.1.1.1.2 s1.1.1.1.1.2 s1.1.1.1.2.1.1 s1.1.1.1.2.1.2 s1.1.1.1.2.2, W_Form k b1 (o1+1) s1.1.1.1.1.1.1 s1.1.1.1.1.1.2 s1.1.1.1.1.2 s1.1.1.1.2.1.1 s1.1.1.1.2.1.2 s1.1.1.1.2.2, W_Braid k b0 (o0+3) s1.2.1.1.1 s1.2.1.1.2 s1.2.1.2.1 s1.2.1.2.2, W_Braid k b1 (o1+3) s1.2.1.1.1 s1.2.1.1.2 s1.2.1.2.1 s1.2.1.2.2].flatten _ := hP
  have hD : va_D A [[((b0 o0), .inr (5, [.ref (b0 (o0+1)), .int s1.1.1.2, .ref (b0 (o0+2)), .ref (b0 (o0+3)), .ref (b0 (o0+8))]))], [((b0 (o0+2)), .inl (k 0, 16, .inl s1.1.2))], W_Braid k b0 (o0+8) s0.2.2.1.1 s0.2.2.1.2 s0.2.2.2.1 s0.2.2.2.2, [((b1 o1), .inr (5, [.ref (b1 (o1+1)), .int s1.1.1.2, .ref (b1 (o1+2)), .ref (b1 (o1+3)), .ref (b1 (o1+8))]))], [((b1 (o1+2)), .inl (k 0, 16, .inl s1.1.2))], W_Braid k b1 (o1+8) s1.2.2.1.1 s1.2.2.1.2 s1.2.2.2.1 s1.2.2.2.2, W_Form k b0 (o0+1) s1.1.1.1.1.1.1 s1.1.1.1.1.1.2 s1.1.1.1.1.2 s1.1.1.1.2.1.1 s1.1.1.1.2.1.2 s1.1.1.1.2.2, W_Form k b1 (o1+1) s1.1.1.1.1.1.1 s1.1.1.1.1.1.2 s1.1.1.1.1.2 s1.1.1.1.2.1.1 s1.1.1.1.2.1.2 s1.1.1.1.2.2, W_Braid k b0 (o0+3) s1.2.1.1.1 s1.2.1.1.2 s1.2.1.2.1 s1.2.1.2.2, W_Braid k b1 (o1+3) s1.2.1.1.1 s1.2.1.1.2 s1.2.1.2.1 s1.2.1.2.2].flatten := hD
  refine lv_aload_n hx hb dX5_copyFrom_45 rfl (lv_at hl 0 rfl) ?_
  refine kget (v := .ref (b0 (o0+8))) X hP ff_X5_29 0 rfl rfl dX5_copyFrom_46 ?_
  refine lv_aload_n hx hb dX5_copyFrom_49 rfl (lv_at hl 1 rfl) ?_
  refine kget (v := .ref (b1 (o1+8))) X hP ff_X5_29 7 rfl rfl dX5_copyFrom_50 ?_
  refine kcV (bs := [[((b0 o0), .inr (5, [.ref (b0 (o0+1)), .int s1.1.1.2, .ref (b0 (o0+2)), .ref (b0 (o0+3)), .ref (b0 (o0+8))]))], [((b0 (o0+2)), .inl (k 0, 16, .inl s1.1.2))], W_Braid k b0 (o0+8) s0.2.2.1.1 s0.2.2.1.2 s0.2.2.2.1 s0.2.2.2.2, [((b1 o1), .inr (5, [.ref (b1 (o1+1)), .int s1.1.1.2, .ref (b1 (o1+2)), .ref (b1 (o1+3)), .ref (b1 (o1+8))]))], [((b1 (o1+2)), .inl (k 0, 16, .inl s1.1.2))], W_Braid k b1 (o1+8) s1.2.2.1.1 s1.2.2.1.2 s1.2.2.2.1 s1.2.2.2.2, W_Form k b0 (o0+1) s1.1.1.1.1.1.1 s1.1.1.1.1.1.2 s1.1.1.1.1.2 s1.1.1.1.2.1.1 s1.1.1.1.2.1.2 s1.1.1.1.2.2, W_Form k b1 (o1+1) s1.1.1.1.1.1.1 s1.1.1.1.1.1.2 s1.1.1.1.1.2 s1.1.1.1.2.1.1 s1.1.1.1.2.1.2 s1.1.1.1.2.2, W_Braid k b0 (o0+3) s1.2.1.1.1 s1.2.1.1.2 s1.2.1.2.1 s1.2.1.2.2, W_Braid k b1 (o1+3) s1.2.1.1.1 s1.2.1.1.2 s1.2.1.2.1 s1.2.1.2.2]) (br := [[((b0 o0), .inr (5, [.ref (b0 (o0+1)), .int s1.1.1.2, .ref (b0 (o0+2)), .ref (b0 (o0+3)), .ref (b0 (o0+8))]))], [((b0 (o0+2)), .inl (k 0, 16, .inl s1.1.2))], [((b1 o1), .inr (5, [.ref (b1 (o1+1)), .int s1.1.1.2, .ref (b1 (o1+2)), .ref (b1 (o1+3)), .ref (b1 (o1+8))]))], [((b1 (o1+2)), .inl (k 0, 16, .inl s1.1.2))], W_Form k b0 (o0+1) s1.1.1.1.1.1.1 s1.1.1.1.1.1.2 s1.1.1.1.1.2 s1.1.1.1.2.1.1 s1.1.1.1.2.1.2 s1.1.1.1.2.2, W_Form k b1 (o1+1) s1.1.1.1.1.1.1 s1.1.1.1.1.1.2 s1.1.1.1.1.2 s1.1.1.1.2.1.1 s1.1.1.1.2.1.2 s1.1.1.1.2.2, W_Braid k b0 (o0+3) s1.2.1.1.1 s1.2.1.1.2 s1.2.1.2.1 s1.2.1.2.2, W_Braid k b1 (o1+3) s1.2.1.1.1 s1.2.1.1.2 s1.2.1.2.1 s1.2.1.2.2]) (bc := [W_Braid k b0 (o0+8) s0.2.2.1.1 s0.2.2.1.2 s0.2.2.2.1 s0.2.2.2.2, W_Braid k b1 (o1+8) s1.2.2.1.1 s1.2.2.1.2 s1.2.2.2.1 s1.2.2.2.2]) (bc' := [W_Braid k b0 (o0+8) s1.2.2.1.1 s1.2.2.1.2 s1.2.2.2.1 s1.2.2.2.2, W_Braid k b1 (o1+8) s1.2.2.1.1 s1.2.2.1.2 s1.2.2.2.1 s1.2.2.2.2]) X hP hD hS (c_Braid_copyFrom l D k t b0 (o0+8) s0.2.2.1.1 s0.2.2.1.2 s0.2.2.2.1 s0.2.2.2.2 b1 (o1+8) s1.2.2.1.1 s1.2.2.1.2 s1.2.2.2.1 s1.2.2.2.2) mv_X5_46 hl [0, 1, 3, 4, 6, 7, 8, 9] [2, 5] 1 ⟨rfl, rfl⟩ ⟨Nat.le_of_ble_eq_true rfl, Nat.le_of_ble_eq_true rfl⟩ rfl rfl rfl rfl rfl rfl rfl (Nat.le_of_ble_eq_true rfl) dX5_copyFrom_53 (fun H locs hP hD hS => ?_)
  have hP : va_P D vwCl [[((b0 o0), .inr (5, [.ref (b0 (o0+1)), .int s1.1.1.2, .ref (b0 (o0+2)), .ref (b0 (o0+3)), .ref (b0 (o0+8))]))], [((b0 (o0+2)), .inl (k 0, 16, .inl s1.1.2))], [((b1 o1), .inr (5, [.ref (b1 (o1+1)), .int s1.1.1.2, .ref (b1 (o1+2)), .ref (b1 (o1+3)), .ref (b1 (o1+8))]))], [((b1 (o1+2)), .inl (k 0, 16, .inl s1.1.2))], W_Form k b0 (o0+1) s1.1.1.1.1.1.1 s1.1.1.1.1.1.2 s1.1.1.1.1.2 s1.1.1.1.2.1.1 s1.1.1.1.2.1.2 s1.1.1.1.2.2, W_Form k b1 (o1+1) s1.1.1.1.1.1.1 s1.1.1.1.1.1.2 s1.1.1.1.1.2 s1.1.1.1.2.1.1 s1.1.1.1.2.1.2 s1.1.1.1.2.2, W_Braid k b0 (o0+3) s1.2.1.1.1 s1.2.1.1.2 s1.2.1.2.1 s1.2.1.2.2, W_Braid k b1 (o1+3) s1.2.1.1.1 s1.2.1.1.2 s1.2.1.2.1 s1.2.1.2.2, W_Braid k b0 (o0+8) s1.2.2.1.1 s1.2.2.1.2 s1.2.2.2.1 s1.2.2.2.2, W_Braid k b1 (o1+8) s1.2.2.1.1 s1.2.2.1.2 s1.2.2.2.1 s1.2.2.2.2].flatten _ := hP
  have hD : va_D A [[((b0 o0), .inr (5, [.ref (b0 (o0+1)), .int s1.1.1.2, .ref (b0 (o0+2)), .ref (b0 (o0+3)), .ref (b0 (o0+8))]))], [((b0 (o0+2)), .inl (k 0, 16, .inl s1.1.2))], [((b1 o1), .inr (5, [.ref (b1 (o1+1)), .int s1.1.1.2, .ref (b1 (o1+2)), .ref (b1 (o1+3)), .ref (b1 (o1+8))]))], [((b1 (o1+2)), .inl (k 0, 16, .inl s1.1.2))], W_Form k b0 (o0+1) s1.1.1.1.1.1.1 s1.1.1.1.1.1.2 s1.1.1.1.1.2 s1.1.1.1.2.1.1 s1.1.1.1.2.1.2 s1.1.1.1.2.2, W_Form k b1 (o1+1) s1.1.1.1.1.1.1 s1.1.1.1.1.1.2 s1.1.1.1.1.2 s1.1.1.1.2.1.1 s1.1.1.1.2.1.2 s1.1.1.1.2.2, W_Braid k b0 (o0+3) s1.2.1.1.1 s1.2.1.1.2 s1.2.1.2.1 s1.2.1.2.2, W_Braid k b1 (o1+3) s1.2.1.1.1 s1.2.1.1.2 s1.2.1.2.1 s1.2.1.2.2, W_Braid k b0 (o0+8) s1.2.2.1.1 s1.2.2.1.2 s1.2.2.2.1 s1.2.2.2.2, W_Braid k b1 (o1+8) s1.2.2.1.1 s1.2.2.1.2 s1.2.2.2.1 s1.2.2.2.2].flatten := hD
  obtain ⟨hP, hD⟩ := B_perm (br := [[((b0 o0), .inr (5, [.ref (b0 (o0+1)), .int s1.1.1.2, .ref (b0 (o0+2)), .ref (b0 (o0+3)), .ref (b0 (o0+8))]))], W_Form k b0 (o0+1) s1.1.1.1.1.1.1 s1.1.1.1.1.1.2 s1.1.1.1.1.2 s1.1.1.1.2.1.1 s1.1.1.1.2.1.2 s1.1.1.1.2.2, [((b0 (o0+2)), .inl (k 0, 16, .inl s1.1.2))], W_Braid k b0 (o0+3) s1.2.1.1.1 s1.2.1.1.2 s1.2.1.2.1 s1.2.1.2.2, W_Braid k b0 (o0+8) s1.2.2.1.1 s1.2.2.1.2 s1.2.2.2.1 s1.2.2.2.2, [((b1 o1), .inr (5, [.ref (b1 (o1+1)), .int s1.1.1.2, .ref (b1 (o1+2)), .ref (b1 (o1+3)), .ref (b1 (o1+8))]))], [((b1 (o1+2)), .inl (k 0, 16, .inl s1.1.2))], W_Form k b1 (o1+1) s1.1.1.1.1.1.1 s1.1.1.1.1.1.2 s1.1.1.1.1.2 s1.1.1.1.2.1.1 s1.1.1.1.2.1.2 s1.1.1.1.2.2, W_Braid k b1 (o1+3) s1.2.1.1.1 s1.2.1.1.2 s1.2.1.2.1 s1.2.1.2.2, W_Braid k b1 (o1+8) s1.2.2.1.1 s1.2.2.1.2 s1.2.2.2.1 s1.2.2.2.2]) hP hD [0, 4, 1, 6, 8, 2, 3, 5, 7, 9] rfl rfl
  have hP : va_P D vwCl [W_State k b0 o0 s1, [((b1 o1), .inr (5, [.ref (b1 (o1+1)), .int s1.1.1.2, .ref (b1 (o1+2)), .ref (b1 (o1+3)), .ref (b1 (o1+8))]))], [((b1 (o1+2)), .inl (k 0, 16, .inl s1.1.2))], W_Form k b1 (o1+1) s1.1.1.1.1.1.1 s1.1.1.1.1.1.2 s1.1.1.1.1.2 s1.1.1.1.2.1.1 s1.1.1.1.2.1.2 s1.1.1.1.2.2, W_Braid k b1 (o1+3) s1.2.1.1.1 s1.2.1.1.2 s1.2.1.2.1 s1.2.1.2.2, W_Braid k b1 (o1+8) s1.2.2.1.1 s1.2.2.1.2 s1.2.2.2.1 s1.2.2.2.2].flatten _ := hP
  have hD : va_D A [W_State k b0 o0 s1, [((b1 o1), .inr (5, [.ref (b1 (o1+1)), .int s1.1.1.2, .ref (b1 (o1+2)), .ref (b1 (o1+3)), .ref (b1 (o1+8))]))], [((b1 (o1+2)), .inl (k 0, 16, .inl s1.1.2))], W_Form k b1 (o1+1) s1.1.1.1.1.1.1 s1.1.1.1.1.1.2 s1.1.1.1.1.2 s1.1.1.1.2.1.1 s1.1.1.1.2.1.2 s1.1.1.1.2.2, W_Braid k b1 (o1+3) s1.2.1.1.1 s1.2.1.1.2 s1.2.1.2.1 s1.2.1.2.2, W_Braid k b1 (o1+8) s1.2.2.1.1 s1.2.2.1.2 s1.2.2.2.1 s1.2.2.2.2].flatten := hD
  obtain ⟨hP, hD⟩ := B_perm (br := [W_State k b0 o0 s1, [((b1 o1), .inr (5, [.ref (b1 (o1+1)), .int s1.1.1.2, .ref (b1 (o1+2)), .ref (b1 (o1+3)), .ref (b1 (o1+8))]))], W_Form k b1 (o1+1) s1.1.1.1.1.1.1 s1.1.1.1.1.1.2 s1.1.1.1.1.2 s1.1.1.1.2.1.1 s1.1.1.1.2.1.2 s1.1.1.1.2.2, [((b1 (o1+2)), .inl (k 0, 16, .inl s1.1.2))], W_Braid k b1 (o1+3) s1.2.1.1.1 s1.2.1.1.2 s1.2.1.2.1 s1.2.1.2.2, W_Braid k b1 (o1+8) s1.2.2.1.1 s1.2.2.1.2 s1.2.2.2.1 s1.2.2.2.2]) hP hD [0, 1, 3, 2, 4, 5] rfl rfl
  have hP : va_P D vwCl [W_State k b0 o0 s1, W_State k b1 o1 s1].flatten _ := hP
  have hD : va_D A [W_State k b0 o0 s1, W_State k b1 o1 s1].flatten := hD
  exact kvret X hP hD hS dX5_copyFrom_56
/-! State_empty: void empty(); -/
abbrev rm_State_empty : Room := ({ frames := 2, cells := 0, slots := 0, locals := 44 } : Room)
set_option maxRecDepth 100000 in
set_option maxHeartbeats 1000000 in
theorem c_State_empty (l : Launch) (D : va_G) (k : Nat → ClassId) (t : Nat → Nat) (b0 : Nat → Nat) (o0 : Nat) (s0 : StateS) : CT l D k t yX5_empty cX5_empty 1 none rm_State_empty [.ref (b0 o0)] [W_State k b0 o0 s0].flatten none [W_State k b0 o0 (u_State_second (u_State_first s0 ((fun _ => 0, fun _ => 0), (fun _ => 0, fun _ => 0))) ((fun _ => 0, fun _ => 0), (fun _ => 0, fun _ => 0)))].flatten := by
  refine kofW (by decide) (Nat.le_of_ble_eq_true rfl) ?_
  intro p e s m below meth c A ls X hP hD hS hl
  have hx := X.1.1
  have hb := X.1.2.1
  have hml := X.1.2.2.1
  have hown := X.1.2.2.2.1
  have hts := X.1.2.2.2.2
  have hl : lv_has ls 1 [(0, .ref (b0 o0))] := hl
  refine lv_aload_n hx hb dX5_empty_0 rfl (lv_at hl 0 rfl) ?_
  refine kget (v := .ref (b0 (o0+3))) X hP ff_X5_25 0 rfl rfl dX5_empty_1 ?_
  have hP : va_P D vwCl [[((b0 o0), .inr (5, [.ref (b0 (o0+1)), .int s0.1.1.2, .ref (b0 (o0+2)), .ref (b0 (o0+3)), .ref (b0 (o0+8))]))], W_Form k b0 (o0+1) s0.1.1.1.1.1.1 s0.1.1.1.1.1.2 s0.1.1.1.1.2 s0.1.1.1.2.1.1 s0.1.1.1.2.1.2 s0.1.1.1.2.2, [((b0 (o0+2)), .inl (k 0, 16, .inl s0.1.2))], W_Braid k b0 (o0+3) s0.2.1.1.1 s0.2.1.1.2 s0.2.1.2.1 s0.2.1.2.2, W_Braid k b0 (o0+8) s0.2.2.1.1 s0.2.2.1.2 s0.2.2.2.1 s0.2.2.2.2].flatten _ := hP
  have hD : va_D A [[((b0 o0), .inr (5, [.ref (b0 (o0+1)), .int s0.1.1.2, .ref (b0 (o0+2)), .ref (b0 (o0+3)), .ref (b0 (o0+8))]))], W_Form k b0 (o0+1) s0.1.1.1.1.1.1 s0.1.1.1.1.1.2 s0.1.1.1.1.2 s0.1.1.1.2.1.1 s0.1.1.1.2.1.2 s0.1.1.1.2.2, [((b0 (o0+2)), .inl (k 0, 16, .inl s0.1.2))], W_Braid k b0 (o0+3) s0.2.1.1.1 s0.2.1.1.2 s0.2.1.2.1 s0.2.1.2.2, W_Braid k b0 (o0+8) s0.2.2.1.1 s0.2.2.1.2 s0.2.2.2.1 s0.2.2.2.2].flatten := hD
  refine kcV (bs := [[((b0 o0), .inr (5, [.ref (b0 (o0+1)), .int s0.1.1.2, .ref (b0 (o0+2)), .ref (b0 (o0+3)), .ref (b0 (o0+8))]))], W_Form k b0 (o0+1) s0.1.1.1.1.1.1 s0.1.1.1.1.1.2 s0.1.1.1.1.2 s0.1.1.1.2.1.1 s0.1.1.1.2.1.2 s0.1.1.1.2.2, [((b0 (o0+2)), .inl (k 0, 16, .inl s0.1.2))], W_Braid k b0 (o0+3) s0.2.1.1.1 s0.2.1.1.2 s0.2.1.2.1 s0.2.1.2.2, W_Braid k b0 (o0+8) s0.2.2.1.1 s0.2.2.1.2 s0.2.2.2.1 s0.2.2.2.2]) (br := [[((b0 o0), .inr (5, [.ref (b0 (o0+1)), .int s0.1.1.2, .ref (b0 (o0+2)), .ref (b0 (o0+3)), .ref (b0 (o0+8))]))], W_Form k b0 (o0+1) s0.1.1.1.1.1.1 s0.1.1.1.1.1.2 s0.1.1.1.1.2 s0.1.1.1.2.1.1 s0.1.1.1.2.1.2 s0.1.1.1.2.2, [((b0 (o0+2)), .inl (k 0, 16, .inl s0.1.2))], W_Braid k b0 (o0+8) s0.2.2.1.1 s0.2.2.1.2 s0.2.2.2.1 s0.2.2.2.2]) (bc := [W_Braid k b0 (o0+3) s0.2.1.1.1 s0.2.1.1.2 s0.2.1.2.1 s0.2.1.2.2]) (bc' := [W_Braid k b0 (o0+3) (fun _ => 0) (fun _ => 0) (fun _ => 0) (fun _ => 0)]) X hP hD hS (c_Braid_empty l D k t b0 (o0+3) s0.2.1.1.1 s0.2.1.1.2 s0.2.1.2.1 s0.2.1.2.2) mv_X5_49 hl [0, 1, 2, 4] [3] 1 ⟨rfl, rfl⟩ ⟨Nat.le_of_ble_eq_true rfl, Nat.le_of_ble_eq_true rfl⟩ rfl rfl rfl rfl rfl rfl rfl (Nat.le_of_ble_eq_true rfl) dX5_empty_4 (fun H locs hP hD hS => ?_)
  have hP : va_P D vwCl [[((b0 o0), .inr (5, [.ref (b0 (o0+1)), .int s0.1.1.2, .ref (b0 (o0+2)), .ref (b0 (o0+3)), .ref (b0 (o0+8))]))], W_Form k b0 (o0+1) s0.1.1.1.1.1.1 s0.1.1.1.1.1.2 s0.1.1.1.1.2 s0.1.1.1.2.1.1 s0.1.1.1.2.1.2 s0.1.1.1.2.2, [((b0 (o0+2)), .inl (k 0, 16, .inl s0.1.2))], W_Braid k b0 (o0+8) s0.2.2.1.1 s0.2.2.1.2 s0.2.2.2.1 s0.2.2.2.2, W_Braid k b0 (o0+3) (fun _ => 0) (fun _ => 0) (fun _ => 0) (fun _ => 0)].flatten _ := hP
  have hD : va_D A [[((b0 o0), .inr (5, [.ref (b0 (o0+1)), .int s0.1.1.2, .ref (b0 (o0+2)), .ref (b0 (o0+3)), .ref (b0 (o0+8))]))], W_Form k b0 (o0+1) s0.1.1.1.1.1.1 s0.1.1.1.1.1.2 s0.1.1.1.1.2 s0.1.1.1.2.1.1 s0.1.1.1.2.1.2 s0.1.1.1.2.2, [((b0 (o0+2)), .inl (k 0, 16, .inl s0.1.2))], W_Braid k b0 (o0+8) s0.2.2.1.1 s0.2.2.1.2 s0.2.2.2.1 s0.2.2.2.2, W_Braid k b0 (o0+3) (fun _ => 0) (fun _ => 0) (fun _ => 0) (fun _ => 0)].flatten := hD
  refine lv_aload_n hx hb dX5_empty_7 rfl (lv_at hl 0 rfl) ?_
  refine kget (v := .ref (b0 (o0+8))) X hP ff_X5_29 0 rfl rfl dX5_empty_8 ?_
  refine kcV (bs := [[((b0 o0), .inr (5, [.ref (b0 (o0+1)), .int s0.1.1.2, .ref (b0 (o0+2)), .ref (b0 (o0+3)), .ref (b0 (o0+8))]))], W_Form k b0 (o0+1) s0.1.1.1.1.1.1 s0.1.1.1.1.1.2 s0.1.1.1.1.2 s0.1.1.1.2.1.1 s0.1.1.1.2.1.2 s0.1.1.1.2.2, [((b0 (o0+2)), .inl (k 0, 16, .inl s0.1.2))], W_Braid k b0 (o0+8) s0.2.2.1.1 s0.2.2.1.2 s0.2.2.2.1 s0.2.2.2.2, W_Braid k b0 (o0+3) (fun _ => 0) (fun _ => 0) (fun _ => 0) (fun _ => 0)]) (br := [[((b0 o0), .inr (5, [.ref (b0 (o0+1)), .int s0.1.1.2, .ref (b0 (o0+2)), .ref (b0 (o0+3)), .ref (b0 (o0+8))]))], W_Form k b0 (o0+1) s0.1.1.1.1.1.1 s0.1.1.1.1.1.2 s0.1.1.1.1.2 s0.1.1.1.2.1.1 s0.1.1.1.2.1.2 s0.1.1.1.2.2, [((b0 (o0+2)), .inl (k 0, 16, .inl s0.1.2))], W_Braid k b0 (o0+3) (fun _ => 0) (fun _ => 0) (fun _ => 0) (fun _ => 0)]) (bc := [W_Braid k b0 (o0+8) s0.2.2.1.1 s0.2.2.1.2 s0.2.2.2.1 s0.2.2.2.2]) (bc' := [W_Braid k b0 (o0+8) (fun _ => 0) (fun _ => 0) (fun _ => 0) (fun _ => 0)]) X hP hD hS (c_Braid_empty l D k t b0 (o0+8) s0.2.2.1.1 s0.2.2.1.2 s0.2.2.2.1 s0.2.2.2.2) mv_X5_49 hl [0, 1, 2, 4] [3] 1 ⟨rfl, rfl⟩ ⟨Nat.le_of_ble_eq_true rfl, Nat.le_of_ble_eq_true rfl⟩ rfl rfl rfl rfl rfl rfl rfl (Nat.le_of_ble_eq_true rfl) dX5_empty_11 (fun H locs hP hD hS => ?_)
  have hP : va_P D vwCl [[((b0 o0), .inr (5, [.ref (b0 (o0+1)), .int s0.1.1.2, .ref (b0 (o0+2)), .ref (b0 (o0+3)), .ref (b0 (o0+8))]))], W_Form k b0 (o0+1) s0.1.1.1.1.1.1 s0.1.1.1.1.1.2 s0.1.1.1.1.2 s0.1.1.1.2.1.1 s0.1.1.1.2.1.2 s0.1.1.1.2.2, [((b0 (o0+2)), .inl (k 0, 16, .inl s0.1.2))], W_Braid k b0 (o0+3) (fun _ => 0) (fun _ => 0) (fun _ => 0) (fun _ => 0), W_Braid k b0 (o0+8) (fun _ => 0) (fun _ => 0) (fun _ => 0) (fun _ => 0)].flatten _ := hP
  have hD : va_D A [[((b0 o0), .inr (5, [.ref (b0 (o0+1)), .int s0.1.1.2, .ref (b0 (o0+2)), .ref (b0 (o0+3)), .ref (b0 (o0+8))]))], W_Form k b0 (o0+1) s0.1.1.1.1.1.1 s0.1.1.1.1.1.2 s0.1.1.1.1.2 s0.1.1.1.2.1.1 s0.1.1.1.2.1.2 s0.1.1.1.2.2, [((b0 (o0+2)), .inl (k 0, 16, .inl s0.1.2))], W_Braid k b0 (o0+3) (fun _ => 0) (fun _ => 0) (fun _ => 0) (fun _ => 0), W_Braid k b0 (o0+8) (fun _ => 0) (fun _ => 0) (fun _ => 0) (fun _ => 0)].flatten := hD
  have hP : va_P D vwCl [W_State k b0 o0 (u_State_second (u_State_first s0 ((fun _ => 0, fun _ => 0), (fun _ => 0, fun _ => 0))) ((fun _ => 0, fun _ => 0), (fun _ => 0, fun _ => 0)))].flatten _ := hP
  have hD : va_D A [W_State k b0 o0 (u_State_second (u_State_first s0 ((fun _ => 0, fun _ => 0), (fun _ => 0, fun _ => 0))) ((fun _ => 0, fun _ => 0), (fun _ => 0, fun _ => 0)))].flatten := hD
  exact kvret X hP hD hS dX5_empty_14
/-! State_formNumber: int formNumber(int); -/
abbrev rm_State_formNumber : Room := ({ frames := 0, cells := 0, slots := 0, locals := 0 } : Room)
def f_State_formNumber (x1 : Int32) (v_form_counters : Int32) (v_form_bits : Int32) (v_form_functions : Int32) (v_form_countersAbove : Int32) (v_form_functionsAbove : Int32) (v_form_rounds : Int32) (v_flows : Int32) : Option (Int32) := if x1 = 0 then some v_form_counters else if x1 = 1 then some v_form_bits else if x1 = 2 then some v_form_functions else if x1 = 3 then some v_form_countersAbove else if x1 = 4 then some v_form_functionsAbove else if x1 = 5 then some v_form_rounds else some v_flows
abbrev Q_State_formNumber (below : List Frame) (D : va_G) (k : Nat → ClassId) (A : Nat → Prop) (args : Array Value) (s : State) (b0 : Nat → Nat) (o0 : Nat) (s0 : StateS) (out : Int32) : State → Prop := MQ below (QW D k A (some (.int out)) [W_State k b0 o0 s0].flatten) args s 0 0 A
set_option maxRecDepth 100000 in
set_option maxHeartbeats 1000000 in
theorem c_State_formNumber (l : Launch) (D : va_G) (k : Nat → ClassId) (t : Nat → Nat) (b0 : Nat → Nat) (o0 : Nat) (s0 : StateS) (x1 : Int32) (out : Int32) (hf : f_State_formNumber x1 s0.1.1.1.1.1.1 s0.1.1.1.1.1.2 s0.1.1.1.1.2 s0.1.1.1.2.1.1 s0.1.1.1.2.1.2 s0.1.1.1.2.2 s0.1.1.2 = some out) : CT l D k t yX5_formNumber cX5_formNumber 2 (some .int) rm_State_formNumber [.ref (b0 o0), .int x1] [W_State k b0 o0 s0].flatten (some (.int out)) [W_State k b0 o0 s0].flatten := by
  refine kofW (by decide) (Nat.le_of_ble_eq_true rfl) ?_
  intro p e s m below meth c A ls X hP hD hS hl
  have N : Nat := 0
  have hx := X.1.1
  have hb := X.1.2.1
  have hml := X.1.2.2.1
  have hown := X.1.2.2.2.1
  have hts := X.1.2.2.2.2
  have hl : lv_has ls 2 [(0, .ref (b0 o0)), (1, .int x1)] := hl
  rw [f_State_formNumber] at hf
  refine lv_iload_n hx hb dX5_formNumber_0 rfl (lv_at hl 1 rfl) ?_
  by_cases hs0 : x1 = 0
  · have hf := ofpos hf hs0
    refine lv_tableIn (tgt := 40) hx hb dX5_formNumber_1 (by rw [hs0]; decide) (by rw [hs0]; decide) (by rw [hs0]; rfl) (by decide) ?_
    refine lv_aload_n hx hb dX5_formNumber_40 rfl (lv_at hl 0 rfl) ?_
    refine kget (v := .ref (b0 (o0+1))) X hP ff_X5_12 0 rfl rfl dX5_formNumber_41 ?_
    refine kget (v := .int s0.1.1.1.1.1.1) X hP ff_X5_52 1 rfl rfl dX5_formNumber_44 ?_
    have hf := Option.some.inj hf
    subst hf
    exact kiret (v := s0.1.1.1.1.1.1) X hP hD hS dX5_formNumber_47
  · have hf := ofneg hf hs0
    by_cases hs1 : x1 = 1
    · have hf := ofpos hf hs1
      refine lv_tableIn (tgt := 48) hx hb dX5_formNumber_1 (by rw [hs1]; decide) (by rw [hs1]; decide) (by rw [hs1]; rfl) (by decide) ?_
      refine lv_aload_n hx hb dX5_formNumber_48 rfl (lv_at hl 0 rfl) ?_
      refine kget (v := .ref (b0 (o0+1))) X hP ff_X5_12 0 rfl rfl dX5_formNumber_49 ?_
      refine kget (v := .int s0.1.1.1.1.1.2) X hP ff_X5_55 1 rfl rfl dX5_formNumber_52 ?_
      have hf := Option.some.inj hf
      subst hf
      exact kiret (v := s0.1.1.1.1.1.2) X hP hD hS dX5_formNumber_55
    · have hf := ofneg hf hs1
      by_cases hs2 : x1 = 2
      · have hf := ofpos hf hs2
        refine lv_tableIn (tgt := 56) hx hb dX5_formNumber_1 (by rw [hs2]; decide) (by rw [hs2]; decide) (by rw [hs2]; rfl) (by decide) ?_
        refine lv_aload_n hx hb dX5_formNumber_56 rfl (lv_at hl 0 rfl) ?_
        refine kget (v := .ref (b0 (o0+1))) X hP ff_X5_12 0 rfl rfl dX5_formNumber_57 ?_
        refine kget (v := .int s0.1.1.1.1.2) X hP ff_X5_58 1 rfl rfl dX5_formNumber_60 ?_
        have hf := Option.some.inj hf
        subst hf
        exact kiret (v := s0.1.1.1.1.2) X hP hD hS dX5_formNumber_63
      · have hf := ofneg hf hs2
        by_cases hs3 : x1 = 3
        · have hf := ofpos hf hs3
          refine lv_tableIn (tgt := 64) hx hb dX5_formNumber_1 (by rw [hs3]; decide) (by rw [hs3]; decide) (by rw [hs3]; rfl) (by decide) ?_
          refine lv_aload_n hx hb dX5_formNumber_64 rfl (lv_at hl 0 rfl) ?_
          refine kget (v := .ref (b0 (o0+1))) X hP ff_X5_12 0 rfl rfl dX5_formNumber_65 ?_
          refine kget (v := .int s0.1.1.1.2.1.1) X hP ff_X5_61 1 rfl rfl dX5_formNumber_68 ?_
          have hf := Option.some.inj hf
          subst hf
          exact kiret (v := s0.1.1.1.2.1.1) X hP hD hS dX5_formNumber_71
        · have hf := ofneg hf hs3
          by_cases hs4 : x1 = 4
          · have hf := ofpos hf hs4
            refine lv_tableIn (tgt := 72) hx hb dX5_formNumber_1 (by rw [hs4]; decide) (by rw [hs4]; decide) (by rw [hs4]; rfl) (by decide) ?_
            refine lv_aload_n hx hb dX5_formNumber_72 rfl (lv_at hl 0 rfl) ?_
            refine kget (v := .ref (b0 (o0+1))) X hP ff_X5_12 0 rfl rfl dX5_formNumber_73 ?_
            refine kget (v := .int s0.1.1.1.2.1.2) X hP ff_X5_64 1 rfl rfl dX5_formNumber_76 ?_
            have hf := Option.some.inj hf
            subst hf
            exact kiret (v := s0.1.1.1.2.1.2) X hP hD hS dX5_formNumber_79
          · have hf := ofneg hf hs4
            by_cases hs5 : x1 = 5
            · have hf := ofpos hf hs5
              refine lv_tableIn (tgt := 80) hx hb dX5_formNumber_1 (by rw [hs5]; decide) (by rw [hs5]; decide) (by rw [hs5]; rfl) (by decide) ?_
              refine lv_aload_n hx hb dX5_formNumber_80 rfl (lv_at hl 0 rfl) ?_
              refine kget (v := .ref (b0 (o0+1))) X hP ff_X5_12 0 rfl rfl dX5_formNumber_81 ?_
              refine kget (v := .int s0.1.1.1.2.2) X hP ff_X5_67 1 rfl rfl dX5_formNumber_84 ?_
              have hf := Option.some.inj hf
              subst hf
              exact kiret (v := s0.1.1.1.2.2) X hP hD hS dX5_formNumber_87
            · have hf := ofneg hf hs5
              have hs0_ : ¬ x1.toInt = 0 := fun z => hs0 (Int32.toInt_inj.mp z)
              have hs1_ : ¬ x1.toInt = 1 := fun z => hs1 (Int32.toInt_inj.mp z)
              have hs2_ : ¬ x1.toInt = 2 := fun z => hs2 (Int32.toInt_inj.mp z)
              have hs3_ : ¬ x1.toInt = 3 := fun z => hs3 (Int32.toInt_inj.mp z)
              have hs4_ : ¬ x1.toInt = 4 := fun z => hs4 (Int32.toInt_inj.mp z)
              have hs5_ : ¬ x1.toInt = 5 := fun z => hs5 (Int32.toInt_inj.mp z)
              refine lv_tableOut (tgt := 88) hx hb dX5_formNumber_1 (by omega) (by decide) ?_
              refine lv_aload_n hx hb dX5_formNumber_88 rfl (lv_at hl 0 rfl) ?_
              refine kget (v := .int s0.1.1.2) X hP ff_X5_36 0 rfl rfl dX5_formNumber_89 ?_
              have hf := Option.some.inj hf
              subst hf
              exact kiret (v := s0.1.1.2) X hP hD hS dX5_formNumber_92
/-! State_find: int find(int); -/
abbrev rm_State_find : Room := ({ frames := 0, cells := 0, slots := 0, locals := 0 } : Room)
def f_State_find_L2 (i1 : Int32) (v_flows : Int32) (v_keys : FI) (K28 : Int32 → Option (Int32)) : Nat → Int32 → Option (Int32)
  | 0, _ => none
  | n + 1, i2 => if v_flows ≤ i2 then K28 i2 else if ck i2 16 = true then if (v_keys i2.toNatClampNeg) = i1 then some i2 else f_State_find_L2 i1 v_flows v_keys K28 n (i2 + 1) else none
def f_State_find (N : Nat) (x1 : Int32) (v_flows : Int32) (v_keys : FI) : Option (Int32) := f_State_find_L2 x1 v_flows v_keys (fun i3 => some (-1)) N 0
abbrev Q_State_find (below : List Frame) (D : va_G) (k : Nat → ClassId) (A : Nat → Prop) (args : Array Value) (s : State) (b0 : Nat → Nat) (o0 : Nat) (s0 : StateS) (out : Int32) : State → Prop := MQ below (QW D k A (some (.int out)) [W_State k b0 o0 s0].flatten) args s 0 0 A
set_option maxRecDepth 100000 in
set_option maxHeartbeats 1000000 in
theorem w_State_find_L2 {p : Program} {l : Launch} {e : Env} {s : State} {m : MethodId} {below : List Frame} {meth : Method} {c : Code} {args : Array Value} {A : Nat → Prop} {D : va_G} {k : Nat → ClassId} {t : Nat → Nat} (X : BX l D k t p s m args meth c cX5_find 3 RX5 (some .int) A) (b0 : Nat → Nat) (o0 : Nat) (s0 : StateS) (N : Nat) (i1 : Int32) (out : Int32) (K28 : Int32 → Option (Int32)) (hK28 : ∀ (i2' : Int32) (H : Heap) (locs : List Loc) (ls : Array Slot), va_P D vwCl [W_State k b0 o0 s0].flatten H → va_D A [W_State k b0 o0 s0].flatten → va_S A s.heap H locs → lv_has ls 3 [] → K28 i2' = some out → W p l e rm_State_find s m args below meth c H locs 0 0 (Q_State_find below D k A args s b0 o0 s0 out) (F0 m 28 ls [])) : ∀ (n : Nat) (i2 : Int32) (H : Heap) (locs : List Loc) (ls : Array Slot), va_P D vwCl [W_State k b0 o0 s0].flatten H → va_D A [W_State k b0 o0 s0].flatten → va_S A s.heap H locs → lv_has ls 3 [(0, .ref (b0 o0)), (1, .int i1), (2, .int i2)] → f_State_find_L2 i1 s0.1.1.2 s0.1.2 K28 n i2 = some out → W p l e rm_State_find s m args below meth c H locs 0 0 (Q_State_find below D k A args s b0 o0 s0 out) (F0 m 2 ls []) := by
  have hx := X.1.1
  have hb := X.1.2.1
  have hml := X.1.2.2.1
  have hown := X.1.2.2.2.1
  have hts := X.1.2.2.2.2
  intro n
  induction n with
  | zero =>
    intro i2 H locs ls hP hD hS hl hf
    rw [f_State_find_L2] at hf
    cases hf
  | succ n ih =>
    intro i2 H locs ls hP hD hS hl hf
    rw [f_State_find_L2] at hf
    refine lv_iload_n hx hb dX5_find_2 rfl (lv_at hl 2 rfl) ?_
    refine lv_aload_n hx hb dX5_find_3 rfl (lv_at hl 0 rfl) ?_
    refine kget (v := .int s0.1.1.2) X hP ff_X5_36 0 rfl rfl dX5_find_4 ?_
    refine lv_icmp_ge (tgt := 28) hx hb dX5_find_7 (by decide) (fun hc => ?_) (fun hc => ?_)
    · have hf := ofpos hf hc
      exact hK28 i2 _ _ _ hP hD hS (lv_sub hl [] rfl) hf
    · have hf := ofneg hf hc
      refine lv_aload_n hx hb dX5_find_10 rfl (lv_at hl 0 rfl) ?_
      refine kget (v := .ref (b0 (o0+2))) X hP ff_X5_18 0 rfl rfl dX5_find_11 ?_
      refine lv_iload_n hx hb dX5_find_14 rfl (lv_at hl 2 rfl) ?_
      obtain ⟨hc, hf⟩ := ofck hf
      refine kiald (f := s0.1.2) (n := 16) X hP 2 rfl hc dX5_find_15 ?_
      refine lv_iload_n hx hb dX5_find_16 rfl (lv_at hl 1 rfl) ?_
      refine lv_icmp_ne (tgt := 22) hx hb dX5_find_17 (by decide) (fun hc => ?_) (fun hc => ?_)
      · have hf := ofneg hf hc
        refine lv_iinc (v := i2 + 1) (lv' := [(2, .int (i2 + 1)), (0, .ref (b0 o0)), (1, .int i1)]) hx hb dX5_find_22 hl (k := 2) rfl rfl (by decide) rfl (fun ls hl => ?_)
        refine lv_goto (tgt := 2) hx hb dX5_find_25 (by decide) ?_
        exact ih (i2 + 1) _ _ _ hP hD hS (lv_sub hl [1, 2, 0] rfl) hf
      · have hf := ofpos hf hc
        refine lv_iload_n hx hb dX5_find_20 rfl (lv_at hl 2 rfl) ?_
        have hf := Option.some.inj hf
        subst hf
        exact kiret (v := i2) X hP hD hS dX5_find_21
set_option maxRecDepth 100000 in
set_option maxHeartbeats 1000000 in
theorem c_State_find (l : Launch) (D : va_G) (k : Nat → ClassId) (t : Nat → Nat) (b0 : Nat → Nat) (o0 : Nat) (s0 : StateS) (x1 : Int32) (N : Nat) (out : Int32) (hf : f_State_find N x1 s0.1.1.2 s0.1.2 = some out) : CT l D k t yX5_find cX5_find 3 (some .int) rm_State_find [.ref (b0 o0), .int x1] [W_State k b0 o0 s0].flatten (some (.int out)) [W_State k b0 o0 s0].flatten := by
  refine kofW (by decide) (Nat.le_of_ble_eq_true rfl) ?_
  intro p e s m below meth c A ls X hP hD hS hl
  have hx := X.1.1
  have hb := X.1.2.1
  have hml := X.1.2.2.1
  have hown := X.1.2.2.2.1
  have hts := X.1.2.2.2.2
  have hl : lv_has ls 3 [(0, .ref (b0 o0)), (1, .int x1)] := hl
  rw [f_State_find] at hf
  refine lv_iconst (v := 0) hx hb dX5_find_0 (by decide) ?_
  refine lv_istore_n (lv' := [(2, .int 0), (0, .ref (b0 o0)), (1, .int x1)]) hx hb dX5_find_1 rfl hl (by decide) rfl (fun ls hl => ?_)
  refine w_State_find_L2 X b0 o0 s0 N x1 out _ ?_ N 0 _ _ _ hP hD hS (lv_sub hl [1, 2, 0] rfl) hf
  · intro i3 H locs ls hP hD hS hl hf
    refine lv_iconst (v := (-1)) hx hb dX5_find_28 (by decide) ?_
    have hf := Option.some.inj hf
    subst hf
    exact kiret (v := (-1)) X hP hD hS dX5_find_29
