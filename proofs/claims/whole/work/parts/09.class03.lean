/-! Braid_join: int join(CounterBraid$Form, CounterBraid$Braid); -/
abbrev rm_Braid_join : Room := ({ frames := 3, cells := 0, slots := 0, locals := 73 } : Room)
def f_Braid_join_L5 (v2_numbers : FJ) (K35 : Int32 → FJ → Option (Int32 × FJ × FI × FI × FJ)) : Nat → Int32 → FJ → Option (Int32 × FJ × FI × FI × FJ)
  | 0, _, _ => none
  | n + 1, i3, c7 => if 16 ≤ i3 then K35 i3 c7 else if ck i3 16 = true then if ck i3 16 = true then if ck i3 16 = true then f_Braid_join_L5 v2_numbers K35 n (i3 + 1) (vp_updL c7 i3.toNatClampNeg ((c7 i3.toNatClampNeg) + (v2_numbers i3.toNatClampNeg))) else none else none else none
def f_Braid_join_L38 (N : Nat) (v1_bits : Int32) (v1_countersAbove : Int32) (v1_functionsAbove : Int32) (v2_rests : FI) (v2_marks : FI) (K112 : Int32 → Int32 → FI → FI → FJ → Option (Int32 × FJ × FI × FI × FJ)) : Nat → Int32 → Int32 → FI → FI → FJ → Option (Int32 × FJ × FI × FI × FJ)
  | 0, _, _, _, _, _ => none
  | n + 1, i13, i14, c16, c17, c18 => if 24 ≤ i14 then K112 i13 i14 c16 c17 c18 else if ck i14 24 = true then if ck i14 24 = true then (f_Braid_raise N i14 ((v2_rests i14.toNatClampNeg).toInt64) c16 c17 c18 v1_bits v1_countersAbove v1_functionsAbove).bind (fun r19 => if ck i14 24 = true then if ck i14 24 = true then if ck i14 24 = true then if ck i14 24 = true then f_Braid_join_L38 N v1_bits v1_countersAbove v1_functionsAbove v2_rests v2_marks K112 n (i13 + (((upd r19.2.1 i14.toNatClampNeg (if (r19.2.1 i14.toNatClampNeg) < (v2_marks i14.toNatClampNeg) then (v2_marks i14.toNatClampNeg) else (r19.2.1 i14.toNatClampNeg))) i14.toNatClampNeg) - (c17 i14.toNatClampNeg))) (i14 + 1) r19.1 (upd r19.2.1 i14.toNatClampNeg (if (r19.2.1 i14.toNatClampNeg) < (v2_marks i14.toNatClampNeg) then (v2_marks i14.toNatClampNeg) else (r19.2.1 i14.toNatClampNeg))) r19.2.2 else none else none else none else none) else none else none
def f_Braid_join_L115 (v2_truths : FJ) (K145 : Int32 → FJ → Option (Int32 × FJ × FI × FI × FJ)) : Nat → Int32 → FJ → Option (Int32 × FJ × FI × FI × FJ)
  | 0, _, _ => none
  | n + 1, i28, c29 => if 16 ≤ i28 then K145 i28 c29 else if ck i28 16 = true then if ck i28 16 = true then if ck i28 16 = true then f_Braid_join_L115 v2_truths K145 n (i28 + 1) (vp_updL c29 i28.toNatClampNeg ((c29 i28.toNatClampNeg) + (v2_truths i28.toNatClampNeg))) else none else none else none
def f_Braid_join (N : Nat) (v0_truths : FJ) (v0_rests : FI) (v0_marks : FI) (v0_numbers : FJ) (v1_bits : Int32) (v1_countersAbove : Int32) (v1_functionsAbove : Int32) (v2_truths : FJ) (v2_rests : FI) (v2_marks : FI) (v2_numbers : FJ) : Option (Int32 × FJ × FI × FI × FJ) := f_Braid_join_L5 v2_numbers (fun i9 c10 => f_Braid_join_L38 N v1_bits v1_countersAbove v1_functionsAbove v2_rests v2_marks (fun i21 i22 c23 c24 c25 => f_Braid_join_L115 v2_truths (fun i34 c35 => some (i21, c35, c23, c24, c25)) N 0 v0_truths) N 0 0 v0_rests v0_marks c10) N 0 v0_numbers
abbrev Q_Braid_join (below : List Frame) (D : va_G) (k : Nat → ClassId) (A : Nat → Prop) (args : Array Value) (s : State) (b0 : Nat → Nat) (o0 : Nat) (v0_truths : FJ) (v0_rests : FI) (v0_marks : FI) (v0_numbers : FJ) (b1 : Nat → Nat) (o1 : Nat) (v1_counters : Int32) (v1_bits : Int32) (v1_functions : Int32) (v1_countersAbove : Int32) (v1_functionsAbove : Int32) (v1_rounds : Int32) (b2 : Nat → Nat) (o2 : Nat) (v2_truths : FJ) (v2_rests : FI) (v2_marks : FI) (v2_numbers : FJ) (out : Int32 × FJ × FI × FI × FJ) : State → Prop := MQ below (QW D k A (some (.int out.1)) [W_Braid k b0 o0 out.2.1 out.2.2.1 out.2.2.2.1 out.2.2.2.2, W_Form k b1 o1 v1_counters v1_bits v1_functions v1_countersAbove v1_functionsAbove v1_rounds, W_Braid k b2 o2 v2_truths v2_rests v2_marks v2_numbers].flatten) args s 0 0 A
set_option maxRecDepth 100000 in
set_option maxHeartbeats 1000000 in
theorem w_Braid_join_L5 {p : Program} {l : Launch} {e : Env} {s : State} {m : MethodId} {below : List Frame} {meth : Method} {c : Code} {args : Array Value} {A : Nat → Prop} {D : va_G} {k : Nat → ClassId} {t : Nat → Nat} (X : BX l D k t p s m args meth c cX1_join 6 RX1 (some .int) A) (b0 : Nat → Nat) (o0 : Nat) (v0_truths : FJ) (v0_rests : FI) (v0_marks : FI) (v0_numbers : FJ) (b1 : Nat → Nat) (o1 : Nat) (v1_counters : Int32) (v1_bits : Int32) (v1_functions : Int32) (v1_countersAbove : Int32) (v1_functionsAbove : Int32) (v1_rounds : Int32) (b2 : Nat → Nat) (o2 : Nat) (v2_truths : FJ) (v2_rests : FI) (v2_marks : FI) (v2_numbers : FJ) (N : Nat) (i2 : Int32) (c4 : FJ) (c5 : FI) (c6 : FI) (out : Int32 × FJ × FI × FI × FJ) (K35 : Int32 → FJ → Option (Int32 × FJ × FI × FI × FJ)) (hK35 : ∀ (i3' : Int32) (c7' : FJ) (H : Heap) (locs : List Loc) (ls : Array Slot), va_P D vwCl [W_Braid k b0 o0 c4 c5 c6 c7', W_Form k b1 o1 v1_counters v1_bits v1_functions v1_countersAbove v1_functionsAbove v1_rounds, W_Braid k b2 o2 v2_truths v2_rests v2_marks v2_numbers].flatten H → va_D A [W_Braid k b0 o0 c4 c5 c6 c7', W_Form k b1 o1 v1_counters v1_bits v1_functions v1_countersAbove v1_functionsAbove v1_rounds, W_Braid k b2 o2 v2_truths v2_rests v2_marks v2_numbers].flatten → va_S A s.heap H locs → lv_has ls 6 [(0, .ref (b0 o0)), (1, .ref (b1 o1)), (2, .ref (b2 o2)), (3, .int i2)] → K35 i3' c7' = some out → W p l e rm_Braid_join s m args below meth c H locs 0 0 (Q_Braid_join below D k A args s b0 o0 v0_truths v0_rests v0_marks v0_numbers b1 o1 v1_counters v1_bits v1_functions v1_countersAbove v1_functionsAbove v1_rounds b2 o2 v2_truths v2_rests v2_marks v2_numbers out) (F0 m 35 ls [])) : ∀ (n : Nat) (i3 : Int32) (c7 : FJ) (H : Heap) (locs : List Loc) (ls : Array Slot), va_P D vwCl [W_Braid k b0 o0 c4 c5 c6 c7, W_Form k b1 o1 v1_counters v1_bits v1_functions v1_countersAbove v1_functionsAbove v1_rounds, W_Braid k b2 o2 v2_truths v2_rests v2_marks v2_numbers].flatten H → va_D A [W_Braid k b0 o0 c4 c5 c6 c7, W_Form k b1 o1 v1_counters v1_bits v1_functions v1_countersAbove v1_functionsAbove v1_rounds, W_Braid k b2 o2 v2_truths v2_rests v2_marks v2_numbers].flatten → va_S A s.heap H locs → lv_has ls 6 [(0, .ref (b0 o0)), (1, .ref (b1 o1)), (2, .ref (b2 o2)), (3, .int i2), (4, .int i3)] → f_Braid_join_L5 v2_numbers K35 n i3 c7 = some out → W p l e rm_Braid_join s m args below meth c H locs 0 0 (Q_Braid_join below D k A args s b0 o0 v0_truths v0_rests v0_marks v0_numbers b1 o1 v1_counters v1_bits v1_functions v1_countersAbove v1_functionsAbove v1_rounds b2 o2 v2_truths v2_rests v2_marks v2_numbers out) (F0 m 5 ls []) := by
  have hx := X.1.1
  have hb := X.1.2.1
  have hml := X.1.2.2.1
  have hown := X.1.2.2.2.1
  have hts := X.1.2.2.2.2
  intro n
  induction n with
  | zero =>
    intro i3 c7 H locs ls hP hD hS hl hf
    rw [f_Braid_join_L5] at hf
    cases hf
  | succ n ih =>
    intro i3 c7 H locs ls hP hD hS hl hf
    rw [f_Braid_join_L5] at hf
    refine lv_iload hx hb dX1_join_5 (lv_at hl 4 rfl) ?_
    refine lv_bipush (v := 16) hx hb dX1_join_7 (by decide) ?_
    refine lv_icmp_ge (tgt := 35) hx hb dX1_join_9 (by decide) (fun hc => ?_) (fun hc => ?_)
    · have hf := ofpos hf hc
      exact hK35 i3 c7 _ _ _ hP hD hS (lv_sub hl [0, 1, 2, 3] rfl) hf
    · have hf := ofneg hf hc
      refine lv_aload_n hx hb dX1_join_12 rfl (lv_at hl 0 rfl) ?_
      refine kget (v := .ref (b0 (o0+4))) X hP ff_X1_22 0 rfl rfl dX1_join_13 ?_
      refine lv_iload hx hb dX1_join_16 (lv_at hl 4 rfl) ?_
      refine lv_dup2_11 hx hb dX1_join_18 rfl rfl ?_
      obtain ⟨hc, hf⟩ := ofck hf
      refine klald (f := c7) (n := 16) X hP 4 rfl hc dX1_join_19 ?_
      refine lv_aload_n hx hb dX1_join_20 rfl (lv_at hl 2 rfl) ?_
      refine kget (v := .ref (b2 (o2+4))) X hP ff_X1_22 6 rfl rfl dX1_join_21 ?_
      refine lv_iload hx hb dX1_join_24 (lv_at hl 4 rfl) ?_
      obtain ⟨hc, hf⟩ := ofck hf
      refine klald (f := v2_numbers) (n := 16) X hP 10 rfl hc dX1_join_26 ?_
      refine lv_ladd hx hb dX1_join_27 ?_
      obtain ⟨hc, hf⟩ := ofck hf
      generalize hc8 : vp_updL c7 i3.toNatClampNeg ((c7 i3.toNatClampNeg) + (v2_numbers i3.toNatClampNeg)) = c8 at hf
      refine klast2 (f := c7) (n := 16) (g := c8) X hP hD hS 4 rfl hc hc8 dX1_join_28 (fun H locs hP hD hS => ?_)
      have hP : va_P D vwCl [W_Braid k b0 o0 c4 c5 c6 c8, W_Form k b1 o1 v1_counters v1_bits v1_functions v1_countersAbove v1_functionsAbove v1_rounds, W_Braid k b2 o2 v2_truths v2_rests v2_marks v2_numbers].flatten _ := hP
      have hD : va_D A [W_Braid k b0 o0 c4 c5 c6 c8, W_Form k b1 o1 v1_counters v1_bits v1_functions v1_countersAbove v1_functionsAbove v1_rounds, W_Braid k b2 o2 v2_truths v2_rests v2_marks v2_numbers].flatten := hD
      refine lv_iinc (v := i3 + 1) (lv' := [(4, .int (i3 + 1)), (0, .ref (b0 o0)), (1, .ref (b1 o1)), (2, .ref (b2 o2)), (3, .int i2)]) hx hb dX1_join_29 hl (k := 4) rfl rfl (by decide) rfl (fun ls hl => ?_)
      refine lv_goto (tgt := 5) hx hb dX1_join_32 (by decide) ?_
      exact ih (i3 + 1) c8 _ _ _ hP hD hS (lv_sub hl [1, 2, 3, 4, 0] rfl) hf
set_option maxRecDepth 100000 in
set_option maxHeartbeats 1000000 in
theorem w_Braid_join_L38 {p : Program} {l : Launch} {e : Env} {s : State} {m : MethodId} {below : List Frame} {meth : Method} {c : Code} {args : Array Value} {A : Nat → Prop} {D : va_G} {k : Nat → ClassId} {t : Nat → Nat} (X : BX l D k t p s m args meth c cX1_join 6 RX1 (some .int) A) (b0 : Nat → Nat) (o0 : Nat) (v0_truths : FJ) (v0_rests : FI) (v0_marks : FI) (v0_numbers : FJ) (b1 : Nat → Nat) (o1 : Nat) (v1_counters : Int32) (v1_bits : Int32) (v1_functions : Int32) (v1_countersAbove : Int32) (v1_functionsAbove : Int32) (v1_rounds : Int32) (b2 : Nat → Nat) (o2 : Nat) (v2_truths : FJ) (v2_rests : FI) (v2_marks : FI) (v2_numbers : FJ) (N : Nat) (c15 : FJ) (out : Int32 × FJ × FI × FI × FJ) (K112 : Int32 → Int32 → FI → FI → FJ → Option (Int32 × FJ × FI × FI × FJ)) (hK112 : ∀ (i13' : Int32) (i14' : Int32) (c16' : FI) (c17' : FI) (c18' : FJ) (H : Heap) (locs : List Loc) (ls : Array Slot), va_P D vwCl [W_Braid k b0 o0 c15 c16' c17' c18', W_Form k b1 o1 v1_counters v1_bits v1_functions v1_countersAbove v1_functionsAbove v1_rounds, W_Braid k b2 o2 v2_truths v2_rests v2_marks v2_numbers].flatten H → va_D A [W_Braid k b0 o0 c15 c16' c17' c18', W_Form k b1 o1 v1_counters v1_bits v1_functions v1_countersAbove v1_functionsAbove v1_rounds, W_Braid k b2 o2 v2_truths v2_rests v2_marks v2_numbers].flatten → va_S A s.heap H locs → lv_has ls 6 [(0, .ref (b0 o0)), (2, .ref (b2 o2)), (3, .int i13')] → K112 i13' i14' c16' c17' c18' = some out → W p l e rm_Braid_join s m args below meth c H locs 0 0 (Q_Braid_join below D k A args s b0 o0 v0_truths v0_rests v0_marks v0_numbers b1 o1 v1_counters v1_bits v1_functions v1_countersAbove v1_functionsAbove v1_rounds b2 o2 v2_truths v2_rests v2_marks v2_numbers out) (F0 m 112 ls [])) : ∀ (n : Nat) (i13 : Int32) (i14 : Int32) (c16 : FI) (c17 : FI) (c18 : FJ) (H : Heap) (locs : List Loc) (ls : Array Slot), va_P D vwCl [W_Braid k b0 o0 c15 c16 c17 c18, W_Form k b1 o1 v1_counters v1_bits v1_functions v1_countersAbove v1_functionsAbove v1_rounds, W_Braid k b2 o2 v2_truths v2_rests v2_marks v2_numbers].flatten H → va_D A [W_Braid k b0 o0 c15 c16 c17 c18, W_Form k b1 o1 v1_counters v1_bits v1_functions v1_countersAbove v1_functionsAbove v1_rounds, W_Braid k b2 o2 v2_truths v2_rests v2_marks v2_numbers].flatten → va_S A s.heap H locs → lv_has ls 6 [(0, .ref (b0 o0)), (1, .ref (b1 o1)), (2, .ref (b2 o2)), (3, .int i13), (4, .int i14)] → f_Braid_join_L38 N v1_bits v1_countersAbove v1_functionsAbove v2_rests v2_marks K112 n i13 i14 c16 c17 c18 = some out → W p l e rm_Braid_join s m args below meth c H locs 0 0 (Q_Braid_join below D k A args s b0 o0 v0_truths v0_rests v0_marks v0_numbers b1 o1 v1_counters v1_bits v1_functions v1_countersAbove v1_functionsAbove v1_rounds b2 o2 v2_truths v2_rests v2_marks v2_numbers out) (F0 m 38 ls []) := by
  have hx := X.1.1
  have hb := X.1.2.1
  have hml := X.1.2.2.1
  have hown := X.1.2.2.2.1
  have hts := X.1.2.2.2.2
  intro n
  induction n with
  | zero =>
    intro i13 i14 c16 c17 c18 H locs ls hP hD hS hl hf
    rw [f_Braid_join_L38] at hf
    cases hf
  | succ n ih =>
    intro i13 i14 c16 c17 c18 H locs ls hP hD hS hl hf
    rw [f_Braid_join_L38] at hf
    refine lv_iload hx hb dX1_join_38 (lv_at hl 4 rfl) ?_
    refine lv_bipush (v := 24) hx hb dX1_join_40 (by decide) ?_
    refine lv_icmp_ge (tgt := 112) hx hb dX1_join_42 (by decide) (fun hc => ?_) (fun hc => ?_)
    · have hf := ofpos hf hc
      exact hK112 i13 i14 c16 c17 c18 _ _ _ hP hD hS (lv_sub hl [0, 2, 3] rfl) hf
    · have hf := ofneg hf hc
      refine lv_aload_n hx hb dX1_join_45 rfl (lv_at hl 0 rfl) ?_
      refine kget (v := .ref (b0 (o0+3))) X hP ff_X1_19 0 rfl rfl dX1_join_46 ?_
      refine lv_iload hx hb dX1_join_49 (lv_at hl 4 rfl) ?_
      obtain ⟨hc, hf⟩ := ofck hf
      refine kiald (f := c17) (n := 24) X hP 3 rfl hc dX1_join_51 ?_
      refine lv_istore (lv' := [(5, .int (c17 i14.toNatClampNeg)), (0, .ref (b0 o0)), (1, .ref (b1 o1)), (2, .ref (b2 o2)), (3, .int i13), (4, .int i14)]) hx hb dX1_join_52 hl (by decide) rfl (fun ls hl => ?_)
      refine lv_aload_n hx hb dX1_join_54 rfl (lv_at hl 1 rfl) ?_
      refine lv_aload_n hx hb dX1_join_55 rfl (lv_at hl 2 rfl) ?_
      refine lv_iload hx hb dX1_join_56 (lv_at hl 5 rfl) ?_
      refine lv_aload_n hx hb dX1_join_58 rfl (lv_at hl 3 rfl) ?_
      refine kget (v := .ref (b2 (o2+2))) X hP ff_X1_15 6 rfl rfl dX1_join_59 ?_
      refine lv_iload hx hb dX1_join_62 (lv_at hl 5 rfl) ?_
      obtain ⟨hc, hf⟩ := ofck hf
      refine kiald (f := v2_rests) (n := 24) X hP 8 rfl hc dX1_join_64 ?_
      refine lv_i2l (v := (v2_rests i14.toNatClampNeg).toInt64) hx hb dX1_join_65 rfl ?_
      obtain ⟨r19, hg_r19, hf⟩ := ofbind hf
      refine kcV (bs := [W_Braid k b0 o0 c15 c16 c17 c18, W_Form k b1 o1 v1_counters v1_bits v1_functions v1_countersAbove v1_functionsAbove v1_rounds, W_Braid k b2 o2 v2_truths v2_rests v2_marks v2_numbers]) (br := [W_Braid k b2 o2 v2_truths v2_rests v2_marks v2_numbers]) (bc := [W_Braid k b0 o0 c15 c16 c17 c18, W_Form k b1 o1 v1_counters v1_bits v1_functions v1_countersAbove v1_functionsAbove v1_rounds]) (bc' := [W_Braid k b0 o0 c15 r19.1 r19.2.1 r19.2.2, W_Form k b1 o1 v1_counters v1_bits v1_functions v1_countersAbove v1_functionsAbove v1_rounds]) X hP hD hS (c_Braid_raise l D k t b0 o0 c15 c16 c17 c18 b1 o1 v1_counters v1_bits v1_functions v1_countersAbove v1_functionsAbove v1_rounds i14 ((v2_rests i14.toNatClampNeg).toInt64) N r19 hg_r19) mv_X1_60 hl [2] [0, 1] 1 ⟨rfl, rfl⟩ ⟨Nat.le_of_ble_eq_true rfl, Nat.le_of_ble_eq_true rfl⟩ rfl rfl rfl rfl rfl rfl rfl (Nat.le_of_ble_eq_true rfl) dX1_join_66 (fun H locs hP hD hS => ?_)
      have hP : va_P D vwCl [W_Braid k b2 o2 v2_truths v2_rests v2_marks v2_numbers, W_Braid k b0 o0 c15 r19.1 r19.2.1 r19.2.2, W_Form k b1 o1 v1_counters v1_bits v1_functions v1_countersAbove v1_functionsAbove v1_rounds].flatten _ := hP
      have hD : va_D A [W_Braid k b2 o2 v2_truths v2_rests v2_marks v2_numbers, W_Braid k b0 o0 c15 r19.1 r19.2.1 r19.2.2, W_Form k b1 o1 v1_counters v1_bits v1_functions v1_countersAbove v1_functionsAbove v1_rounds].flatten := hD
      refine lv_aload_n hx hb dX1_join_69 rfl (lv_at hl 1 rfl) ?_
      refine kget (v := .ref (b0 (o0+3))) X hP ff_X1_19 5 rfl rfl dX1_join_70 ?_
      refine lv_iload hx hb dX1_join_73 (lv_at hl 5 rfl) ?_
      refine lv_aload_n hx hb dX1_join_75 rfl (lv_at hl 1 rfl) ?_
      refine kget (v := .ref (b0 (o0+3))) X hP ff_X1_19 5 rfl rfl dX1_join_76 ?_
      refine lv_iload hx hb dX1_join_79 (lv_at hl 5 rfl) ?_
      obtain ⟨hc, hf⟩ := ofck hf
      refine kiald (f := r19.2.1) (n := 24) X hP 8 rfl hc dX1_join_81 ?_
      refine lv_aload_n hx hb dX1_join_82 rfl (lv_at hl 3 rfl) ?_
      refine kget (v := .ref (b2 (o2+3))) X hP ff_X1_19 0 rfl rfl dX1_join_83 ?_
      refine lv_iload hx hb dX1_join_86 (lv_at hl 5 rfl) ?_
      obtain ⟨hc, hf⟩ := ofck hf
      refine kiald (f := v2_marks) (n := 24) X hP 3 rfl hc dX1_join_88 ?_
      refine va_mmax hx hb (hml.trans hl.1.symm) hown (hts _ mj_X1_64.1) (hts _ mj_X1_64.2.1) (hts _ mj_X1_64.2.2.1) (hts _ mj_X1_64.2.2.2) (Nat.le_of_ble_eq_true rfl) (Nat.le_of_ble_eq_true rfl) (Nat.zero_le _) (Nat.zero_le _) dX1_join_89 ?_
      obtain ⟨hc, hf⟩ := ofck hf
      generalize hc20 : upd r19.2.1 i14.toNatClampNeg (if (r19.2.1 i14.toNatClampNeg) < (v2_marks i14.toNatClampNeg) then (v2_marks i14.toNatClampNeg) else (r19.2.1 i14.toNatClampNeg)) = c20 at hf
      refine kiast2 (f := r19.2.1) (n := 24) (g := c20) X hP hD hS 8 rfl hc hc20 dX1_join_92 (fun H locs hP hD hS => ?_)
      have hP : va_P D vwCl [W_Braid k b2 o2 v2_truths v2_rests v2_marks v2_numbers, W_Braid k b0 o0 c15 r19.1 c20 r19.2.2, W_Form k b1 o1 v1_counters v1_bits v1_functions v1_countersAbove v1_functionsAbove v1_rounds].flatten _ := hP
      have hD : va_D A [W_Braid k b2 o2 v2_truths v2_rests v2_marks v2_numbers, W_Braid k b0 o0 c15 r19.1 c20 r19.2.2, W_Form k b1 o1 v1_counters v1_bits v1_functions v1_countersAbove v1_functionsAbove v1_rounds].flatten := hD
      refine lv_iload_n hx hb dX1_join_93 rfl (lv_at hl 4 rfl) ?_
      refine lv_aload_n hx hb dX1_join_94 rfl (lv_at hl 1 rfl) ?_
      refine kget (v := .ref (b0 (o0+3))) X hP ff_X1_19 5 rfl rfl dX1_join_95 ?_
      refine lv_iload hx hb dX1_join_98 (lv_at hl 5 rfl) ?_
      obtain ⟨hc, hf⟩ := ofck hf
      refine kiald (f := c20) (n := 24) X hP 8 rfl hc dX1_join_100 ?_
      refine lv_iload hx hb dX1_join_101 (lv_at hl 0 rfl) ?_
      refine lv_isub hx hb dX1_join_103 ?_
      refine lv_iadd hx hb dX1_join_104 ?_
      refine lv_istore_n (lv' := [(3, .int (i13 + ((c20 i14.toNatClampNeg) - (c17 i14.toNatClampNeg)))), (5, .int (c17 i14.toNatClampNeg)), (0, .ref (b0 o0)), (1, .ref (b1 o1)), (2, .ref (b2 o2)), (4, .int i14)]) hx hb dX1_join_105 rfl hl (by decide) rfl (fun ls hl => ?_)
      refine lv_iinc (v := i14 + 1) (lv' := [(4, .int (i14 + 1)), (3, .int (i13 + ((c20 i14.toNatClampNeg) - (c17 i14.toNatClampNeg)))), (5, .int (c17 i14.toNatClampNeg)), (0, .ref (b0 o0)), (1, .ref (b1 o1)), (2, .ref (b2 o2))]) hx hb dX1_join_106 hl (k := 5) rfl rfl (by decide) rfl (fun ls hl => ?_)
      refine lv_goto (tgt := 38) hx hb dX1_join_109 (by decide) ?_
      obtain ⟨hP, hD⟩ := B_perm (br := [W_Braid k b0 o0 c15 r19.1 c20 r19.2.2, W_Form k b1 o1 v1_counters v1_bits v1_functions v1_countersAbove v1_functionsAbove v1_rounds, W_Braid k b2 o2 v2_truths v2_rests v2_marks v2_numbers]) hP hD [1, 2, 0] rfl rfl
      have hP : va_P D vwCl [W_Braid k b0 o0 c15 r19.1 c20 r19.2.2, W_Form k b1 o1 v1_counters v1_bits v1_functions v1_countersAbove v1_functionsAbove v1_rounds, W_Braid k b2 o2 v2_truths v2_rests v2_marks v2_numbers].flatten _ := hP
      have hD : va_D A [W_Braid k b0 o0 c15 r19.1 c20 r19.2.2, W_Form k b1 o1 v1_counters v1_bits v1_functions v1_countersAbove v1_functionsAbove v1_rounds, W_Braid k b2 o2 v2_truths v2_rests v2_marks v2_numbers].flatten := hD
      exact ih (i13 + ((c20 i14.toNatClampNeg) - (c17 i14.toNatClampNeg))) (i14 + 1) r19.1 c20 r19.2.2 _ _ _ hP hD hS (lv_sub hl [3, 4, 5, 1, 0] rfl) hf
set_option maxRecDepth 100000 in
set_option maxHeartbeats 1000000 in
theorem w_Braid_join_L115 {p : Program} {l : Launch} {e : Env} {s : State} {m : MethodId} {below : List Frame} {meth : Method} {c : Code} {args : Array Value} {A : Nat → Prop} {D : va_G} {k : Nat → ClassId} {t : Nat → Nat} (X : BX l D k t p s m args meth c cX1_join 6 RX1 (some .int) A) (b0 : Nat → Nat) (o0 : Nat) (v0_truths : FJ) (v0_rests : FI) (v0_marks : FI) (v0_numbers : FJ) (b1 : Nat → Nat) (o1 : Nat) (v1_counters : Int32) (v1_bits : Int32) (v1_functions : Int32) (v1_countersAbove : Int32) (v1_functionsAbove : Int32) (v1_rounds : Int32) (b2 : Nat → Nat) (o2 : Nat) (v2_truths : FJ) (v2_rests : FI) (v2_marks : FI) (v2_numbers : FJ) (N : Nat) (i27 : Int32) (c30 : FI) (c31 : FI) (c32 : FJ) (out : Int32 × FJ × FI × FI × FJ) (K145 : Int32 → FJ → Option (Int32 × FJ × FI × FI × FJ)) (hK145 : ∀ (i28' : Int32) (c29' : FJ) (H : Heap) (locs : List Loc) (ls : Array Slot), va_P D vwCl [W_Braid k b0 o0 c29' c30 c31 c32, W_Form k b1 o1 v1_counters v1_bits v1_functions v1_countersAbove v1_functionsAbove v1_rounds, W_Braid k b2 o2 v2_truths v2_rests v2_marks v2_numbers].flatten H → va_D A [W_Braid k b0 o0 c29' c30 c31 c32, W_Form k b1 o1 v1_counters v1_bits v1_functions v1_countersAbove v1_functionsAbove v1_rounds, W_Braid k b2 o2 v2_truths v2_rests v2_marks v2_numbers].flatten → va_S A s.heap H locs → lv_has ls 6 [(3, .int i27)] → K145 i28' c29' = some out → W p l e rm_Braid_join s m args below meth c H locs 0 0 (Q_Braid_join below D k A args s b0 o0 v0_truths v0_rests v0_marks v0_numbers b1 o1 v1_counters v1_bits v1_functions v1_countersAbove v1_functionsAbove v1_rounds b2 o2 v2_truths v2_rests v2_marks v2_numbers out) (F0 m 145 ls [])) : ∀ (n : Nat) (i28 : Int32) (c29 : FJ) (H : Heap) (locs : List Loc) (ls : Array Slot), va_P D vwCl [W_Braid k b0 o0 c29 c30 c31 c32, W_Form k b1 o1 v1_counters v1_bits v1_functions v1_countersAbove v1_functionsAbove v1_rounds, W_Braid k b2 o2 v2_truths v2_rests v2_marks v2_numbers].flatten H → va_D A [W_Braid k b0 o0 c29 c30 c31 c32, W_Form k b1 o1 v1_counters v1_bits v1_functions v1_countersAbove v1_functionsAbove v1_rounds, W_Braid k b2 o2 v2_truths v2_rests v2_marks v2_numbers].flatten → va_S A s.heap H locs → lv_has ls 6 [(0, .ref (b0 o0)), (2, .ref (b2 o2)), (3, .int i27), (4, .int i28)] → f_Braid_join_L115 v2_truths K145 n i28 c29 = some out → W p l e rm_Braid_join s m args below meth c H locs 0 0 (Q_Braid_join below D k A args s b0 o0 v0_truths v0_rests v0_marks v0_numbers b1 o1 v1_counters v1_bits v1_functions v1_countersAbove v1_functionsAbove v1_rounds b2 o2 v2_truths v2_rests v2_marks v2_numbers out) (F0 m 115 ls []) := by
  have hx := X.1.1
  have hb := X.1.2.1
  have hml := X.1.2.2.1
  have hown := X.1.2.2.2.1
  have hts := X.1.2.2.2.2
  intro n
  induction n with
  | zero =>
    intro i28 c29 H locs ls hP hD hS hl hf
    rw [f_Braid_join_L115] at hf
    cases hf
  | succ n ih =>
    intro i28 c29 H locs ls hP hD hS hl hf
    rw [f_Braid_join_L115] at hf
    refine lv_iload hx hb dX1_join_115 (lv_at hl 3 rfl) ?_
    refine lv_bipush (v := 16) hx hb dX1_join_117 (by decide) ?_
    refine lv_icmp_ge (tgt := 145) hx hb dX1_join_119 (by decide) (fun hc => ?_) (fun hc => ?_)
    · have hf := ofpos hf hc
      exact hK145 i28 c29 _ _ _ hP hD hS (lv_sub hl [2] rfl) hf
    · have hf := ofneg hf hc
      refine lv_aload_n hx hb dX1_join_122 rfl (lv_at hl 0 rfl) ?_
      refine kget (v := .ref (b0 (o0+1))) X hP ff_X1_9 0 rfl rfl dX1_join_123 ?_
      refine lv_iload hx hb dX1_join_126 (lv_at hl 3 rfl) ?_
      refine lv_dup2_11 hx hb dX1_join_128 rfl rfl ?_
      obtain ⟨hc, hf⟩ := ofck hf
      refine klald (f := c29) (n := 16) X hP 1 rfl hc dX1_join_129 ?_
      refine lv_aload_n hx hb dX1_join_130 rfl (lv_at hl 1 rfl) ?_
      refine kget (v := .ref (b2 (o2+1))) X hP ff_X1_9 6 rfl rfl dX1_join_131 ?_
      refine lv_iload hx hb dX1_join_134 (lv_at hl 3 rfl) ?_
      obtain ⟨hc, hf⟩ := ofck hf
      refine klald (f := v2_truths) (n := 16) X hP 7 rfl hc dX1_join_136 ?_
      refine lv_ladd hx hb dX1_join_137 ?_
      obtain ⟨hc, hf⟩ := ofck hf
      generalize hc33 : vp_updL c29 i28.toNatClampNeg ((c29 i28.toNatClampNeg) + (v2_truths i28.toNatClampNeg)) = c33 at hf
      refine klast2 (f := c29) (n := 16) (g := c33) X hP hD hS 1 rfl hc hc33 dX1_join_138 (fun H locs hP hD hS => ?_)
      have hP : va_P D vwCl [W_Braid k b0 o0 c33 c30 c31 c32, W_Form k b1 o1 v1_counters v1_bits v1_functions v1_countersAbove v1_functionsAbove v1_rounds, W_Braid k b2 o2 v2_truths v2_rests v2_marks v2_numbers].flatten _ := hP
      have hD : va_D A [W_Braid k b0 o0 c33 c30 c31 c32, W_Form k b1 o1 v1_counters v1_bits v1_functions v1_countersAbove v1_functionsAbove v1_rounds, W_Braid k b2 o2 v2_truths v2_rests v2_marks v2_numbers].flatten := hD
      refine lv_iinc (v := i28 + 1) (lv' := [(4, .int (i28 + 1)), (0, .ref (b0 o0)), (2, .ref (b2 o2)), (3, .int i27)]) hx hb dX1_join_139 hl (k := 3) rfl rfl (by decide) rfl (fun ls hl => ?_)
      refine lv_goto (tgt := 115) hx hb dX1_join_142 (by decide) ?_
      exact ih (i28 + 1) c33 _ _ _ hP hD hS (lv_sub hl [1, 2, 3, 0] rfl) hf
set_option maxRecDepth 100000 in
set_option maxHeartbeats 1000000 in
theorem c_Braid_join (l : Launch) (D : va_G) (k : Nat → ClassId) (t : Nat → Nat) (b0 : Nat → Nat) (o0 : Nat) (v0_truths : FJ) (v0_rests : FI) (v0_marks : FI) (v0_numbers : FJ) (b1 : Nat → Nat) (o1 : Nat) (v1_counters : Int32) (v1_bits : Int32) (v1_functions : Int32) (v1_countersAbove : Int32) (v1_functionsAbove : Int32) (v1_rounds : Int32) (b2 : Nat → Nat) (o2 : Nat) (v2_truths : FJ) (v2_rests : FI) (v2_marks : FI) (v2_numbers : FJ) (N : Nat) (out : Int32 × FJ × FI × FI × FJ) (hf : f_Braid_join N v0_truths v0_rests v0_marks v0_numbers v1_bits v1_countersAbove v1_functionsAbove v2_truths v2_rests v2_marks v2_numbers = some out) : CT l D k t yX1_join cX1_join 6 (some .int) rm_Braid_join [.ref (b0 o0), .ref (b1 o1), .ref (b2 o2)] [W_Braid k b0 o0 v0_truths v0_rests v0_marks v0_numbers, W_Form k b1 o1 v1_counters v1_bits v1_functions v1_countersAbove v1_functionsAbove v1_rounds, W_Braid k b2 o2 v2_truths v2_rests v2_marks v2_numbers].flatten (some (.int out.1)) [W_Braid k b0 o0 out.2.1 out.2.2.1 out.2.2.2.1 out.2.2.2.2, W_Form k b1 o1 v1_counters v1_bits v1_functions v1_countersAbove v1_functionsAbove v1_rounds, W_Braid k b2 o2 v2_truths v2_rests v2_marks v2_numbers].flatten := by
  refine kofW (by decide) (Nat.le_of_ble_eq_true rfl) ?_
  intro p e s m below meth c A ls X hP hD hS hl
  have hx := X.1.1
  have hb := X.1.2.1
  have hml := X.1.2.2.1
  have hown := X.1.2.2.2.1
  have hts := X.1.2.2.2.2
  have hl : lv_has ls 6 [(0, .ref (b0 o0)), (1, .ref (b1 o1)), (2, .ref (b2 o2))] := hl
  rw [f_Braid_join] at hf
  refine lv_iconst (v := 0) hx hb dX1_join_0 (by decide) ?_
  refine lv_istore_n (lv' := [(3, .int 0), (0, .ref (b0 o0)), (1, .ref (b1 o1)), (2, .ref (b2 o2))]) hx hb dX1_join_1 rfl hl (by decide) rfl (fun ls hl => ?_)
  refine lv_iconst (v := 0) hx hb dX1_join_2 (by decide) ?_
  refine lv_istore (lv' := [(4, .int 0), (3, .int 0), (0, .ref (b0 o0)), (1, .ref (b1 o1)), (2, .ref (b2 o2))]) hx hb dX1_join_3 hl (by decide) rfl (fun ls hl => ?_)
  refine w_Braid_join_L5 X b0 o0 v0_truths v0_rests v0_marks v0_numbers b1 o1 v1_counters v1_bits v1_functions v1_countersAbove v1_functionsAbove v1_rounds b2 o2 v2_truths v2_rests v2_marks v2_numbers N 0 v0_truths v0_rests v0_marks out _ ?_ N 0 v0_numbers _ _ _ hP hD hS (lv_sub hl [2, 3, 4, 1, 0] rfl) hf
  · intro i9 c10 H locs ls hP hD hS hl hf
    refine lv_iconst (v := 0) hx hb dX1_join_35 (by decide) ?_
    refine lv_istore (lv' := [(4, .int 0), (0, .ref (b0 o0)), (1, .ref (b1 o1)), (2, .ref (b2 o2)), (3, .int 0)]) hx hb dX1_join_36 hl (by decide) rfl (fun ls hl => ?_)
    refine w_Braid_join_L38 X b0 o0 v0_truths v0_rests v0_marks v0_numbers b1 o1 v1_counters v1_bits v1_functions v1_countersAbove v1_functionsAbove v1_rounds b2 o2 v2_truths v2_rests v2_marks v2_numbers N v0_truths out _ ?_ N 0 0 v0_rests v0_marks c10 _ _ _ hP hD hS (lv_sub hl [1, 2, 3, 4, 0] rfl) hf
    · intro i21 i22 c23 c24 c25 H locs ls hP hD hS hl hf
      refine lv_iconst (v := 0) hx hb dX1_join_112 (by decide) ?_
      refine lv_istore (lv' := [(4, .int 0), (0, .ref (b0 o0)), (2, .ref (b2 o2)), (3, .int i21)]) hx hb dX1_join_113 hl (by decide) rfl (fun ls hl => ?_)
      refine w_Braid_join_L115 X b0 o0 v0_truths v0_rests v0_marks v0_numbers b1 o1 v1_counters v1_bits v1_functions v1_countersAbove v1_functionsAbove v1_rounds b2 o2 v2_truths v2_rests v2_marks v2_numbers N i21 c23 c24 c25 out _ ?_ N 0 v0_truths _ _ _ hP hD hS (lv_sub hl [1, 2, 3, 0] rfl) hf
      · intro i34 c35 H locs ls hP hD hS hl hf
        refine lv_iload_n hx hb dX1_join_145 rfl (lv_at hl 0 rfl) ?_
        have hf := Option.some.inj hf
        subst hf
        exact kiret (v := i21) X hP hD hS dX1_join_146
/-! Braid_sumOfTruths: long sumOfTruths(); -/
abbrev rm_Braid_sumOfTruths : Room := ({ frames := 0, cells := 0, slots := 0, locals := 0 } : Room)
def f_Braid_sumOfTruths_L4 (v_truths : FJ) (K25 : Int64 → Int32 → Option (Int64)) : Nat → Int64 → Int32 → Option (Int64)
  | 0, _, _ => none
  | n + 1, i1, i2 => if 16 ≤ i2 then K25 i1 i2 else if ck i2 16 = true then f_Braid_sumOfTruths_L4 v_truths K25 n (i1 + (v_truths i2.toNatClampNeg)) (i2 + 1) else none
def f_Braid_sumOfTruths (N : Nat) (v_truths : FJ) : Option (Int64) := f_Braid_sumOfTruths_L4 v_truths (fun i3 i4 => some i3) N 0 0
abbrev Q_Braid_sumOfTruths (below : List Frame) (D : va_G) (k : Nat → ClassId) (A : Nat → Prop) (args : Array Value) (s : State) (b0 : Nat → Nat) (o0 : Nat) (v_truths : FJ) (v_rests : FI) (v_marks : FI) (v_numbers : FJ) (out : Int64) : State → Prop := MQ below (QW D k A (some (.long out)) [W_Braid k b0 o0 v_truths v_rests v_marks v_numbers].flatten) args s 0 0 A
set_option maxRecDepth 100000 in
set_option maxHeartbeats 1000000 in
theorem w_Braid_sumOfTruths_L4 {p : Program} {l : Launch} {e : Env} {s : State} {m : MethodId} {below : List Frame} {meth : Method} {c : Code} {args : Array Value} {A : Nat → Prop} {D : va_G} {k : Nat → ClassId} {t : Nat → Nat} (X : BX l D k t p s m args meth c cX1_sumOfTruths 4 RX1 (some .long) A) (b0 : Nat → Nat) (o0 : Nat) (v_truths : FJ) (v_rests : FI) (v_marks : FI) (v_numbers : FJ) (N : Nat) (out : Int64) (K25 : Int64 → Int32 → Option (Int64)) (hK25 : ∀ (i1' : Int64) (i2' : Int32) (H : Heap) (locs : List Loc) (ls : Array Slot), va_P D vwCl [W_Braid k b0 o0 v_truths v_rests v_marks v_numbers].flatten H → va_D A [W_Braid k b0 o0 v_truths v_rests v_marks v_numbers].flatten → va_S A s.heap H locs → lv_has ls 4 [(1, .long i1')] → K25 i1' i2' = some out → W p l e rm_Braid_sumOfTruths s m args below meth c H locs 0 0 (Q_Braid_sumOfTruths below D k A args s b0 o0 v_truths v_rests v_marks v_numbers out) (F0 m 25 ls [])) : ∀ (n : Nat) (i1 : Int64) (i2 : Int32) (H : Heap) (locs : List Loc) (ls : Array Slot), va_P D vwCl [W_Braid k b0 o0 v_truths v_rests v_marks v_numbers].flatten H → va_D A [W_Braid k b0 o0 v_truths v_rests v_marks v_numbers].flatten → va_S A s.heap H locs → lv_has ls 4 [(0, .ref (b0 o0)), (1, .long i1), (3, .int i2)] → f_Braid_sumOfTruths_L4 v_truths K25 n i1 i2 = some out → W p l e rm_Braid_sumOfTruths s m args below meth c H locs 0 0 (Q_Braid_sumOfTruths below D k A args s b0 o0 v_truths v_rests v_marks v_numbers out) (F0 m 4 ls []) := by
  have hx := X.1.1
  have hb := X.1.2.1
  have hml := X.1.2.2.1
  have hown := X.1.2.2.2.1
  have hts := X.1.2.2.2.2
  intro n
  induction n with
  | zero =>
    intro i1 i2 H locs ls hP hD hS hl hf
    rw [f_Braid_sumOfTruths_L4] at hf
    cases hf
  | succ n ih =>
    intro i1 i2 H locs ls hP hD hS hl hf
    rw [f_Braid_sumOfTruths_L4] at hf
    refine lv_iload_n hx hb dX1_sumOfTruths_4 rfl (lv_at hl 2 rfl) ?_
    refine lv_bipush (v := 16) hx hb dX1_sumOfTruths_5 (by decide) ?_
    refine lv_icmp_ge (tgt := 25) hx hb dX1_sumOfTruths_7 (by decide) (fun hc => ?_) (fun hc => ?_)
    · have hf := ofpos hf hc
      exact hK25 i1 i2 _ _ _ hP hD hS (lv_sub hl [1] rfl) hf
    · have hf := ofneg hf hc
      refine lv_lload_n hx hb dX1_sumOfTruths_10 rfl (lv_at hl 1 rfl) ?_
      refine lv_aload_n hx hb dX1_sumOfTruths_11 rfl (lv_at hl 0 rfl) ?_
      refine kget (v := .ref (b0 (o0+1))) X hP ff_X1_9 0 rfl rfl dX1_sumOfTruths_12 ?_
      refine lv_iload_n hx hb dX1_sumOfTruths_15 rfl (lv_at hl 2 rfl) ?_
      obtain ⟨hc, hf⟩ := ofck hf
      refine klald (f := v_truths) (n := 16) X hP 1 rfl hc dX1_sumOfTruths_16 ?_
      refine lv_ladd hx hb dX1_sumOfTruths_17 ?_
      refine lv_lstore_n (lv' := [(1, .long (i1 + (v_truths i2.toNatClampNeg))), (0, .ref (b0 o0)), (3, .int i2)]) hx hb dX1_sumOfTruths_18 rfl hl (by decide) rfl (fun ls hl => ?_)
      refine lv_iinc (v := i2 + 1) (lv' := [(3, .int (i2 + 1)), (1, .long (i1 + (v_truths i2.toNatClampNeg))), (0, .ref (b0 o0))]) hx hb dX1_sumOfTruths_19 hl (k := 2) rfl rfl (by decide) rfl (fun ls hl => ?_)
      refine lv_goto (tgt := 4) hx hb dX1_sumOfTruths_22 (by decide) ?_
      exact ih (i1 + (v_truths i2.toNatClampNeg)) (i2 + 1) _ _ _ hP hD hS (lv_sub hl [2, 1, 0] rfl) hf
set_option maxRecDepth 100000 in
set_option maxHeartbeats 1000000 in
theorem c_Braid_sumOfTruths (l : Launch) (D : va_G) (k : Nat → ClassId) (t : Nat → Nat) (b0 : Nat → Nat) (o0 : Nat) (v_truths : FJ) (v_rests : FI) (v_marks : FI) (v_numbers : FJ) (N : Nat) (out : Int64) (hf : f_Braid_sumOfTruths N v_truths = some out) : CT l D k t yX1_sumOfTruths cX1_sumOfTruths 4 (some .long) rm_Braid_sumOfTruths [.ref (b0 o0)] [W_Braid k b0 o0 v_truths v_rests v_marks v_numbers].flatten (some (.long out)) [W_Braid k b0 o0 v_truths v_rests v_marks v_numbers].flatten := by
  refine kofW (by decide) (Nat.le_of_ble_eq_true rfl) ?_
  intro p e s m below meth c A ls X hP hD hS hl
  have hx := X.1.1
  have hb := X.1.2.1
  have hml := X.1.2.2.1
  have hown := X.1.2.2.2.1
  have hts := X.1.2.2.2.2
  have hl : lv_has ls 4 [(0, .ref (b0 o0))] := hl
  rw [f_Braid_sumOfTruths] at hf
  refine lv_lconst (v := 0) hx hb dX1_sumOfTruths_0 (by decide) ?_
  refine lv_lstore_n (lv' := [(1, .long 0), (0, .ref (b0 o0))]) hx hb dX1_sumOfTruths_1 rfl hl (by decide) rfl (fun ls hl => ?_)
  refine lv_iconst (v := 0) hx hb dX1_sumOfTruths_2 (by decide) ?_
  refine lv_istore_n (lv' := [(3, .int 0), (1, .long 0), (0, .ref (b0 o0))]) hx hb dX1_sumOfTruths_3 rfl hl (by decide) rfl (fun ls hl => ?_)
  refine w_Braid_sumOfTruths_L4 X b0 o0 v_truths v_rests v_marks v_numbers N out _ ?_ N 0 0 _ _ _ hP hD hS (lv_sub hl [2, 1, 0] rfl) hf
  · intro i3 i4 H locs ls hP hD hS hl hf
    refine lv_lload_n hx hb dX1_sumOfTruths_25 rfl (lv_at hl 0 rfl) ?_
    have hf := Option.some.inj hf
    subst hf
    exact klret (v := i3) X hP hD hS dX1_sumOfTruths_26
/-! Braid_sumOfNumbers: long sumOfNumbers(); -/
abbrev rm_Braid_sumOfNumbers : Room := ({ frames := 0, cells := 0, slots := 0, locals := 0 } : Room)
def f_Braid_sumOfNumbers_L4 (v_numbers : FJ) (K25 : Int64 → Int32 → Option (Int64)) : Nat → Int64 → Int32 → Option (Int64)
  | 0, _, _ => none
  | n + 1, i1, i2 => if 16 ≤ i2 then K25 i1 i2 else if ck i2 16 = true then f_Braid_sumOfNumbers_L4 v_numbers K25 n (i1 + (v_numbers i2.toNatClampNeg)) (i2 + 1) else none
def f_Braid_sumOfNumbers (N : Nat) (v_numbers : FJ) : Option (Int64) := f_Braid_sumOfNumbers_L4 v_numbers (fun i3 i4 => some i3) N 0 0
abbrev Q_Braid_sumOfNumbers (below : List Frame) (D : va_G) (k : Nat → ClassId) (A : Nat → Prop) (args : Array Value) (s : State) (b0 : Nat → Nat) (o0 : Nat) (v_truths : FJ) (v_rests : FI) (v_marks : FI) (v_numbers : FJ) (out : Int64) : State → Prop := MQ below (QW D k A (some (.long out)) [W_Braid k b0 o0 v_truths v_rests v_marks v_numbers].flatten) args s 0 0 A
set_option maxRecDepth 100000 in
set_option maxHeartbeats 1000000 in
theorem w_Braid_sumOfNumbers_L4 {p : Program} {l : Launch} {e : Env} {s : State} {m : MethodId} {below : List Frame} {meth : Method} {c : Code} {args : Array Value} {A : Nat → Prop} {D : va_G} {k : Nat → ClassId} {t : Nat → Nat} (X : BX l D k t p s m args meth c cX1_sumOfNumbers 4 RX1 (some .long) A) (b0 : Nat → Nat) (o0 : Nat) (v_truths : FJ) (v_rests : FI) (v_marks : FI) (v_numbers : FJ) (N : Nat) (out : Int64) (K25 : Int64 → Int32 → Option (Int64)) (hK25 : ∀ (i1' : Int64) (i2' : Int32) (H : Heap) (locs : List Loc) (ls : Array Slot), va_P D vwCl [W_Braid k b0 o0 v_truths v_rests v_marks v_numbers].flatten H → va_D A [W_Braid k b0 o0 v_truths v_rests v_marks v_numbers].flatten → va_S A s.heap H locs → lv_has ls 4 [(1, .long i1')] → K25 i1' i2' = some out → W p l e rm_Braid_sumOfNumbers s m args below meth c H locs 0 0 (Q_Braid_sumOfNumbers below D k A args s b0 o0 v_truths v_rests v_marks v_numbers out) (F0 m 25 ls [])) : ∀ (n : Nat) (i1 : Int64) (i2 : Int32) (H : Heap) (locs : List Loc) (ls : Array Slot), va_P D vwCl [W_Braid k b0 o0 v_truths v_rests v_marks v_numbers].flatten H → va_D A [W_Braid k b0 o0 v_truths v_rests v_marks v_numbers].flatten → va_S A s.heap H locs → lv_has ls 4 [(0, .ref (b0 o0)), (1, .long i1), (3, .int i2)] → f_Braid_sumOfNumbers_L4 v_numbers K25 n i1 i2 = some out → W p l e rm_Braid_sumOfNumbers s m args below meth c H locs 0 0 (Q_Braid_sumOfNumbers below D k A args s b0 o0 v_truths v_rests v_marks v_numbers out) (F0 m 4 ls []) := by
  have hx := X.1.1
  have hb := X.1.2.1
  have hml := X.1.2.2.1
  have hown := X.1.2.2.2.1
  have hts := X.1.2.2.2.2
  intro n
  induction n with
  | zero =>
    intro i1 i2 H locs ls hP hD hS hl hf
    rw [f_Braid_sumOfNumbers_L4] at hf
    cases hf
  | succ n ih =>
    intro i1 i2 H locs ls hP hD hS hl hf
    rw [f_Braid_sumOfNumbers_L4] at hf
    refine lv_iload_n hx hb dX1_sumOfNumbers_4 rfl (lv_at hl 2 rfl) ?_
    refine lv_bipush (v := 16) hx hb dX1_sumOfNumbers_5 (by decide) ?_
    refine lv_icmp_ge (tgt := 25) hx hb dX1_sumOfNumbers_7 (by decide) (fun hc => ?_) (fun hc => ?_)
    · have hf := ofpos hf hc
      exact hK25 i1 i2 _ _ _ hP hD hS (lv_sub hl [1] rfl) hf
    · have hf := ofneg hf hc
      refine lv_lload_n hx hb dX1_sumOfNumbers_10 rfl (lv_at hl 1 rfl) ?_
      refine lv_aload_n hx hb dX1_sumOfNumbers_11 rfl (lv_at hl 0 rfl) ?_
      refine kget (v := .ref (b0 (o0+4))) X hP ff_X1_22 0 rfl rfl dX1_sumOfNumbers_12 ?_
      refine lv_iload_n hx hb dX1_sumOfNumbers_15 rfl (lv_at hl 2 rfl) ?_
      obtain ⟨hc, hf⟩ := ofck hf
      refine klald (f := v_numbers) (n := 16) X hP 4 rfl hc dX1_sumOfNumbers_16 ?_
      refine lv_ladd hx hb dX1_sumOfNumbers_17 ?_
      refine lv_lstore_n (lv' := [(1, .long (i1 + (v_numbers i2.toNatClampNeg))), (0, .ref (b0 o0)), (3, .int i2)]) hx hb dX1_sumOfNumbers_18 rfl hl (by decide) rfl (fun ls hl => ?_)
      refine lv_iinc (v := i2 + 1) (lv' := [(3, .int (i2 + 1)), (1, .long (i1 + (v_numbers i2.toNatClampNeg))), (0, .ref (b0 o0))]) hx hb dX1_sumOfNumbers_19 hl (k := 2) rfl rfl (by decide) rfl (fun ls hl => ?_)
      refine lv_goto (tgt := 4) hx hb dX1_sumOfNumbers_22 (by decide) ?_
      exact ih (i1 + (v_numbers i2.toNatClampNeg)) (i2 + 1) _ _ _ hP hD hS (lv_sub hl [2, 1, 0] rfl) hf
set_option maxRecDepth 100000 in
set_option maxHeartbeats 1000000 in
theorem c_Braid_sumOfNumbers (l : Launch) (D : va_G) (k : Nat → ClassId) (t : Nat → Nat) (b0 : Nat → Nat) (o0 : Nat) (v_truths : FJ) (v_rests : FI) (v_marks : FI) (v_numbers : FJ) (N : Nat) (out : Int64) (hf : f_Braid_sumOfNumbers N v_numbers = some out) : CT l D k t yX1_sumOfNumbers cX1_sumOfNumbers 4 (some .long) rm_Braid_sumOfNumbers [.ref (b0 o0)] [W_Braid k b0 o0 v_truths v_rests v_marks v_numbers].flatten (some (.long out)) [W_Braid k b0 o0 v_truths v_rests v_marks v_numbers].flatten := by
  refine kofW (by decide) (Nat.le_of_ble_eq_true rfl) ?_
  intro p e s m below meth c A ls X hP hD hS hl
  have hx := X.1.1
  have hb := X.1.2.1
  have hml := X.1.2.2.1
  have hown := X.1.2.2.2.1
  have hts := X.1.2.2.2.2
  have hl : lv_has ls 4 [(0, .ref (b0 o0))] := hl
  rw [f_Braid_sumOfNumbers] at hf
  refine lv_lconst (v := 0) hx hb dX1_sumOfNumbers_0 (by decide) ?_
  refine lv_lstore_n (lv' := [(1, .long 0), (0, .ref (b0 o0))]) hx hb dX1_sumOfNumbers_1 rfl hl (by decide) rfl (fun ls hl => ?_)
  refine lv_iconst (v := 0) hx hb dX1_sumOfNumbers_2 (by decide) ?_
  refine lv_istore_n (lv' := [(3, .int 0), (1, .long 0), (0, .ref (b0 o0))]) hx hb dX1_sumOfNumbers_3 rfl hl (by decide) rfl (fun ls hl => ?_)
  refine w_Braid_sumOfNumbers_L4 X b0 o0 v_truths v_rests v_marks v_numbers N out _ ?_ N 0 0 _ _ _ hP hD hS (lv_sub hl [2, 1, 0] rfl) hf
  · intro i3 i4 H locs ls hP hD hS hl hf
    refine lv_lload_n hx hb dX1_sumOfNumbers_25 rfl (lv_at hl 0 rfl) ?_
    have hf := Option.some.inj hf
    subst hf
    exact klret (v := i3) X hP hD hS dX1_sumOfNumbers_26
/-! Decoder_decodeOverflows: void decodeOverflows(CounterBraid$Form, CounterBraid$Braid); -/
abbrev rm_Decoder_decodeOverflows : Room := ({ frames := 4, cells := 0, slots := 0, locals := 90 } : Room)
def f_Decoder_decodeOverflows_L9 (v2_numbers : FJ) (K51 : Int32 → FJ → FJ → Option (FJ × FJ × FJ × FJ × FJ × FJ × (Nat → FI) × FI × Int32)) : Nat → Int32 → FJ → FJ → Option (FJ × FJ × FJ × FJ × FJ × FJ × (Nat → FI) × FI × Int32)
  | 0, _, _, _ => none
  | n + 1, i3, c4, c5 => if 16 ≤ i3 then K51 i3 c4 c5 else if ck i3 16 = true then if ck i3 24 = true then if ck i3 16 = true then if ck i3 24 = true then f_Decoder_decodeOverflows_L9 v2_numbers K51 n (i3 + 1) (vp_updL c4 i3.toNatClampNeg (v2_numbers i3.toNatClampNeg)) (vp_updL c5 i3.toNatClampNeg (v2_numbers i3.toNatClampNeg)) else none else none else none else none
def f_Decoder_decodeOverflows_L53 (N : Nat) (c22 : FJ) (v1_counters : Int32) (v1_countersAbove : Int32) (v1_functionsAbove : Int32) (v2_marks : FI) (K100 : Int32 → FJ → FJ → (Nat → FI) → FI → Int32 → Option (FJ × FJ × FJ × FJ × FJ × FJ × (Nat → FI) × FI × Int32)) : Nat → Int32 → FJ → FJ → (Nat → FI) → FI → Int32 → Option (FJ × FJ × FJ × FJ × FJ × FJ × (Nat → FI) × FI × Int32)
  | 0, _, _, _, _, _, _ => none
  | n + 1, i20, c25, c26, c27, c28, c29 => if v1_counters ≤ i20 then K100 i20 c25 c26 c27 c28 c29 else if ck i20 24 = true then if (v2_marks i20.toNatClampNeg) = 1 then (f_Form_placesOfCounter N i20 v1_countersAbove v1_functionsAbove).bind (fun r31 => (f_Bounds_append N r31 ((v2_marks i20.toNatClampNeg).toInt64) c22 c25 c26 c27 c28 c29).bind (fun r32 => f_Decoder_decodeOverflows_L53 N c22 v1_counters v1_countersAbove v1_functionsAbove v2_marks K100 n (i20 + 1) r32.1 r32.2.1 r32.2.2.1 r32.2.2.2.1 r32.2.2.2.2)) else (f_Bounds_append N 0 ((v2_marks i20.toNatClampNeg).toInt64) c22 c25 c26 c27 c28 c29).bind (fun r30 => f_Decoder_decodeOverflows_L53 N c22 v1_counters v1_countersAbove v1_functionsAbove v2_marks K100 n (i20 + 1) r30.1 r30.2.1 r30.2.2.1 r30.2.2.2.1 r30.2.2.2.2) else none
def f_Decoder_decodeOverflows (N : Nat) (v0_overflows_least : FJ) (v0_overflows_greatest : FJ) (v0_overflows_lowerSums : FJ) (v0_overflows_upperSums : FJ) (v0_overflows_lower : FJ) (v0_overflows_upper : FJ) (v0_overflows_places : (Nat → FI)) (v0_overflows_placeCounts : FI) (v0_overflows_things : Int32) (v1_counters : Int32) (v1_countersAbove : Int32) (v1_functionsAbove : Int32) (v1_rounds : Int32) (v2_marks : FI) (v2_numbers : FJ) : Option (FJ × FJ × FJ × FJ × FJ × FJ × (Nat → FI) × FI × Int32) := f_Decoder_decodeOverflows_L9 v2_numbers (fun i15 c16 c17 => f_Decoder_decodeOverflows_L53 N c17 v1_counters v1_countersAbove v1_functionsAbove v2_marks (fun i33 c34 c35 c36 c37 c38 => (f_Bounds_narrow N v1_rounds c16 c17 v0_overflows_lowerSums v0_overflows_upperSums c34 c35 c36 c37 c38).bind (fun r39 => some (c16, c17, r39.2.1, r39.2.2.1, r39.2.2.2.1, r39.2.2.2.2, c36, c37, c38))) N 0 v0_overflows_lower v0_overflows_upper v0_overflows_places v0_overflows_placeCounts 0) N 0 v0_overflows_least v0_overflows_greatest
abbrev Q_Decoder_decodeOverflows (below : List Frame) (D : va_G) (k : Nat → ClassId) (A : Nat → Prop) (args : Array Value) (s : State) (b0 : Nat → Nat) (o0 : Nat) (s0 : DecoderS) (b1 : Nat → Nat) (o1 : Nat) (v1_counters : Int32) (v1_bits : Int32) (v1_functions : Int32) (v1_countersAbove : Int32) (v1_functionsAbove : Int32) (v1_rounds : Int32) (b2 : Nat → Nat) (o2 : Nat) (v2_truths : FJ) (v2_rests : FI) (v2_marks : FI) (v2_numbers : FJ) (out : FJ × FJ × FJ × FJ × FJ × FJ × (Nat → FI) × FI × Int32) : State → Prop := MQ below (QW D k A none [W_Decoder k b0 o0 (u_Decoder_overflows s0 ((((out.1, out.2.1), out.2.2.1), (out.2.2.2.1, out.2.2.2.2.1)), ((out.2.2.2.2.2.1, out.2.2.2.2.2.2.1), (out.2.2.2.2.2.2.2.1, out.2.2.2.2.2.2.2.2)))), W_Form k b1 o1 v1_counters v1_bits v1_functions v1_countersAbove v1_functionsAbove v1_rounds, W_Braid k b2 o2 v2_truths v2_rests v2_marks v2_numbers].flatten) args s 0 0 A
set_option maxRecDepth 100000 in
set_option maxHeartbeats 1000000 in
theorem w_Decoder_decodeOverflows_L9 {p : Program} {l : Launch} {e : Env} {s : State} {m : MethodId} {below : List Frame} {meth : Method} {c : Code} {args : Array Value} {A : Nat → Prop} {D : va_G} {k : Nat → ClassId} {t : Nat → Nat} (X : BX l D k t p s m args meth c cX2_decodeOverflows 5 RX2 none A) (b0 : Nat → Nat) (o0 : Nat) (s0 : DecoderS) (b1 : Nat → Nat) (o1 : Nat) (v1_counters : Int32) (v1_bits : Int32) (v1_functions : Int32) (v1_countersAbove : Int32) (v1_functionsAbove : Int32) (v1_rounds : Int32) (b2 : Nat → Nat) (o2 : Nat) (v2_truths : FJ) (v2_rests : FI) (v2_marks : FI) (v2_numbers : FJ) (N : Nat) (c6 : FJ) (c7 : FJ) (c8 : FJ) (c9 : FJ) (c10 : (Nat → FI)) (c11 : FI) (c12 : Int32) (out : FJ × FJ × FJ × FJ × FJ × FJ × (Nat → FI) × FI × Int32) (K51 : Int32 → FJ → FJ → Option (FJ × FJ × FJ × FJ × FJ × FJ × (Nat → FI) × FI × Int32)) (hK51 : ∀ (i3' : Int32) (c4' : FJ) (c5' : FJ) (H : Heap) (locs : List Loc) (ls : Array Slot), va_P D vwCl [W_Decoder k b0 o0 (u_Decoder_overflows s0 ((((c4', c5'), c6), (c7, c8)), ((c9, c10), (c11, c12)))), W_Form k b1 o1 v1_counters v1_bits v1_functions v1_countersAbove v1_functionsAbove v1_rounds, W_Braid k b2 o2 v2_truths v2_rests v2_marks v2_numbers].flatten H → va_D A [W_Decoder k b0 o0 (u_Decoder_overflows s0 ((((c4', c5'), c6), (c7, c8)), ((c9, c10), (c11, c12)))), W_Form k b1 o1 v1_counters v1_bits v1_functions v1_countersAbove v1_functionsAbove v1_rounds, W_Braid k b2 o2 v2_truths v2_rests v2_marks v2_numbers].flatten → va_S A s.heap H locs → lv_has ls 5 [(0, .ref (b0 o0)), (1, .ref (b1 o1)), (2, .ref (b2 o2))] → K51 i3' c4' c5' = some out → W p l e rm_Decoder_decodeOverflows s m args below meth c H locs 0 0 (Q_Decoder_decodeOverflows below D k A args s b0 o0 s0 b1 o1 v1_counters v1_bits v1_functions v1_countersAbove v1_functionsAbove v1_rounds b2 o2 v2_truths v2_rests v2_marks v2_numbers out) (F0 m 51 ls [])) : ∀ (n : Nat) (i3 : Int32) (c4 : FJ) (c5 : FJ) (H : Heap) (locs : List Loc) (ls : Array Slot), va_P D vwCl [W_Decoder k b0 o0 (u_Decoder_overflows s0 ((((c4, c5), c6), (c7, c8)), ((c9, c10), (c11, c12)))), W_Form k b1 o1 v1_counters v1_bits v1_functions v1_countersAbove v1_functionsAbove v1_rounds, W_Braid k b2 o2 v2_truths v2_rests v2_marks v2_numbers].flatten H → va_D A [W_Decoder k b0 o0 (u_Decoder_overflows s0 ((((c4, c5), c6), (c7, c8)), ((c9, c10), (c11, c12)))), W_Form k b1 o1 v1_counters v1_bits v1_functions v1_countersAbove v1_functionsAbove v1_rounds, W_Braid k b2 o2 v2_truths v2_rests v2_marks v2_numbers].flatten → va_S A s.heap H locs → lv_has ls 5 [(0, .ref (b0 o0)), (1, .ref (b1 o1)), (2, .ref (b2 o2)), (3, .int i3)] → f_Decoder_decodeOverflows_L9 v2_numbers K51 n i3 c4 c5 = some out → W p l e rm_Decoder_decodeOverflows s m args below meth c H locs 0 0 (Q_Decoder_decodeOverflows below D k A args s b0 o0 s0 b1 o1 v1_counters v1_bits v1_functions v1_countersAbove v1_functionsAbove v1_rounds b2 o2 v2_truths v2_rests v2_marks v2_numbers out) (F0 m 9 ls []) := by
  have hx := X.1.1
  have hb := X.1.2.1
  have hml := X.1.2.2.1
  have hown := X.1.2.2.2.1
  have hts := X.1.2.2.2.2
  intro n
  induction n with
  | zero =>
    intro i3 c4 c5 H locs ls hP hD hS hl hf
    rw [f_Decoder_decodeOverflows_L9] at hf
    cases hf
  | succ n ih =>
    intro i3 c4 c5 H locs ls hP hD hS hl hf
    rw [f_Decoder_decodeOverflows_L9] at hf
    refine lv_iload_n hx hb dX2_decodeOverflows_9 rfl (lv_at hl 3 rfl) ?_
    refine lv_bipush (v := 16) hx hb dX2_decodeOverflows_10 (by decide) ?_
    refine lv_icmp_ge (tgt := 51) hx hb dX2_decodeOverflows_12 (by decide) (fun hc => ?_) (fun hc => ?_)
    · have hf := ofpos hf hc
      exact hK51 i3 c4 c5 _ _ _ hP hD hS (lv_sub hl [0, 1, 2] rfl) hf
    · have hf := ofneg hf hc
      refine lv_aload_n hx hb dX2_decodeOverflows_15 rfl (lv_at hl 0 rfl) ?_
      refine kget (v := .ref (b0 (o0+1))) X hP ff_X2_12 0 rfl rfl dX2_decodeOverflows_16 ?_
      refine kget (v := .ref (b0 (o0+2))) X hP ff_X2_24 1 rfl rfl dX2_decodeOverflows_19 ?_
      refine lv_iload_n hx hb dX2_decodeOverflows_22 rfl (lv_at hl 3 rfl) ?_
      refine lv_aload_n hx hb dX2_decodeOverflows_23 rfl (lv_at hl 2 rfl) ?_
      refine kget (v := .ref (b2 (o2+4))) X hP ff_X2_28 68 rfl rfl dX2_decodeOverflows_24 ?_
      refine lv_iload_n hx hb dX2_decodeOverflows_27 rfl (lv_at hl 3 rfl) ?_
      obtain ⟨hc, hf⟩ := ofck hf
      refine klald (f := v2_numbers) (n := 16) X hP 72 rfl hc dX2_decodeOverflows_28 ?_
      obtain ⟨hc, hf⟩ := ofck hf
      generalize hc13 : vp_updL c4 i3.toNatClampNeg (v2_numbers i3.toNatClampNeg) = c13 at hf
      refine klast2 (f := c4) (n := 24) (g := c13) X hP hD hS 2 rfl hc hc13 dX2_decodeOverflows_29 (fun H locs hP hD hS => ?_)
      have hP : va_P D vwCl [W_Decoder k b0 o0 (u_Decoder_overflows s0 ((((c13, c5), c6), (c7, c8)), ((c9, c10), (c11, c12)))), W_Form k b1 o1 v1_counters v1_bits v1_functions v1_countersAbove v1_functionsAbove v1_rounds, W_Braid k b2 o2 v2_truths v2_rests v2_marks v2_numbers].flatten _ := hP
      have hD : va_D A [W_Decoder k b0 o0 (u_Decoder_overflows s0 ((((c13, c5), c6), (c7, c8)), ((c9, c10), (c11, c12)))), W_Form k b1 o1 v1_counters v1_bits v1_functions v1_countersAbove v1_functionsAbove v1_rounds, W_Braid k b2 o2 v2_truths v2_rests v2_marks v2_numbers].flatten := hD
      refine lv_aload_n hx hb dX2_decodeOverflows_30 rfl (lv_at hl 0 rfl) ?_
      refine kget (v := .ref (b0 (o0+1))) X hP ff_X2_12 0 rfl rfl dX2_decodeOverflows_31 ?_
      refine kget (v := .ref (b0 (o0+3))) X hP ff_X2_33 1 rfl rfl dX2_decodeOverflows_34 ?_
      refine lv_iload_n hx hb dX2_decodeOverflows_37 rfl (lv_at hl 3 rfl) ?_
      refine lv_aload_n hx hb dX2_decodeOverflows_38 rfl (lv_at hl 2 rfl) ?_
      refine kget (v := .ref (b2 (o2+4))) X hP ff_X2_28 68 rfl rfl dX2_decodeOverflows_39 ?_
      refine lv_iload_n hx hb dX2_decodeOverflows_42 rfl (lv_at hl 3 rfl) ?_
      obtain ⟨hc, hf⟩ := ofck hf
      refine klald (f := v2_numbers) (n := 16) X hP 72 rfl hc dX2_decodeOverflows_43 ?_
      obtain ⟨hc, hf⟩ := ofck hf
      generalize hc14 : vp_updL c5 i3.toNatClampNeg (v2_numbers i3.toNatClampNeg) = c14 at hf
      refine klast2 (f := c5) (n := 24) (g := c14) X hP hD hS 3 rfl hc hc14 dX2_decodeOverflows_44 (fun H locs hP hD hS => ?_)
      have hP : va_P D vwCl [W_Decoder k b0 o0 (u_Decoder_overflows s0 ((((c13, c14), c6), (c7, c8)), ((c9, c10), (c11, c12)))), W_Form k b1 o1 v1_counters v1_bits v1_functions v1_countersAbove v1_functionsAbove v1_rounds, W_Braid k b2 o2 v2_truths v2_rests v2_marks v2_numbers].flatten _ := hP
      have hD : va_D A [W_Decoder k b0 o0 (u_Decoder_overflows s0 ((((c13, c14), c6), (c7, c8)), ((c9, c10), (c11, c12)))), W_Form k b1 o1 v1_counters v1_bits v1_functions v1_countersAbove v1_functionsAbove v1_rounds, W_Braid k b2 o2 v2_truths v2_rests v2_marks v2_numbers].flatten := hD
      refine lv_iinc (v := i3 + 1) (lv' := [(3, .int (i3 + 1)), (0, .ref (b0 o0)), (1, .ref (b1 o1)), (2, .ref (b2 o2))]) hx hb dX2_decodeOverflows_45 hl (k := 3) rfl rfl (by decide) rfl (fun ls hl => ?_)
      refine lv_goto (tgt := 9) hx hb dX2_decodeOverflows_48 (by decide) ?_
      exact ih (i3 + 1) c13 c14 _ _ _ hP hD hS (lv_sub hl [1, 2, 3, 0] rfl) hf
set_option maxRecDepth 100000 in
set_option maxHeartbeats 1000000 in
theorem w_Decoder_decodeOverflows_L53 {p : Program} {l : Launch} {e : Env} {s : State} {m : MethodId} {below : List Frame} {meth : Method} {c : Code} {args : Array Value} {A : Nat → Prop} {D : va_G} {k : Nat → ClassId} {t : Nat → Nat} (X : BX l D k t p s m args meth c cX2_decodeOverflows 5 RX2 none A) (b0 : Nat → Nat) (o0 : Nat) (s0 : DecoderS) (b1 : Nat → Nat) (o1 : Nat) (v1_counters : Int32) (v1_bits : Int32) (v1_functions : Int32) (v1_countersAbove : Int32) (v1_functionsAbove : Int32) (v1_rounds : Int32) (b2 : Nat → Nat) (o2 : Nat) (v2_truths : FJ) (v2_rests : FI) (v2_marks : FI) (v2_numbers : FJ) (N : Nat) (c21 : FJ) (c22 : FJ) (c23 : FJ) (c24 : FJ) (out : FJ × FJ × FJ × FJ × FJ × FJ × (Nat → FI) × FI × Int32) (K100 : Int32 → FJ → FJ → (Nat → FI) → FI → Int32 → Option (FJ × FJ × FJ × FJ × FJ × FJ × (Nat → FI) × FI × Int32)) (hK100 : ∀ (i20' : Int32) (c25' : FJ) (c26' : FJ) (c27' : (Nat → FI)) (c28' : FI) (c29' : Int32) (H : Heap) (locs : List Loc) (ls : Array Slot), va_P D vwCl [W_Decoder k b0 o0 (u_Decoder_overflows s0 ((((c21, c22), c23), (c24, c25')), ((c26', c27'), (c28', c29')))), W_Form k b1 o1 v1_counters v1_bits v1_functions v1_countersAbove v1_functionsAbove v1_rounds, W_Braid k b2 o2 v2_truths v2_rests v2_marks v2_numbers].flatten H → va_D A [W_Decoder k b0 o0 (u_Decoder_overflows s0 ((((c21, c22), c23), (c24, c25')), ((c26', c27'), (c28', c29')))), W_Form k b1 o1 v1_counters v1_bits v1_functions v1_countersAbove v1_functionsAbove v1_rounds, W_Braid k b2 o2 v2_truths v2_rests v2_marks v2_numbers].flatten → va_S A s.heap H locs → lv_has ls 5 [(0, .ref (b0 o0)), (1, .ref (b1 o1))] → K100 i20' c25' c26' c27' c28' c29' = some out → W p l e rm_Decoder_decodeOverflows s m args below meth c H locs 0 0 (Q_Decoder_decodeOverflows below D k A args s b0 o0 s0 b1 o1 v1_counters v1_bits v1_functions v1_countersAbove v1_functionsAbove v1_rounds b2 o2 v2_truths v2_rests v2_marks v2_numbers out) (F0 m 100 ls [])) : ∀ (n : Nat) (i20 : Int32) (c25 : FJ) (c26 : FJ) (c27 : (Nat → FI)) (c28 : FI) (c29 : Int32) (H : Heap) (locs : List Loc) (ls : Array Slot), va_P D vwCl [W_Decoder k b0 o0 (u_Decoder_overflows s0 ((((c21, c22), c23), (c24, c25)), ((c26, c27), (c28, c29)))), W_Form k b1 o1 v1_counters v1_bits v1_functions v1_countersAbove v1_functionsAbove v1_rounds, W_Braid k b2 o2 v2_truths v2_rests v2_marks v2_numbers].flatten H → va_D A [W_Decoder k b0 o0 (u_Decoder_overflows s0 ((((c21, c22), c23), (c24, c25)), ((c26, c27), (c28, c29)))), W_Form k b1 o1 v1_counters v1_bits v1_functions v1_countersAbove v1_functionsAbove v1_rounds, W_Braid k b2 o2 v2_truths v2_rests v2_marks v2_numbers].flatten → va_S A s.heap H locs → lv_has ls 5 [(0, .ref (b0 o0)), (1, .ref (b1 o1)), (2, .ref (b2 o2)), (3, .int i20)] → f_Decoder_decodeOverflows_L53 N c22 v1_counters v1_countersAbove v1_functionsAbove v2_marks K100 n i20 c25 c26 c27 c28 c29 = some out → W p l e rm_Decoder_decodeOverflows s m args below meth c H locs 0 0 (Q_Decoder_decodeOverflows below D k A args s b0 o0 s0 b1 o1 v1_counters v1_bits v1_functions v1_countersAbove v1_functionsAbove v1_rounds b2 o2 v2_truths v2_rests v2_marks v2_numbers out) (F0 m 53 ls []) := by
  have hx := X.1.1
  have hb := X.1.2.1
  have hml := X.1.2.2.1
  have hown := X.1.2.2.2.1
  have hts := X.1.2.2.2.2
  intro n
  induction n with
  | zero =>
    intro i20 c25 c26 c27 c28 c29 H locs ls hP hD hS hl hf
    rw [f_Decoder_decodeOverflows_L53] at hf
    cases hf
  | succ n ih =>
    intro i20 c25 c26 c27 c28 c29 H locs ls hP hD hS hl hf
    rw [f_Decoder_decodeOverflows_L53] at hf
    refine lv_iload_n hx hb dX2_decodeOverflows_53 rfl (lv_at hl 3 rfl) ?_
    refine lv_aload_n hx hb dX2_decodeOverflows_54 rfl (lv_at hl 1 rfl) ?_
    refine kget (v := .int v1_counters) X hP ff_X2_36 67 rfl rfl dX2_decodeOverflows_55 ?_
    refine lv_icmp_ge (tgt := 100) hx hb dX2_decodeOverflows_58 (by decide) (fun hc => ?_) (fun hc => ?_)
    · have hf := ofpos hf hc
      exact hK100 i20 c25 c26 c27 c28 c29 _ _ _ hP hD hS (lv_sub hl [0, 1] rfl) hf
    · have hf := ofneg hf hc
      refine lv_aload_n hx hb dX2_decodeOverflows_61 rfl (lv_at hl 2 rfl) ?_
      refine kget (v := .ref (b2 (o2+3))) X hP ff_X2_42 68 rfl rfl dX2_decodeOverflows_62 ?_
      refine lv_iload_n hx hb dX2_decodeOverflows_65 rfl (lv_at hl 3 rfl) ?_
      obtain ⟨hc, hf⟩ := ofck hf
      refine kiald (f := v2_marks) (n := 24) X hP 71 rfl hc dX2_decodeOverflows_66 ?_
      refine lv_istore (lv' := [(4, .int (v2_marks i20.toNatClampNeg)), (0, .ref (b0 o0)), (1, .ref (b1 o1)), (2, .ref (b2 o2)), (3, .int i20)]) hx hb dX2_decodeOverflows_67 hl (by decide) rfl (fun ls hl => ?_)
      refine lv_aload_n hx hb dX2_decodeOverflows_69 rfl (lv_at hl 1 rfl) ?_
      refine kget (v := .ref (b0 (o0+1))) X hP ff_X2_12 0 rfl rfl dX2_decodeOverflows_70 ?_
      refine lv_iload hx hb dX2_decodeOverflows_73 (lv_at hl 0 rfl) ?_
      refine lv_iconst (v := 1) hx hb dX2_decodeOverflows_75 (by decide) ?_
      refine lv_icmp_ne (tgt := 87) hx hb dX2_decodeOverflows_76 (by decide) (fun hc => ?_) (fun hc => ?_)
      · have hf := ofneg hf hc
        refine lv_iconst (v := 0) hx hb dX2_decodeOverflows_87 (by decide) ?_
        refine lv_iload hx hb dX2_decodeOverflows_88 (lv_at hl 0 rfl) ?_
        refine lv_i2l (v := (v2_marks i20.toNatClampNeg).toInt64) hx hb dX2_decodeOverflows_90 rfl ?_
        obtain ⟨r30, hg_r30, hf⟩ := ofbind hf
        have hP : va_P D vwCl [[((b0 o0), .inr (2, [.ref (b0 (o0+1)), .ref (b0 (o0+34))]))], W_Bounds k b0 (o0+1) c21 c22 c23 c24 c25 c26 c27 c28 c29, W_Bounds k b0 (o0+34) s0.2.1.1.1.1 s0.2.1.1.1.2 s0.2.1.1.2 s0.2.1.2.1 s0.2.1.2.2 s0.2.2.1.1 s0.2.2.1.2 s0.2.2.2.1 s0.2.2.2.2, W_Form k b1 o1 v1_counters v1_bits v1_functions v1_countersAbove v1_functionsAbove v1_rounds, W_Braid k b2 o2 v2_truths v2_rests v2_marks v2_numbers].flatten _ := hP
        have hD : va_D A [[((b0 o0), .inr (2, [.ref (b0 (o0+1)), .ref (b0 (o0+34))]))], W_Bounds k b0 (o0+1) c21 c22 c23 c24 c25 c26 c27 c28 c29, W_Bounds k b0 (o0+34) s0.2.1.1.1.1 s0.2.1.1.1.2 s0.2.1.1.2 s0.2.1.2.1 s0.2.1.2.2 s0.2.2.1.1 s0.2.2.1.2 s0.2.2.2.1 s0.2.2.2.2, W_Form k b1 o1 v1_counters v1_bits v1_functions v1_countersAbove v1_functionsAbove v1_rounds, W_Braid k b2 o2 v2_truths v2_rests v2_marks v2_numbers].flatten := hD
        refine kcV (bs := [[((b0 o0), .inr (2, [.ref (b0 (o0+1)), .ref (b0 (o0+34))]))], W_Bounds k b0 (o0+1) c21 c22 c23 c24 c25 c26 c27 c28 c29, W_Bounds k b0 (o0+34) s0.2.1.1.1.1 s0.2.1.1.1.2 s0.2.1.1.2 s0.2.1.2.1 s0.2.1.2.2 s0.2.2.1.1 s0.2.2.1.2 s0.2.2.2.1 s0.2.2.2.2, W_Form k b1 o1 v1_counters v1_bits v1_functions v1_countersAbove v1_functionsAbove v1_rounds, W_Braid k b2 o2 v2_truths v2_rests v2_marks v2_numbers]) (br := [[((b0 o0), .inr (2, [.ref (b0 (o0+1)), .ref (b0 (o0+34))]))], W_Bounds k b0 (o0+34) s0.2.1.1.1.1 s0.2.1.1.1.2 s0.2.1.1.2 s0.2.1.2.1 s0.2.1.2.2 s0.2.2.1.1 s0.2.2.1.2 s0.2.2.2.1 s0.2.2.2.2, W_Form k b1 o1 v1_counters v1_bits v1_functions v1_countersAbove v1_functionsAbove v1_rounds, W_Braid k b2 o2 v2_truths v2_rests v2_marks v2_numbers]) (bc := [W_Bounds k b0 (o0+1) c21 c22 c23 c24 c25 c26 c27 c28 c29]) (bc' := [W_Bounds k b0 (o0+1) c21 c22 c23 c24 r30.1 r30.2.1 r30.2.2.1 r30.2.2.2.1 r30.2.2.2.2]) X hP hD hS (c_Bounds_append l D k t b0 (o0+1) c21 c22 c23 c24 c25 c26 c27 c28 c29 0 ((v2_marks i20.toNatClampNeg).toInt64) N r30 hg_r30) mv_X2_50 hl [0, 2, 3, 4] [1] 0 ⟨rfl, rfl⟩ ⟨Nat.le_of_ble_eq_true rfl, Nat.le_of_ble_eq_true rfl⟩ rfl rfl rfl rfl rfl rfl rfl (Nat.le_of_ble_eq_true rfl) dX2_decodeOverflows_91 (fun H locs hP hD hS => ?_)
        have hP : va_P D vwCl [[((b0 o0), .inr (2, [.ref (b0 (o0+1)), .ref (b0 (o0+34))]))], W_Bounds k b0 (o0+34) s0.2.1.1.1.1 s0.2.1.1.1.2 s0.2.1.1.2 s0.2.1.2.1 s0.2.1.2.2 s0.2.2.1.1 s0.2.2.1.2 s0.2.2.2.1 s0.2.2.2.2, W_Form k b1 o1 v1_counters v1_bits v1_functions v1_countersAbove v1_functionsAbove v1_rounds, W_Braid k b2 o2 v2_truths v2_rests v2_marks v2_numbers, W_Bounds k b0 (o0+1) c21 c22 c23 c24 r30.1 r30.2.1 r30.2.2.1 r30.2.2.2.1 r30.2.2.2.2].flatten _ := hP
        have hD : va_D A [[((b0 o0), .inr (2, [.ref (b0 (o0+1)), .ref (b0 (o0+34))]))], W_Bounds k b0 (o0+34) s0.2.1.1.1.1 s0.2.1.1.1.2 s0.2.1.1.2 s0.2.1.2.1 s0.2.1.2.2 s0.2.2.1.1 s0.2.2.1.2 s0.2.2.2.1 s0.2.2.2.2, W_Form k b1 o1 v1_counters v1_bits v1_functions v1_countersAbove v1_functionsAbove v1_rounds, W_Braid k b2 o2 v2_truths v2_rests v2_marks v2_numbers, W_Bounds k b0 (o0+1) c21 c22 c23 c24 r30.1 r30.2.1 r30.2.2.1 r30.2.2.2.1 r30.2.2.2.2].flatten := hD
        refine lv_iinc (v := i20 + 1) (lv' := [(3, .int (i20 + 1)), (4, .int (v2_marks i20.toNatClampNeg)), (0, .ref (b0 o0)), (1, .ref (b1 o1)), (2, .ref (b2 o2))]) hx hb dX2_decodeOverflows_94 hl (k := 4) rfl rfl (by decide) rfl (fun ls hl => ?_)
        refine lv_goto (tgt := 53) hx hb dX2_decodeOverflows_97 (by decide) ?_
        obtain ⟨hP, hD⟩ := B_perm (br := [[((b0 o0), .inr (2, [.ref (b0 (o0+1)), .ref (b0 (o0+34))]))], W_Bounds k b0 (o0+1) c21 c22 c23 c24 r30.1 r30.2.1 r30.2.2.1 r30.2.2.2.1 r30.2.2.2.2, W_Bounds k b0 (o0+34) s0.2.1.1.1.1 s0.2.1.1.1.2 s0.2.1.1.2 s0.2.1.2.1 s0.2.1.2.2 s0.2.2.1.1 s0.2.2.1.2 s0.2.2.2.1 s0.2.2.2.2, W_Form k b1 o1 v1_counters v1_bits v1_functions v1_countersAbove v1_functionsAbove v1_rounds, W_Braid k b2 o2 v2_truths v2_rests v2_marks v2_numbers]) hP hD [0, 4, 1, 2, 3] rfl rfl
        have hP : va_P D vwCl [W_Decoder k b0 o0 (u_Decoder_overflows s0 ((((c21, c22), c23), (c24, r30.1)), ((r30.2.1, r30.2.2.1), (r30.2.2.2.1, r30.2.2.2.2)))), W_Form k b1 o1 v1_counters v1_bits v1_functions v1_countersAbove v1_functionsAbove v1_rounds, W_Braid k b2 o2 v2_truths v2_rests v2_marks v2_numbers].flatten _ := hP
        have hD : va_D A [W_Decoder k b0 o0 (u_Decoder_overflows s0 ((((c21, c22), c23), (c24, r30.1)), ((r30.2.1, r30.2.2.1), (r30.2.2.2.1, r30.2.2.2.2)))), W_Form k b1 o1 v1_counters v1_bits v1_functions v1_countersAbove v1_functionsAbove v1_rounds, W_Braid k b2 o2 v2_truths v2_rests v2_marks v2_numbers].flatten := hD
        exact ih (i20 + 1) r30.1 r30.2.1 r30.2.2.1 r30.2.2.2.1 r30.2.2.2.2 _ _ _ hP hD hS (lv_sub hl [2, 3, 4, 0] rfl) hf
      · have hf := ofpos hf hc
        refine lv_aload_n hx hb dX2_decodeOverflows_79 rfl (lv_at hl 2 rfl) ?_
        refine lv_iload_n hx hb dX2_decodeOverflows_80 rfl (lv_at hl 4 rfl) ?_
        obtain ⟨r31, hg_r31, hf⟩ := ofbind hf
        refine kcV (bs := [W_Decoder k b0 o0 (u_Decoder_overflows s0 ((((c21, c22), c23), (c24, c25)), ((c26, c27), (c28, c29)))), W_Form k b1 o1 v1_counters v1_bits v1_functions v1_countersAbove v1_functionsAbove v1_rounds, W_Braid k b2 o2 v2_truths v2_rests v2_marks v2_numbers]) (br := [W_Decoder k b0 o0 (u_Decoder_overflows s0 ((((c21, c22), c23), (c24, c25)), ((c26, c27), (c28, c29)))), W_Braid k b2 o2 v2_truths v2_rests v2_marks v2_numbers]) (bc := [W_Form k b1 o1 v1_counters v1_bits v1_functions v1_countersAbove v1_functionsAbove v1_rounds]) (bc' := [W_Form k b1 o1 v1_counters v1_bits v1_functions v1_countersAbove v1_functionsAbove v1_rounds]) X hP hD hS (c_Form_placesOfCounter l D k t b1 o1 v1_counters v1_bits v1_functions v1_countersAbove v1_functionsAbove v1_rounds i20 N r31 hg_r31) mv_X2_46 hl [0, 2] [1] 3 ⟨rfl, rfl⟩ ⟨Nat.le_of_ble_eq_true rfl, Nat.le_of_ble_eq_true rfl⟩ rfl rfl rfl rfl rfl rfl rfl (Nat.le_of_ble_eq_true rfl) dX2_decodeOverflows_81 (fun H locs hP hD hS => ?_)
        have hP : va_P D vwCl [W_Decoder k b0 o0 (u_Decoder_overflows s0 ((((c21, c22), c23), (c24, c25)), ((c26, c27), (c28, c29)))), W_Braid k b2 o2 v2_truths v2_rests v2_marks v2_numbers, W_Form k b1 o1 v1_counters v1_bits v1_functions v1_countersAbove v1_functionsAbove v1_rounds].flatten _ := hP
        have hD : va_D A [W_Decoder k b0 o0 (u_Decoder_overflows s0 ((((c21, c22), c23), (c24, c25)), ((c26, c27), (c28, c29)))), W_Braid k b2 o2 v2_truths v2_rests v2_marks v2_numbers, W_Form k b1 o1 v1_counters v1_bits v1_functions v1_countersAbove v1_functionsAbove v1_rounds].flatten := hD
        refine lv_goto (tgt := 88) hx hb dX2_decodeOverflows_84 (by decide) ?_
        refine lv_iload hx hb dX2_decodeOverflows_88 (lv_at hl 0 rfl) ?_
        refine lv_i2l (v := (v2_marks i20.toNatClampNeg).toInt64) hx hb dX2_decodeOverflows_90 rfl ?_
        obtain ⟨r32, hg_r32, hf⟩ := ofbind hf
        have hP : va_P D vwCl [[((b0 o0), .inr (2, [.ref (b0 (o0+1)), .ref (b0 (o0+34))]))], W_Bounds k b0 (o0+1) c21 c22 c23 c24 c25 c26 c27 c28 c29, W_Bounds k b0 (o0+34) s0.2.1.1.1.1 s0.2.1.1.1.2 s0.2.1.1.2 s0.2.1.2.1 s0.2.1.2.2 s0.2.2.1.1 s0.2.2.1.2 s0.2.2.2.1 s0.2.2.2.2, W_Braid k b2 o2 v2_truths v2_rests v2_marks v2_numbers, W_Form k b1 o1 v1_counters v1_bits v1_functions v1_countersAbove v1_functionsAbove v1_rounds].flatten _ := hP
        have hD : va_D A [[((b0 o0), .inr (2, [.ref (b0 (o0+1)), .ref (b0 (o0+34))]))], W_Bounds k b0 (o0+1) c21 c22 c23 c24 c25 c26 c27 c28 c29, W_Bounds k b0 (o0+34) s0.2.1.1.1.1 s0.2.1.1.1.2 s0.2.1.1.2 s0.2.1.2.1 s0.2.1.2.2 s0.2.2.1.1 s0.2.2.1.2 s0.2.2.2.1 s0.2.2.2.2, W_Braid k b2 o2 v2_truths v2_rests v2_marks v2_numbers, W_Form k b1 o1 v1_counters v1_bits v1_functions v1_countersAbove v1_functionsAbove v1_rounds].flatten := hD
        refine kcV (bs := [[((b0 o0), .inr (2, [.ref (b0 (o0+1)), .ref (b0 (o0+34))]))], W_Bounds k b0 (o0+1) c21 c22 c23 c24 c25 c26 c27 c28 c29, W_Bounds k b0 (o0+34) s0.2.1.1.1.1 s0.2.1.1.1.2 s0.2.1.1.2 s0.2.1.2.1 s0.2.1.2.2 s0.2.2.1.1 s0.2.2.1.2 s0.2.2.2.1 s0.2.2.2.2, W_Braid k b2 o2 v2_truths v2_rests v2_marks v2_numbers, W_Form k b1 o1 v1_counters v1_bits v1_functions v1_countersAbove v1_functionsAbove v1_rounds]) (br := [[((b0 o0), .inr (2, [.ref (b0 (o0+1)), .ref (b0 (o0+34))]))], W_Bounds k b0 (o0+34) s0.2.1.1.1.1 s0.2.1.1.1.2 s0.2.1.1.2 s0.2.1.2.1 s0.2.1.2.2 s0.2.2.1.1 s0.2.2.1.2 s0.2.2.2.1 s0.2.2.2.2, W_Braid k b2 o2 v2_truths v2_rests v2_marks v2_numbers, W_Form k b1 o1 v1_counters v1_bits v1_functions v1_countersAbove v1_functionsAbove v1_rounds]) (bc := [W_Bounds k b0 (o0+1) c21 c22 c23 c24 c25 c26 c27 c28 c29]) (bc' := [W_Bounds k b0 (o0+1) c21 c22 c23 c24 r32.1 r32.2.1 r32.2.2.1 r32.2.2.2.1 r32.2.2.2.2]) X hP hD hS (c_Bounds_append l D k t b0 (o0+1) c21 c22 c23 c24 c25 c26 c27 c28 c29 r31 ((v2_marks i20.toNatClampNeg).toInt64) N r32 hg_r32) mv_X2_50 hl [0, 2, 3, 4] [1] 0 ⟨rfl, rfl⟩ ⟨Nat.le_of_ble_eq_true rfl, Nat.le_of_ble_eq_true rfl⟩ rfl rfl rfl rfl rfl rfl rfl (Nat.le_of_ble_eq_true rfl) dX2_decodeOverflows_91 (fun H locs hP hD hS => ?_)
        have hP : va_P D vwCl [[((b0 o0), .inr (2, [.ref (b0 (o0+1)), .ref (b0 (o0+34))]))], W_Bounds k b0 (o0+34) s0.2.1.1.1.1 s0.2.1.1.1.2 s0.2.1.1.2 s0.2.1.2.1 s0.2.1.2.2 s0.2.2.1.1 s0.2.2.1.2 s0.2.2.2.1 s0.2.2.2.2, W_Braid k b2 o2 v2_truths v2_rests v2_marks v2_numbers, W_Form k b1 o1 v1_counters v1_bits v1_functions v1_countersAbove v1_functionsAbove v1_rounds, W_Bounds k b0 (o0+1) c21 c22 c23 c24 r32.1 r32.2.1 r32.2.2.1 r32.2.2.2.1 r32.2.2.2.2].flatten _ := hP
        have hD : va_D A [[((b0 o0), .inr (2, [.ref (b0 (o0+1)), .ref (b0 (o0+34))]))], W_Bounds k b0 (o0+34) s0.2.1.1.1.1 s0.2.1.1.1.2 s0.2.1.1.2 s0.2.1.2.1 s0.2.1.2.2 s0.2.2.1.1 s0.2.2.1.2 s0.2.2.2.1 s0.2.2.2.2, W_Braid k b2 o2 v2_truths v2_rests v2_marks v2_numbers, W_Form k b1 o1 v1_counters v1_bits v1_functions v1_countersAbove v1_functionsAbove v1_rounds, W_Bounds k b0 (o0+1) c21 c22 c23 c24 r32.1 r32.2.1 r32.2.2.1 r32.2.2.2.1 r32.2.2.2.2].flatten := hD
        refine lv_iinc (v := i20 + 1) (lv' := [(3, .int (i20 + 1)), (4, .int (v2_marks i20.toNatClampNeg)), (0, .ref (b0 o0)), (1, .ref (b1 o1)), (2, .ref (b2 o2))]) hx hb dX2_decodeOverflows_94 hl (k := 4) rfl rfl (by decide) rfl (fun ls hl => ?_)
        refine lv_goto (tgt := 53) hx hb dX2_decodeOverflows_97 (by decide) ?_
        obtain ⟨hP, hD⟩ := B_perm (br := [[((b0 o0), .inr (2, [.ref (b0 (o0+1)), .ref (b0 (o0+34))]))], W_Bounds k b0 (o0+1) c21 c22 c23 c24 r32.1 r32.2.1 r32.2.2.1 r32.2.2.2.1 r32.2.2.2.2, W_Bounds k b0 (o0+34) s0.2.1.1.1.1 s0.2.1.1.1.2 s0.2.1.1.2 s0.2.1.2.1 s0.2.1.2.2 s0.2.2.1.1 s0.2.2.1.2 s0.2.2.2.1 s0.2.2.2.2, W_Braid k b2 o2 v2_truths v2_rests v2_marks v2_numbers, W_Form k b1 o1 v1_counters v1_bits v1_functions v1_countersAbove v1_functionsAbove v1_rounds]) hP hD [0, 4, 1, 2, 3] rfl rfl
        have hP : va_P D vwCl [W_Decoder k b0 o0 (u_Decoder_overflows s0 ((((c21, c22), c23), (c24, r32.1)), ((r32.2.1, r32.2.2.1), (r32.2.2.2.1, r32.2.2.2.2)))), W_Braid k b2 o2 v2_truths v2_rests v2_marks v2_numbers, W_Form k b1 o1 v1_counters v1_bits v1_functions v1_countersAbove v1_functionsAbove v1_rounds].flatten _ := hP
        have hD : va_D A [W_Decoder k b0 o0 (u_Decoder_overflows s0 ((((c21, c22), c23), (c24, r32.1)), ((r32.2.1, r32.2.2.1), (r32.2.2.2.1, r32.2.2.2.2)))), W_Braid k b2 o2 v2_truths v2_rests v2_marks v2_numbers, W_Form k b1 o1 v1_counters v1_bits v1_functions v1_countersAbove v1_functionsAbove v1_rounds].flatten := hD
        obtain ⟨hP, hD⟩ := B_perm (br := [W_Decoder k b0 o0 (u_Decoder_overflows s0 ((((c21, c22), c23), (c24, r32.1)), ((r32.2.1, r32.2.2.1), (r32.2.2.2.1, r32.2.2.2.2)))), W_Form k b1 o1 v1_counters v1_bits v1_functions v1_countersAbove v1_functionsAbove v1_rounds, W_Braid k b2 o2 v2_truths v2_rests v2_marks v2_numbers]) hP hD [0, 2, 1] rfl rfl
        have hP : va_P D vwCl [W_Decoder k b0 o0 (u_Decoder_overflows s0 ((((c21, c22), c23), (c24, r32.1)), ((r32.2.1, r32.2.2.1), (r32.2.2.2.1, r32.2.2.2.2)))), W_Form k b1 o1 v1_counters v1_bits v1_functions v1_countersAbove v1_functionsAbove v1_rounds, W_Braid k b2 o2 v2_truths v2_rests v2_marks v2_numbers].flatten _ := hP
        have hD : va_D A [W_Decoder k b0 o0 (u_Decoder_overflows s0 ((((c21, c22), c23), (c24, r32.1)), ((r32.2.1, r32.2.2.1), (r32.2.2.2.1, r32.2.2.2.2)))), W_Form k b1 o1 v1_counters v1_bits v1_functions v1_countersAbove v1_functionsAbove v1_rounds, W_Braid k b2 o2 v2_truths v2_rests v2_marks v2_numbers].flatten := hD
        exact ih (i20 + 1) r32.1 r32.2.1 r32.2.2.1 r32.2.2.2.1 r32.2.2.2.2 _ _ _ hP hD hS (lv_sub hl [2, 3, 4, 0] rfl) hf
set_option maxRecDepth 100000 in
set_option maxHeartbeats 1000000 in
theorem c_Decoder_decodeOverflows (l : Launch) (D : va_G) (k : Nat → ClassId) (t : Nat → Nat) (b0 : Nat → Nat) (o0 : Nat) (s0 : DecoderS) (b1 : Nat → Nat) (o1 : Nat) (v1_counters : Int32) (v1_bits : Int32) (v1_functions : Int32) (v1_countersAbove : Int32) (v1_functionsAbove : Int32) (v1_rounds : Int32) (b2 : Nat → Nat) (o2 : Nat) (v2_truths : FJ) (v2_rests : FI) (v2_marks : FI) (v2_numbers : FJ) (N : Nat) (out : FJ × FJ × FJ × FJ × FJ × FJ × (Nat → FI) × FI × Int32) (hf : f_Decoder_decodeOverflows N s0.1.1.1.1.1 s0.1.1.1.1.2 s0.1.1.1.2 s0.1.1.2.1 s0.1.1.2.2 s0.1.2.1.1 s0.1.2.1.2 s0.1.2.2.1 s0.1.2.2.2 v1_counters v1_countersAbove v1_functionsAbove v1_rounds v2_marks v2_numbers = some out) : CT l D k t yX2_decodeOverflows cX2_decodeOverflows 5 none rm_Decoder_decodeOverflows [.ref (b0 o0), .ref (b1 o1), .ref (b2 o2)] [W_Decoder k b0 o0 s0, W_Form k b1 o1 v1_counters v1_bits v1_functions v1_countersAbove v1_functionsAbove v1_rounds, W_Braid k b2 o2 v2_truths v2_rests v2_marks v2_numbers].flatten none [W_Decoder k b0 o0 (u_Decoder_overflows s0 ((((out.1, out.2.1), out.2.2.1), (out.2.2.2.1, out.2.2.2.2.1)), ((out.2.2.2.2.2.1, out.2.2.2.2.2.2.1), (out.2.2.2.2.2.2.2.1, out.2.2.2.2.2.2.2.2)))), W_Form k b1 o1 v1_counters v1_bits v1_functions v1_countersAbove v1_functionsAbove v1_rounds, W_Braid k b2 o2 v2_truths v2_rests v2_marks v2_numbers].flatten := by
  refine kofW (by decide) (Nat.le_of_ble_eq_true rfl) ?_
  intro p e s m below meth c A ls X hP hD hS hl
  have hx := X.1.1
  have hb := X.1.2.1
  have hml := X.1.2.2.1
  have hown := X.1.2.2.2.1
  have hts := X.1.2.2.2.2
  have hl : lv_has ls 5 [(0, .ref (b0 o0)), (1, .ref (b1 o1)), (2, .ref (b2 o2))] := hl
  rw [f_Decoder_decodeOverflows] at hf
  refine lv_aload_n hx hb dX2_decodeOverflows_0 rfl (lv_at hl 0 rfl) ?_
  refine kget (v := .ref (b0 (o0+1))) X hP ff_X2_12 0 rfl rfl dX2_decodeOverflows_1 ?_
  have hP : va_P D vwCl [[((b0 o0), .inr (2, [.ref (b0 (o0+1)), .ref (b0 (o0+34))]))], W_Bounds k b0 (o0+1) s0.1.1.1.1.1 s0.1.1.1.1.2 s0.1.1.1.2 s0.1.1.2.1 s0.1.1.2.2 s0.1.2.1.1 s0.1.2.1.2 s0.1.2.2.1 s0.1.2.2.2, W_Bounds k b0 (o0+34) s0.2.1.1.1.1 s0.2.1.1.1.2 s0.2.1.1.2 s0.2.1.2.1 s0.2.1.2.2 s0.2.2.1.1 s0.2.2.1.2 s0.2.2.2.1 s0.2.2.2.2, W_Form k b1 o1 v1_counters v1_bits v1_functions v1_countersAbove v1_functionsAbove v1_rounds, W_Braid k b2 o2 v2_truths v2_rests v2_marks v2_numbers].flatten _ := hP
  have hD : va_D A [[((b0 o0), .inr (2, [.ref (b0 (o0+1)), .ref (b0 (o0+34))]))], W_Bounds k b0 (o0+1) s0.1.1.1.1.1 s0.1.1.1.1.2 s0.1.1.1.2 s0.1.1.2.1 s0.1.1.2.2 s0.1.2.1.1 s0.1.2.1.2 s0.1.2.2.1 s0.1.2.2.2, W_Bounds k b0 (o0+34) s0.2.1.1.1.1 s0.2.1.1.1.2 s0.2.1.1.2 s0.2.1.2.1 s0.2.1.2.2 s0.2.2.1.1 s0.2.2.1.2 s0.2.2.2.1 s0.2.2.2.2, W_Form k b1 o1 v1_counters v1_bits v1_functions v1_countersAbove v1_functionsAbove v1_rounds, W_Braid k b2 o2 v2_truths v2_rests v2_marks v2_numbers].flatten := hD
  refine kcV (bs := [[((b0 o0), .inr (2, [.ref (b0 (o0+1)), .ref (b0 (o0+34))]))], W_Bounds k b0 (o0+1) s0.1.1.1.1.1 s0.1.1.1.1.2 s0.1.1.1.2 s0.1.1.2.1 s0.1.1.2.2 s0.1.2.1.1 s0.1.2.1.2 s0.1.2.2.1 s0.1.2.2.2, W_Bounds k b0 (o0+34) s0.2.1.1.1.1 s0.2.1.1.1.2 s0.2.1.1.2 s0.2.1.2.1 s0.2.1.2.2 s0.2.2.1.1 s0.2.2.1.2 s0.2.2.2.1 s0.2.2.2.2, W_Form k b1 o1 v1_counters v1_bits v1_functions v1_countersAbove v1_functionsAbove v1_rounds, W_Braid k b2 o2 v2_truths v2_rests v2_marks v2_numbers]) (br := [[((b0 o0), .inr (2, [.ref (b0 (o0+1)), .ref (b0 (o0+34))]))], W_Bounds k b0 (o0+34) s0.2.1.1.1.1 s0.2.1.1.1.2 s0.2.1.1.2 s0.2.1.2.1 s0.2.1.2.2 s0.2.2.1.1 s0.2.2.1.2 s0.2.2.2.1 s0.2.2.2.2, W_Form k b1 o1 v1_counters v1_bits v1_functions v1_countersAbove v1_functionsAbove v1_rounds, W_Braid k b2 o2 v2_truths v2_rests v2_marks v2_numbers]) (bc := [W_Bounds k b0 (o0+1) s0.1.1.1.1.1 s0.1.1.1.1.2 s0.1.1.1.2 s0.1.1.2.1 s0.1.1.2.2 s0.1.2.1.1 s0.1.2.1.2 s0.1.2.2.1 s0.1.2.2.2]) (bc' := [W_Bounds k b0 (o0+1) s0.1.1.1.1.1 s0.1.1.1.1.2 s0.1.1.1.2 s0.1.1.2.1 s0.1.1.2.2 s0.1.2.1.1 s0.1.2.1.2 s0.1.2.2.1 0]) X hP hD hS (c_Bounds_start l D k t b0 (o0+1) s0.1.1.1.1.1 s0.1.1.1.1.2 s0.1.1.1.2 s0.1.1.2.1 s0.1.1.2.2 s0.1.2.1.1 s0.1.2.1.2 s0.1.2.2.1 s0.1.2.2.2) mv_X2_21 hl [0, 2, 3, 4] [1] 0 ⟨rfl, rfl⟩ ⟨Nat.le_of_ble_eq_true rfl, Nat.le_of_ble_eq_true rfl⟩ rfl rfl rfl rfl rfl rfl rfl (Nat.le_of_ble_eq_true rfl) dX2_decodeOverflows_4 (fun H locs hP hD hS => ?_)
  have hP : va_P D vwCl [[((b0 o0), .inr (2, [.ref (b0 (o0+1)), .ref (b0 (o0+34))]))], W_Bounds k b0 (o0+34) s0.2.1.1.1.1 s0.2.1.1.1.2 s0.2.1.1.2 s0.2.1.2.1 s0.2.1.2.2 s0.2.2.1.1 s0.2.2.1.2 s0.2.2.2.1 s0.2.2.2.2, W_Form k b1 o1 v1_counters v1_bits v1_functions v1_countersAbove v1_functionsAbove v1_rounds, W_Braid k b2 o2 v2_truths v2_rests v2_marks v2_numbers, W_Bounds k b0 (o0+1) s0.1.1.1.1.1 s0.1.1.1.1.2 s0.1.1.1.2 s0.1.1.2.1 s0.1.1.2.2 s0.1.2.1.1 s0.1.2.1.2 s0.1.2.2.1 0].flatten _ := hP
  have hD : va_D A [[((b0 o0), .inr (2, [.ref (b0 (o0+1)), .ref (b0 (o0+34))]))], W_Bounds k b0 (o0+34) s0.2.1.1.1.1 s0.2.1.1.1.2 s0.2.1.1.2 s0.2.1.2.1 s0.2.1.2.2 s0.2.2.1.1 s0.2.2.1.2 s0.2.2.2.1 s0.2.2.2.2, W_Form k b1 o1 v1_counters v1_bits v1_functions v1_countersAbove v1_functionsAbove v1_rounds, W_Braid k b2 o2 v2_truths v2_rests v2_marks v2_numbers, W_Bounds k b0 (o0+1) s0.1.1.1.1.1 s0.1.1.1.1.2 s0.1.1.1.2 s0.1.1.2.1 s0.1.1.2.2 s0.1.2.1.1 s0.1.2.1.2 s0.1.2.2.1 0].flatten := hD
  refine lv_iconst (v := 0) hx hb dX2_decodeOverflows_7 (by decide) ?_
  refine lv_istore_n (lv' := [(3, .int 0), (0, .ref (b0 o0)), (1, .ref (b1 o1)), (2, .ref (b2 o2))]) hx hb dX2_decodeOverflows_8 rfl hl (by decide) rfl (fun ls hl => ?_)
  obtain ⟨hP, hD⟩ := B_perm (br := [[((b0 o0), .inr (2, [.ref (b0 (o0+1)), .ref (b0 (o0+34))]))], W_Bounds k b0 (o0+1) s0.1.1.1.1.1 s0.1.1.1.1.2 s0.1.1.1.2 s0.1.1.2.1 s0.1.1.2.2 s0.1.2.1.1 s0.1.2.1.2 s0.1.2.2.1 0, W_Bounds k b0 (o0+34) s0.2.1.1.1.1 s0.2.1.1.1.2 s0.2.1.1.2 s0.2.1.2.1 s0.2.1.2.2 s0.2.2.1.1 s0.2.2.1.2 s0.2.2.2.1 s0.2.2.2.2, W_Form k b1 o1 v1_counters v1_bits v1_functions v1_countersAbove v1_functionsAbove v1_rounds, W_Braid k b2 o2 v2_truths v2_rests v2_marks v2_numbers]) hP hD [0, 4, 1, 2, 3] rfl rfl
  have hP : va_P D vwCl [W_Decoder k b0 o0 (u_Decoder_overflows s0 ((((s0.1.1.1.1.1, s0.1.1.1.1.2), s0.1.1.1.2), (s0.1.1.2.1, s0.1.1.2.2)), ((s0.1.2.1.1, s0.1.2.1.2), (s0.1.2.2.1, 0)))), W_Form k b1 o1 v1_counters v1_bits v1_functions v1_countersAbove v1_functionsAbove v1_rounds, W_Braid k b2 o2 v2_truths v2_rests v2_marks v2_numbers].flatten _ := hP
  have hD : va_D A [W_Decoder k b0 o0 (u_Decoder_overflows s0 ((((s0.1.1.1.1.1, s0.1.1.1.1.2), s0.1.1.1.2), (s0.1.1.2.1, s0.1.1.2.2)), ((s0.1.2.1.1, s0.1.2.1.2), (s0.1.2.2.1, 0)))), W_Form k b1 o1 v1_counters v1_bits v1_functions v1_countersAbove v1_functionsAbove v1_rounds, W_Braid k b2 o2 v2_truths v2_rests v2_marks v2_numbers].flatten := hD
  refine w_Decoder_decodeOverflows_L9 X b0 o0 s0 b1 o1 v1_counters v1_bits v1_functions v1_countersAbove v1_functionsAbove v1_rounds b2 o2 v2_truths v2_rests v2_marks v2_numbers N s0.1.1.1.2 s0.1.1.2.1 s0.1.1.2.2 s0.1.2.1.1 s0.1.2.1.2 s0.1.2.2.1 0 out _ ?_ N 0 s0.1.1.1.1.1 s0.1.1.1.1.2 _ _ _ hP hD hS (lv_sub hl [1, 2, 3, 0] rfl) hf
  · intro i15 c16 c17 H locs ls hP hD hS hl hf
    refine lv_iconst (v := 0) hx hb dX2_decodeOverflows_51 (by decide) ?_
    refine lv_istore_n (lv' := [(3, .int 0), (0, .ref (b0 o0)), (1, .ref (b1 o1)), (2, .ref (b2 o2))]) hx hb dX2_decodeOverflows_52 rfl hl (by decide) rfl (fun ls hl => ?_)
    refine w_Decoder_decodeOverflows_L53 X b0 o0 s0 b1 o1 v1_counters v1_bits v1_functions v1_countersAbove v1_functionsAbove v1_rounds b2 o2 v2_truths v2_rests v2_marks v2_numbers N c16 c17 s0.1.1.1.2 s0.1.1.2.1 out _ ?_ N 0 s0.1.1.2.2 s0.1.2.1.1 s0.1.2.1.2 s0.1.2.2.1 0 _ _ _ hP hD hS (lv_sub hl [1, 2, 3, 0] rfl) hf
    · intro i33 c34 c35 c36 c37 c38 H locs ls hP hD hS hl hf
      refine lv_aload_n hx hb dX2_decodeOverflows_100 rfl (lv_at hl 0 rfl) ?_
      refine kget (v := .ref (b0 (o0+1))) X hP ff_X2_12 0 rfl rfl dX2_decodeOverflows_101 ?_
      refine lv_aload_n hx hb dX2_decodeOverflows_104 rfl (lv_at hl 1 rfl) ?_
      refine kget (v := .int v1_rounds) X hP ff_X2_54 67 rfl rfl dX2_decodeOverflows_105 ?_
      obtain ⟨r39, hg_r39, hf⟩ := ofbind hf
      have hP : va_P D vwCl [[((b0 o0), .inr (2, [.ref (b0 (o0+1)), .ref (b0 (o0+34))]))], W_Bounds k b0 (o0+1) c16 c17 s0.1.1.1.2 s0.1.1.2.1 c34 c35 c36 c37 c38, W_Bounds k b0 (o0+34) s0.2.1.1.1.1 s0.2.1.1.1.2 s0.2.1.1.2 s0.2.1.2.1 s0.2.1.2.2 s0.2.2.1.1 s0.2.2.1.2 s0.2.2.2.1 s0.2.2.2.2, W_Form k b1 o1 v1_counters v1_bits v1_functions v1_countersAbove v1_functionsAbove v1_rounds, W_Braid k b2 o2 v2_truths v2_rests v2_marks v2_numbers].flatten _ := hP
      have hD : va_D A [[((b0 o0), .inr (2, [.ref (b0 (o0+1)), .ref (b0 (o0+34))]))], W_Bounds k b0 (o0+1) c16 c17 s0.1.1.1.2 s0.1.1.2.1 c34 c35 c36 c37 c38, W_Bounds k b0 (o0+34) s0.2.1.1.1.1 s0.2.1.1.1.2 s0.2.1.1.2 s0.2.1.2.1 s0.2.1.2.2 s0.2.2.1.1 s0.2.2.1.2 s0.2.2.2.1 s0.2.2.2.2, W_Form k b1 o1 v1_counters v1_bits v1_functions v1_countersAbove v1_functionsAbove v1_rounds, W_Braid k b2 o2 v2_truths v2_rests v2_marks v2_numbers].flatten := hD
      refine kcV (bs := [[((b0 o0), .inr (2, [.ref (b0 (o0+1)), .ref (b0 (o0+34))]))], W_Bounds k b0 (o0+1) c16 c17 s0.1.1.1.2 s0.1.1.2.1 c34 c35 c36 c37 c38, W_Bounds k b0 (o0+34) s0.2.1.1.1.1 s0.2.1.1.1.2 s0.2.1.1.2 s0.2.1.2.1 s0.2.1.2.2 s0.2.2.1.1 s0.2.2.1.2 s0.2.2.2.1 s0.2.2.2.2, W_Form k b1 o1 v1_counters v1_bits v1_functions v1_countersAbove v1_functionsAbove v1_rounds, W_Braid k b2 o2 v2_truths v2_rests v2_marks v2_numbers]) (br := [[((b0 o0), .inr (2, [.ref (b0 (o0+1)), .ref (b0 (o0+34))]))], W_Bounds k b0 (o0+34) s0.2.1.1.1.1 s0.2.1.1.1.2 s0.2.1.1.2 s0.2.1.2.1 s0.2.1.2.2 s0.2.2.1.1 s0.2.2.1.2 s0.2.2.2.1 s0.2.2.2.2, W_Form k b1 o1 v1_counters v1_bits v1_functions v1_countersAbove v1_functionsAbove v1_rounds, W_Braid k b2 o2 v2_truths v2_rests v2_marks v2_numbers]) (bc := [W_Bounds k b0 (o0+1) c16 c17 s0.1.1.1.2 s0.1.1.2.1 c34 c35 c36 c37 c38]) (bc' := [W_Bounds k b0 (o0+1) c16 c17 r39.2.1 r39.2.2.1 r39.2.2.2.1 r39.2.2.2.2 c36 c37 c38]) X hP hD hS (c_Bounds_narrow l D k t b0 (o0+1) c16 c17 s0.1.1.1.2 s0.1.1.2.1 c34 c35 c36 c37 c38 v1_rounds N r39 hg_r39) mv_X2_57 hl [0, 2, 3, 4] [1] 0 ⟨rfl, rfl⟩ ⟨Nat.le_of_ble_eq_true rfl, Nat.le_of_ble_eq_true rfl⟩ rfl rfl rfl rfl rfl rfl rfl (Nat.le_of_ble_eq_true rfl) dX2_decodeOverflows_108 (fun H locs hP hD hS => ?_)
      have hP : va_P D vwCl [[((b0 o0), .inr (2, [.ref (b0 (o0+1)), .ref (b0 (o0+34))]))], W_Bounds k b0 (o0+34) s0.2.1.1.1.1 s0.2.1.1.1.2 s0.2.1.1.2 s0.2.1.2.1 s0.2.1.2.2 s0.2.2.1.1 s0.2.2.1.2 s0.2.2.2.1 s0.2.2.2.2, W_Form k b1 o1 v1_counters v1_bits v1_functions v1_countersAbove v1_functionsAbove v1_rounds, W_Braid k b2 o2 v2_truths v2_rests v2_marks v2_numbers, W_Bounds k b0 (o0+1) c16 c17 r39.2.1 r39.2.2.1 r39.2.2.2.1 r39.2.2.2.2 c36 c37 c38].flatten _ := hP
      have hD : va_D A [[((b0 o0), .inr (2, [.ref (b0 (o0+1)), .ref (b0 (o0+34))]))], W_Bounds k b0 (o0+34) s0.2.1.1.1.1 s0.2.1.1.1.2 s0.2.1.1.2 s0.2.1.2.1 s0.2.1.2.2 s0.2.2.1.1 s0.2.2.1.2 s0.2.2.2.1 s0.2.2.2.2, W_Form k b1 o1 v1_counters v1_bits v1_functions v1_countersAbove v1_functionsAbove v1_rounds, W_Braid k b2 o2 v2_truths v2_rests v2_marks v2_numbers, W_Bounds k b0 (o0+1) c16 c17 r39.2.1 r39.2.2.1 r39.2.2.2.1 r39.2.2.2.2 c36 c37 c38].flatten := hD
      refine lv_pop hx hb dX2_decodeOverflows_111 rfl ?_
      obtain ⟨hP, hD⟩ := B_perm (br := [[((b0 o0), .inr (2, [.ref (b0 (o0+1)), .ref (b0 (o0+34))]))], W_Bounds k b0 (o0+1) c16 c17 r39.2.1 r39.2.2.1 r39.2.2.2.1 r39.2.2.2.2 c36 c37 c38, W_Bounds k b0 (o0+34) s0.2.1.1.1.1 s0.2.1.1.1.2 s0.2.1.1.2 s0.2.1.2.1 s0.2.1.2.2 s0.2.2.1.1 s0.2.2.1.2 s0.2.2.2.1 s0.2.2.2.2, W_Form k b1 o1 v1_counters v1_bits v1_functions v1_countersAbove v1_functionsAbove v1_rounds, W_Braid k b2 o2 v2_truths v2_rests v2_marks v2_numbers]) hP hD [0, 4, 1, 2, 3] rfl rfl
      have hP : va_P D vwCl [W_Decoder k b0 o0 (u_Decoder_overflows s0 ((((c16, c17), r39.2.1), (r39.2.2.1, r39.2.2.2.1)), ((r39.2.2.2.2, c36), (c37, c38)))), W_Form k b1 o1 v1_counters v1_bits v1_functions v1_countersAbove v1_functionsAbove v1_rounds, W_Braid k b2 o2 v2_truths v2_rests v2_marks v2_numbers].flatten _ := hP
      have hD : va_D A [W_Decoder k b0 o0 (u_Decoder_overflows s0 ((((c16, c17), r39.2.1), (r39.2.2.1, r39.2.2.2.1)), ((r39.2.2.2.2, c36), (c37, c38)))), W_Form k b1 o1 v1_counters v1_bits v1_functions v1_countersAbove v1_functionsAbove v1_rounds, W_Braid k b2 o2 v2_truths v2_rests v2_marks v2_numbers].flatten := hD
      have hf := Option.some.inj hf
      subst hf
      exact kvret X hP hD hS dX2_decodeOverflows_112
/-! Form_placesOfKey: int placesOfKey(int); -/
abbrev rm_Form_placesOfKey : Room := ({ frames := 1, cells := 0, slots := 0, locals := 21 } : Room)
def f_Form_placesOfKey_L4 (i2 : Int32) (v_counters : Int32) (v_functions : Int32) (K56 : Int32 → Int32 → Option (Int32)) : Nat → Int32 → Int32 → Option (Int32)
  | 0, _, _ => none
  | n + 1, i3, i4 => if v_functions ≤ i4 then K56 i3 i4 else if 4 ≤ i4 then K56 i3 i4 else if ck i4 4 = true then if ck i4 4 = true then (f_Form_remainder (((i2 * (sv0 i4.toNatClampNeg)) + (sv1 i4.toNatClampNeg)) - ((i2 * (sv0 i4.toNatClampNeg)) + (sv1 i4.toNatClampNeg)) / 1009 * 1009) v_counters).bind (fun r5 => f_Form_placesOfKey_L4 i2 v_counters v_functions K56 n (i3 ||| (1 <<< (r5 &&& 31))) (i4 + 1)) else none else none
def f_Form_placesOfKey (N : Nat) (x1 : Int32) (v_counters : Int32) (v_functions : Int32) : Option (Int32) := f_Form_placesOfKey_L4 x1 v_counters v_functions (fun i6 i7 => some i6) N 0 0
abbrev Q_Form_placesOfKey (below : List Frame) (D : va_G) (k : Nat → ClassId) (A : Nat → Prop) (args : Array Value) (s : State) (b0 : Nat → Nat) (o0 : Nat) (v_counters : Int32) (v_bits : Int32) (v_functions : Int32) (v_countersAbove : Int32) (v_functionsAbove : Int32) (v_rounds : Int32) (out : Int32) : State → Prop := MQ below (QW D k A (some (.int out)) [W_Form k b0 o0 v_counters v_bits v_functions v_countersAbove v_functionsAbove v_rounds].flatten) args s 0 0 A
set_option maxRecDepth 100000 in
set_option maxHeartbeats 1000000 in
theorem w_Form_placesOfKey_L4 {p : Program} {l : Launch} {e : Env} {s : State} {m : MethodId} {below : List Frame} {meth : Method} {c : Code} {args : Array Value} {A : Nat → Prop} {D : va_G} {k : Nat → ClassId} {t : Nat → Nat} (X : BX l D k t p s m args meth c cX3_placesOfKey 5 RX3 (some .int) A) (b0 : Nat → Nat) (o0 : Nat) (v_counters : Int32) (v_bits : Int32) (v_functions : Int32) (v_countersAbove : Int32) (v_functionsAbove : Int32) (v_rounds : Int32) (N : Nat) (i2 : Int32) (out : Int32) (K56 : Int32 → Int32 → Option (Int32)) (hK56 : ∀ (i3' : Int32) (i4' : Int32) (H : Heap) (locs : List Loc) (ls : Array Slot), va_P D vwCl [W_Form k b0 o0 v_counters v_bits v_functions v_countersAbove v_functionsAbove v_rounds].flatten H → va_D A [W_Form k b0 o0 v_counters v_bits v_functions v_countersAbove v_functionsAbove v_rounds].flatten → va_S A s.heap H locs → lv_has ls 5 [(2, .int i3')] → K56 i3' i4' = some out → W p l e rm_Form_placesOfKey s m args below meth c H locs 0 0 (Q_Form_placesOfKey below D k A args s b0 o0 v_counters v_bits v_functions v_countersAbove v_functionsAbove v_rounds out) (F0 m 56 ls [])) : ∀ (n : Nat) (i3 : Int32) (i4 : Int32) (H : Heap) (locs : List Loc) (ls : Array Slot), va_P D vwCl [W_Form k b0 o0 v_counters v_bits v_functions v_countersAbove v_functionsAbove v_rounds].flatten H → va_D A [W_Form k b0 o0 v_counters v_bits v_functions v_countersAbove v_functionsAbove v_rounds].flatten → va_S A s.heap H locs → lv_has ls 5 [(0, .ref (b0 o0)), (1, .int i2), (2, .int i3), (3, .int i4)] → f_Form_placesOfKey_L4 i2 v_counters v_functions K56 n i3 i4 = some out → W p l e rm_Form_placesOfKey s m args below meth c H locs 0 0 (Q_Form_placesOfKey below D k A args s b0 o0 v_counters v_bits v_functions v_countersAbove v_functionsAbove v_rounds out) (F0 m 4 ls []) := by
  have hx := X.1.1
  have hb := X.1.2.1
  have hml := X.1.2.2.1
  have hown := X.1.2.2.2.1
  have hts := X.1.2.2.2.2
  intro n
  induction n with
  | zero =>
    intro i3 i4 H locs ls hP hD hS hl hf
    rw [f_Form_placesOfKey_L4] at hf
    cases hf
  | succ n ih =>
    intro i3 i4 H locs ls hP hD hS hl hf
    rw [f_Form_placesOfKey_L4] at hf
    refine lv_iload_n hx hb dX3_placesOfKey_4 rfl (lv_at hl 3 rfl) ?_
    refine lv_aload_n hx hb dX3_placesOfKey_5 rfl (lv_at hl 0 rfl) ?_
    refine kget (v := .int v_functions) X hP ff_X3_18 0 rfl rfl dX3_placesOfKey_6 ?_
    refine lv_icmp_ge (tgt := 56) hx hb dX3_placesOfKey_9 (by decide) (fun hc => ?_) (fun hc => ?_)
    · have hf := ofpos hf hc
      exact hK56 i3 i4 _ _ _ hP hD hS (lv_sub hl [2] rfl) hf
    · have hf := ofneg hf hc
      refine lv_iload_n hx hb dX3_placesOfKey_12 rfl (lv_at hl 3 rfl) ?_
      refine lv_iconst (v := 4) hx hb dX3_placesOfKey_13 (by decide) ?_
      refine lv_icmp_ge (tgt := 56) hx hb dX3_placesOfKey_14 (by decide) (fun hc => ?_) (fun hc => ?_)
      · have hf := ofpos hf hc
        exact hK56 i3 i4 _ _ _ hP hD hS (lv_sub hl [2] rfl) hf
      · have hf := ofneg hf hc
        refine lv_iload_n hx hb dX3_placesOfKey_17 rfl (lv_at hl 1 rfl) ?_
        refine va_getsN hx hb X.2.2.2.2.2.2.2.1.1 hS hown (va_Nw.use rfl (X.2.2.2.2.2.2.1 (30, "FLOW_FACTORS") (by decide +kernel))) (fun _ h9 => h9) dX3_placesOfKey_18 ?_
        refine lv_iload_n hx hb dX3_placesOfKey_21 rfl (lv_at hl 3 rfl) ?_
        obtain ⟨hc, hf⟩ := ofck hf
        refine va_ti (v := .int (sv0 i4.toNatClampNeg)) hx hb X.2.2.2.2.2.2.2.1.2 hS hc rfl dX3_placesOfKey_22 ?_
        refine lv_imul hx hb dX3_placesOfKey_23 ?_
        refine va_getsN hx hb X.2.2.2.2.2.2.2.2.1.1 hS hown (va_Nw.use rfl (X.2.2.2.2.2.2.1 (34, "FLOW_OFFSETS") (by decide +kernel))) (fun _ h9 => h9) dX3_placesOfKey_24 ?_
        refine lv_iload_n hx hb dX3_placesOfKey_27 rfl (lv_at hl 3 rfl) ?_
        obtain ⟨hc, hf⟩ := ofck hf
        refine va_ti (v := .int (sv1 i4.toNatClampNeg)) hx hb X.2.2.2.2.2.2.2.2.1.2 hS hc rfl dX3_placesOfKey_28 ?_
        refine lv_iadd hx hb dX3_placesOfKey_29 ?_
        refine lv_istore (lv' := [(4, .int ((i2 * (sv0 i4.toNatClampNeg)) + (sv1 i4.toNatClampNeg))), (0, .ref (b0 o0)), (1, .int i2), (2, .int i3), (3, .int i4)]) hx hb dX3_placesOfKey_30 hl (by decide) rfl (fun ls hl => ?_)
        refine lv_iload_n hx hb dX3_placesOfKey_32 rfl (lv_at hl 3 rfl) ?_
        refine lv_iconst (v := 1) hx hb dX3_placesOfKey_33 (by decide) ?_
        refine lv_iload hx hb dX3_placesOfKey_34 (lv_at hl 0 rfl) ?_
        refine lv_sipush (v := 1009) hx hb dX3_placesOfKey_36 (by decide) ?_
        refine lv_irem hx hb dX3_placesOfKey_39 (by decide) ?_
        refine lv_aload_n hx hb dX3_placesOfKey_40 rfl (lv_at hl 1 rfl) ?_
        refine kget (v := .int v_counters) X hP ff_X3_9 0 rfl rfl dX3_placesOfKey_41 ?_
        obtain ⟨r5, hg_r5, hf⟩ := ofbind hf
        refine kcS (bs := [W_Form k b0 o0 v_counters v_bits v_functions v_countersAbove v_functionsAbove v_rounds]) (br := [W_Form k b0 o0 v_counters v_bits v_functions v_countersAbove v_functionsAbove v_rounds]) (bc := []) (bc' := []) X hP hD hS (c_Form_remainder l D k t (((i2 * (sv0 i4.toNatClampNeg)) + (sv1 i4.toNatClampNeg)) - ((i2 * (sv0 i4.toNatClampNeg)) + (sv1 i4.toNatClampNeg)) / 1009 * 1009) v_counters r5 hg_r5) ms_X3_37 hl [0] [] ⟨rfl, rfl⟩ ⟨Nat.le_of_ble_eq_true rfl, Nat.le_of_ble_eq_true rfl⟩ rfl rfl rfl rfl (Nat.le_of_ble_eq_true rfl) dX3_placesOfKey_44 (fun H locs hP hD hS => ?_)
        have hP : va_P D vwCl [W_Form k b0 o0 v_counters v_bits v_functions v_countersAbove v_functionsAbove v_rounds].flatten _ := hP
        have hD : va_D A [W_Form k b0 o0 v_counters v_bits v_functions v_countersAbove v_functionsAbove v_rounds].flatten := hD
        refine lv_ishl hx hb dX3_placesOfKey_47 ?_
        refine lv_ior hx hb dX3_placesOfKey_48 ?_
        refine lv_istore_n (lv' := [(2, .int (i3 ||| (1 <<< (r5 &&& 31)))), (4, .int ((i2 * (sv0 i4.toNatClampNeg)) + (sv1 i4.toNatClampNeg))), (0, .ref (b0 o0)), (1, .int i2), (3, .int i4)]) hx hb dX3_placesOfKey_49 rfl hl (by decide) rfl (fun ls hl => ?_)
        refine lv_iinc (v := i4 + 1) (lv' := [(3, .int (i4 + 1)), (2, .int (i3 ||| (1 <<< (r5 &&& 31)))), (4, .int ((i2 * (sv0 i4.toNatClampNeg)) + (sv1 i4.toNatClampNeg))), (0, .ref (b0 o0)), (1, .int i2)]) hx hb dX3_placesOfKey_50 hl (k := 4) rfl rfl (by decide) rfl (fun ls hl => ?_)
        refine lv_goto (tgt := 4) hx hb dX3_placesOfKey_53 (by decide) ?_
        exact ih (i3 ||| (1 <<< (r5 &&& 31))) (i4 + 1) _ _ _ hP hD hS (lv_sub hl [3, 4, 1, 0] rfl) hf
set_option maxRecDepth 100000 in
set_option maxHeartbeats 1000000 in
theorem c_Form_placesOfKey (l : Launch) (D : va_G) (k : Nat → ClassId) (t : Nat → Nat) (b0 : Nat → Nat) (o0 : Nat) (v_counters : Int32) (v_bits : Int32) (v_functions : Int32) (v_countersAbove : Int32) (v_functionsAbove : Int32) (v_rounds : Int32) (x1 : Int32) (N : Nat) (out : Int32) (hf : f_Form_placesOfKey N x1 v_counters v_functions = some out) : CT l D k t yX3_placesOfKey cX3_placesOfKey 5 (some .int) rm_Form_placesOfKey [.ref (b0 o0), .int x1] [W_Form k b0 o0 v_counters v_bits v_functions v_countersAbove v_functionsAbove v_rounds].flatten (some (.int out)) [W_Form k b0 o0 v_counters v_bits v_functions v_countersAbove v_functionsAbove v_rounds].flatten := by
  refine kofW (by decide) (Nat.le_of_ble_eq_true rfl) ?_
  intro p e s m below meth c A ls X hP hD hS hl
  have hx := X.1.1
  have hb := X.1.2.1
  have hml := X.1.2.2.1
  have hown := X.1.2.2.2.1
  have hts := X.1.2.2.2.2
  have hl : lv_has ls 5 [(0, .ref (b0 o0)), (1, .int x1)] := hl
  rw [f_Form_placesOfKey] at hf
  refine lv_iconst (v := 0) hx hb dX3_placesOfKey_0 (by decide) ?_
  refine lv_istore_n (lv' := [(2, .int 0), (0, .ref (b0 o0)), (1, .int x1)]) hx hb dX3_placesOfKey_1 rfl hl (by decide) rfl (fun ls hl => ?_)
  refine lv_iconst (v := 0) hx hb dX3_placesOfKey_2 (by decide) ?_
  refine lv_istore_n (lv' := [(3, .int 0), (2, .int 0), (0, .ref (b0 o0)), (1, .int x1)]) hx hb dX3_placesOfKey_3 rfl hl (by decide) rfl (fun ls hl => ?_)
  refine w_Form_placesOfKey_L4 X b0 o0 v_counters v_bits v_functions v_countersAbove v_functionsAbove v_rounds N x1 out _ ?_ N 0 0 _ _ _ hP hD hS (lv_sub hl [2, 3, 1, 0] rfl) hf
  · intro i6 i7 H locs ls hP hD hS hl hf
    refine lv_iload_n hx hb dX3_placesOfKey_56 rfl (lv_at hl 0 rfl) ?_
    have hf := Option.some.inj hf
    subst hf
    exact kiret (v := i6) X hP hD hS dX3_placesOfKey_57
/-! Decoder_decode_f: int decode(CounterBraid$State, CounterBraid$Braid, int); -/
abbrev rm_Decoder_decode_f : Room := ({ frames := 5, cells := 0, slots := 0, locals := 114 } : Room)
def f_Decoder_decode_f_L23 (c12 : FJ) (c13 : FJ) (v1_form_counters : Int32) (v1_form_bits : Int32) (v1_first_rests : FI) (K109 : Int32 → FJ → FJ → Option (Int32 × FJ × FJ × FJ × FJ × FJ × FJ × (Nat → FI) × FI × Int32 × FJ × FJ × FJ × FJ × FJ × FJ × (Nat → FI) × FI × Int32)) : Nat → Int32 → FJ → FJ → Option (Int32 × FJ × FJ × FJ × FJ × FJ × FJ × (Nat → FI) × FI × Int32 × FJ × FJ × FJ × FJ × FJ × FJ × (Nat → FI) × FI × Int32)
  | 0, _, _, _ => none
  | n + 1, i7, c17, c18 => if v1_form_counters ≤ i7 then K109 i7 c17 c18 else if ck i7 24 = true then (f_Bounds_boundOf i7 0 c12 c13).bind (fun r26 => if ck i7 24 = true then if ck i7 24 = true then (f_Bounds_boundOf i7 1 c12 c13).bind (fun r28 => if ck i7 24 = true then f_Decoder_decode_f_L23 c12 c13 v1_form_counters v1_form_bits v1_first_rests K109 n (i7 + 1) (vp_updL c17 i7.toNatClampNeg (((v1_first_rests i7.toNatClampNeg).toInt64) + (r26 <<< (v1_form_bits.toInt64 &&& 63)))) (vp_updL c18 i7.toNatClampNeg (((v1_first_rests i7.toNatClampNeg).toInt64) + (r28 <<< (v1_form_bits.toInt64 &&& 63)))) else none) else none else none) else none
def f_Decoder_decode_f_L112 (N : Nat) (c47 : FJ) (v1_form_counters : Int32) (v1_form_functions : Int32) (v1_flows : Int32) (v1_keys : FI) (K147 : Int32 → FJ → FJ → (Nat → FI) → FI → Int32 → Option (Int32 × FJ × FJ × FJ × FJ × FJ × FJ × (Nat → FI) × FI × Int32 × FJ × FJ × FJ × FJ × FJ × FJ × (Nat → FI) × FI × Int32)) : Nat → Int32 → FJ → FJ → (Nat → FI) → FI → Int32 → Option (Int32 × FJ × FJ × FJ × FJ × FJ × FJ × (Nat → FI) × FI × Int32 × FJ × FJ × FJ × FJ × FJ × FJ × (Nat → FI) × FI × Int32)
  | 0, _, _, _, _, _, _ => none
  | n + 1, i36, c50, c51, c52, c53, c54 => if v1_flows ≤ i36 then K147 i36 c50 c51 c52 c53 c54 else if ck i36 16 = true then (f_Form_placesOfKey N (v1_keys i36.toNatClampNeg) v1_form_counters v1_form_functions).bind (fun r55 => (f_Bounds_append N r55 0 c47 c50 c51 c52 c53 c54).bind (fun r56 => f_Decoder_decode_f_L112 N c47 v1_form_counters v1_form_functions v1_flows v1_keys K147 n (i36 + 1) r56.1 r56.2.1 r56.2.2.1 r56.2.2.2.1 r56.2.2.2.2)) else none
def f_Decoder_decode_f (N : Nat) (x3 : Int32) (v0_overflows_least : FJ) (v0_overflows_greatest : FJ) (v0_overflows_lowerSums : FJ) (v0_overflows_upperSums : FJ) (v0_overflows_lower : FJ) (v0_overflows_upper : FJ) (v0_overflows_places : (Nat → FI)) (v0_overflows_placeCounts : FI) (v0_overflows_things : Int32) (v0_amounts_least : FJ) (v0_amounts_greatest : FJ) (v0_amounts_lowerSums : FJ) (v0_amounts_upperSums : FJ) (v0_amounts_lower : FJ) (v0_amounts_upper : FJ) (v0_amounts_places : (Nat → FI)) (v0_amounts_placeCounts : FI) (v0_amounts_things : Int32) (v1_form_counters : Int32) (v1_form_bits : Int32) (v1_form_functions : Int32) (v1_form_countersAbove : Int32) (v1_form_functionsAbove : Int32) (v1_form_rounds : Int32) (v1_flows : Int32) (v1_keys : FI) (v1_first_rests : FI) (v1_first_marks : FI) (v1_first_numbers : FJ) : Option (Int32 × FJ × FJ × FJ × FJ × FJ × FJ × (Nat → FI) × FI × Int32 × FJ × FJ × FJ × FJ × FJ × FJ × (Nat → FI) × FI × Int32) := (f_Decoder_decodeOverflows N v0_overflows_least v0_overflows_greatest v0_overflows_lowerSums v0_overflows_upperSums v0_overflows_lower v0_overflows_upper v0_overflows_places v0_overflows_placeCounts v0_overflows_things v1_form_counters v1_form_countersAbove v1_form_functionsAbove v1_form_rounds v1_first_marks v1_first_numbers).bind (fun r1 => f_Decoder_decode_f_L23 r1.2.2.2.2.1 r1.2.2.2.2.2.1 v1_form_counters v1_form_bits v1_first_rests (fun i30 c31 c32 => f_Decoder_decode_f_L112 N c32 v1_form_counters v1_form_functions v1_flows v1_keys (fun i57 c58 c59 c60 c61 c62 => (f_Bounds_narrow N x3 c31 c32 v0_amounts_lowerSums v0_amounts_upperSums c58 c59 c60 c61 c62).bind (fun r63 => some (r63.1, r1.1, r1.2.1, r1.2.2.1, r1.2.2.2.1, r1.2.2.2.2.1, r1.2.2.2.2.2.1, r1.2.2.2.2.2.2.1, r1.2.2.2.2.2.2.2.1, r1.2.2.2.2.2.2.2.2, c31, c32, r63.2.1, r63.2.2.1, r63.2.2.2.1, r63.2.2.2.2, c60, c61, c62))) N 0 v0_amounts_lower v0_amounts_upper v0_amounts_places v0_amounts_placeCounts 0) N 0 v0_amounts_least v0_amounts_greatest)
abbrev Q_Decoder_decode_f (below : List Frame) (D : va_G) (k : Nat → ClassId) (A : Nat → Prop) (args : Array Value) (s : State) (b0 : Nat → Nat) (o0 : Nat) (s0 : DecoderS) (b1 : Nat → Nat) (o1 : Nat) (s1 : StateS) (out : Int32 × FJ × FJ × FJ × FJ × FJ × FJ × (Nat → FI) × FI × Int32 × FJ × FJ × FJ × FJ × FJ × FJ × (Nat → FI) × FI × Int32) : State → Prop := MQ below (QW D k A (some (.int out.1)) [W_Decoder k b0 o0 (((((out.2.1, out.2.2.1), out.2.2.2.1), (out.2.2.2.2.1, out.2.2.2.2.2.1)), ((out.2.2.2.2.2.2.1, out.2.2.2.2.2.2.2.1), (out.2.2.2.2.2.2.2.2.1, out.2.2.2.2.2.2.2.2.2.1))), ((((out.2.2.2.2.2.2.2.2.2.2.1, out.2.2.2.2.2.2.2.2.2.2.2.1), out.2.2.2.2.2.2.2.2.2.2.2.2.1), (out.2.2.2.2.2.2.2.2.2.2.2.2.2.1, out.2.2.2.2.2.2.2.2.2.2.2.2.2.2.1)), ((out.2.2.2.2.2.2.2.2.2.2.2.2.2.2.2.1, out.2.2.2.2.2.2.2.2.2.2.2.2.2.2.2.2.1), (out.2.2.2.2.2.2.2.2.2.2.2.2.2.2.2.2.2.1, out.2.2.2.2.2.2.2.2.2.2.2.2.2.2.2.2.2.2)))), W_State k b1 o1 s1].flatten) args s 0 0 A
set_option maxRecDepth 100000 in
set_option maxHeartbeats 1000000 in
theorem w_Decoder_decode_f_L23 {p : Program} {l : Launch} {e : Env} {s : State} {m : MethodId} {below : List Frame} {meth : Method} {c : Code} {args : Array Value} {A : Nat → Prop} {D : va_G} {k : Nat → ClassId} {t : Nat → Nat} (X : BX l D k t p s m args meth c cX2_decode 6 RX2 (some .int) A) (b0 : Nat → Nat) (o0 : Nat) (s0 : DecoderS) (b1 : Nat → Nat) (o1 : Nat) (s1 : StateS) (N : Nat) (i6 : Int32) (c8 : FJ) (c9 : FJ) (c10 : FJ) (c11 : FJ) (c12 : FJ) (c13 : FJ) (c14 : (Nat → FI)) (c15 : FI) (c16 : Int32) (c19 : FJ) (c20 : FJ) (c21 : FJ) (c22 : FJ) (c23 : (Nat → FI)) (c24 : FI) (c25 : Int32) (out : Int32 × FJ × FJ × FJ × FJ × FJ × FJ × (Nat → FI) × FI × Int32 × FJ × FJ × FJ × FJ × FJ × FJ × (Nat → FI) × FI × Int32) (K109 : Int32 → FJ → FJ → Option (Int32 × FJ × FJ × FJ × FJ × FJ × FJ × (Nat → FI) × FI × Int32 × FJ × FJ × FJ × FJ × FJ × FJ × (Nat → FI) × FI × Int32)) (hK109 : ∀ (i7' : Int32) (c17' : FJ) (c18' : FJ) (H : Heap) (locs : List Loc) (ls : Array Slot), va_P D vwCl [W_Decoder k b0 o0 (((((c8, c9), c10), (c11, c12)), ((c13, c14), (c15, c16))), ((((c17', c18'), c19), (c20, c21)), ((c22, c23), (c24, c25)))), W_State k b1 o1 s1].flatten H → va_D A [W_Decoder k b0 o0 (((((c8, c9), c10), (c11, c12)), ((c13, c14), (c15, c16))), ((((c17', c18'), c19), (c20, c21)), ((c22, c23), (c24, c25)))), W_State k b1 o1 s1].flatten → va_S A s.heap H locs → lv_has ls 6 [(0, .ref (b0 o0)), (1, .ref (b1 o1)), (3, .int i6), (4, .ref (b1 (o1+1)))] → K109 i7' c17' c18' = some out → W p l e rm_Decoder_decode_f s m args below meth c H locs 0 0 (Q_Decoder_decode_f below D k A args s b0 o0 s0 b1 o1 s1 out) (F0 m 109 ls [])) : ∀ (n : Nat) (i7 : Int32) (c17 : FJ) (c18 : FJ) (H : Heap) (locs : List Loc) (ls : Array Slot), va_P D vwCl [W_Decoder k b0 o0 (((((c8, c9), c10), (c11, c12)), ((c13, c14), (c15, c16))), ((((c17, c18), c19), (c20, c21)), ((c22, c23), (c24, c25)))), W_State k b1 o1 s1].flatten H → va_D A [W_Decoder k b0 o0 (((((c8, c9), c10), (c11, c12)), ((c13, c14), (c15, c16))), ((((c17, c18), c19), (c20, c21)), ((c22, c23), (c24, c25)))), W_State k b1 o1 s1].flatten → va_S A s.heap H locs → lv_has ls 6 [(0, .ref (b0 o0)), (1, .ref (b1 o1)), (2, .ref (b1 (o1+3))), (3, .int i6), (4, .ref (b1 (o1+1))), (5, .int i7)] → f_Decoder_decode_f_L23 c12 c13 s1.1.1.1.1.1.1 s1.1.1.1.1.1.2 s1.2.1.1.2 K109 n i7 c17 c18 = some out → W p l e rm_Decoder_decode_f s m args below meth c H locs 0 0 (Q_Decoder_decode_f below D k A args s b0 o0 s0 b1 o1 s1 out) (F0 m 23 ls []) := by
  have hx := X.1.1
  have hb := X.1.2.1
  have hml := X.1.2.2.1
  have hown := X.1.2.2.2.1
  have hts := X.1.2.2.2.2
  intro n
  induction n with
  | zero =>
    intro i7 c17 c18 H locs ls hP hD hS hl hf
    rw [f_Decoder_decode_f_L23] at hf
    cases hf
  | succ n ih =>
    intro i7 c17 c18 H locs ls hP hD hS hl hf
    rw [f_Decoder_decode_f_L23] at hf
    refine lv_iload hx hb dX2_decode_23 (lv_at hl 5 rfl) ?_
    refine lv_aload hx hb dX2_decode_25 (lv_at hl 4 rfl) ?_
    refine kget (v := .int s1.1.1.1.1.1.1) X hP ff_X2_36 68 rfl rfl dX2_decode_27 ?_
    refine lv_icmp_ge (tgt := 109) hx hb dX2_decode_30 (by decide) (fun hc => ?_) (fun hc => ?_)
    · have hf := ofpos hf hc
      exact hK109 i7 c17 c18 _ _ _ hP hD hS (lv_sub hl [0, 1, 3, 4] rfl) hf
    · have hf := ofneg hf hc
      refine lv_aload_n hx hb dX2_decode_33 rfl (lv_at hl 0 rfl) ?_
      refine kget (v := .ref (b0 (o0+34))) X hP ff_X2_18 0 rfl rfl dX2_decode_34 ?_
      refine kget (v := .ref (b0 (o0+35))) X hP ff_X2_24 34 rfl rfl dX2_decode_37 ?_
      refine lv_iload hx hb dX2_decode_40 (lv_at hl 5 rfl) ?_
      refine lv_aload_n hx hb dX2_decode_42 rfl (lv_at hl 2 rfl) ?_
      refine kget (v := .ref (b1 (o1+5))) X hP ff_X2_70 70 rfl rfl dX2_decode_43 ?_
      refine lv_iload hx hb dX2_decode_46 (lv_at hl 5 rfl) ?_
      obtain ⟨hc, hf⟩ := ofck hf
      refine kiald (f := s1.2.1.1.2) (n := 24) X hP 72 rfl hc dX2_decode_48 ?_
      refine lv_i2l (v := (s1.2.1.1.2 i7.toNatClampNeg).toInt64) hx hb dX2_decode_49 rfl ?_
      refine lv_aload_n hx hb dX2_decode_50 rfl (lv_at hl 0 rfl) ?_
      refine kget (v := .ref (b0 (o0+1))) X hP ff_X2_12 0 rfl rfl dX2_decode_51 ?_
      refine lv_iload hx hb dX2_decode_54 (lv_at hl 5 rfl) ?_
      refine lv_iconst (v := 0) hx hb dX2_decode_56 (by decide) ?_
      obtain ⟨r26, hg_r26, hf⟩ := ofbind hf
      have hP : va_P D vwCl [[((b0 o0), .inr (2, [.ref (b0 (o0+1)), .ref (b0 (o0+34))]))], W_Bounds k b0 (o0+1) c8 c9 c10 c11 c12 c13 c14 c15 c16, W_Bounds k b0 (o0+34) c17 c18 c19 c20 c21 c22 c23 c24 c25, W_State k b1 o1 s1].flatten _ := hP
      have hD : va_D A [[((b0 o0), .inr (2, [.ref (b0 (o0+1)), .ref (b0 (o0+34))]))], W_Bounds k b0 (o0+1) c8 c9 c10 c11 c12 c13 c14 c15 c16, W_Bounds k b0 (o0+34) c17 c18 c19 c20 c21 c22 c23 c24 c25, W_State k b1 o1 s1].flatten := hD
      refine kcV (bs := [[((b0 o0), .inr (2, [.ref (b0 (o0+1)), .ref (b0 (o0+34))]))], W_Bounds k b0 (o0+1) c8 c9 c10 c11 c12 c13 c14 c15 c16, W_Bounds k b0 (o0+34) c17 c18 c19 c20 c21 c22 c23 c24 c25, W_State k b1 o1 s1]) (br := [[((b0 o0), .inr (2, [.ref (b0 (o0+1)), .ref (b0 (o0+34))]))], W_Bounds k b0 (o0+34) c17 c18 c19 c20 c21 c22 c23 c24 c25, W_State k b1 o1 s1]) (bc := [W_Bounds k b0 (o0+1) c8 c9 c10 c11 c12 c13 c14 c15 c16]) (bc' := [W_Bounds k b0 (o0+1) c8 c9 c10 c11 c12 c13 c14 c15 c16]) X hP hD hS (c_Bounds_boundOf l D k t b0 (o0+1) c8 c9 c10 c11 c12 c13 c14 c15 c16 i7 0 r26 hg_r26) mv_X2_73 hl [0, 2, 3] [1] 0 ⟨rfl, rfl⟩ ⟨Nat.le_of_ble_eq_true rfl, Nat.le_of_ble_eq_true rfl⟩ rfl rfl rfl rfl rfl rfl rfl (Nat.le_of_ble_eq_true rfl) dX2_decode_57 (fun H locs hP hD hS => ?_)
      have hP : va_P D vwCl [[((b0 o0), .inr (2, [.ref (b0 (o0+1)), .ref (b0 (o0+34))]))], W_Bounds k b0 (o0+34) c17 c18 c19 c20 c21 c22 c23 c24 c25, W_State k b1 o1 s1, W_Bounds k b0 (o0+1) c8 c9 c10 c11 c12 c13 c14 c15 c16].flatten _ := hP
      have hD : va_D A [[((b0 o0), .inr (2, [.ref (b0 (o0+1)), .ref (b0 (o0+34))]))], W_Bounds k b0 (o0+34) c17 c18 c19 c20 c21 c22 c23 c24 c25, W_State k b1 o1 s1, W_Bounds k b0 (o0+1) c8 c9 c10 c11 c12 c13 c14 c15 c16].flatten := hD
      refine lv_aload hx hb dX2_decode_60 (lv_at hl 4 rfl) ?_
      refine kget (v := .int s1.1.1.1.1.1.2) X hP ff_X2_77 35 rfl rfl dX2_decode_62 ?_
      refine lv_lshl (v := r26 <<< (s1.1.1.1.1.1.2.toInt64 &&& 63)) hx hb dX2_decode_65 rfl ?_
      refine lv_ladd hx hb dX2_decode_66 ?_
      obtain ⟨hc, hf⟩ := ofck hf
      generalize hc27 : vp_updL c17 i7.toNatClampNeg (((s1.2.1.1.2 i7.toNatClampNeg).toInt64) + (r26 <<< (s1.1.1.1.1.1.2.toInt64 &&& 63))) = c27 at hf
      refine klast2 (f := c17) (n := 24) (g := c27) X hP hD hS 2 rfl hc hc27 dX2_decode_67 (fun H locs hP hD hS => ?_)
      have hP : va_P D vwCl [[((b0 o0), .inr (2, [.ref (b0 (o0+1)), .ref (b0 (o0+34))]))], W_Bounds k b0 (o0+34) c27 c18 c19 c20 c21 c22 c23 c24 c25, W_State k b1 o1 s1, W_Bounds k b0 (o0+1) c8 c9 c10 c11 c12 c13 c14 c15 c16].flatten _ := hP
      have hD : va_D A [[((b0 o0), .inr (2, [.ref (b0 (o0+1)), .ref (b0 (o0+34))]))], W_Bounds k b0 (o0+34) c27 c18 c19 c20 c21 c22 c23 c24 c25, W_State k b1 o1 s1, W_Bounds k b0 (o0+1) c8 c9 c10 c11 c12 c13 c14 c15 c16].flatten := hD
      refine lv_aload_n hx hb dX2_decode_68 rfl (lv_at hl 0 rfl) ?_
      refine kget (v := .ref (b0 (o0+34))) X hP ff_X2_18 0 rfl rfl dX2_decode_69 ?_
      refine kget (v := .ref (b0 (o0+36))) X hP ff_X2_33 1 rfl rfl dX2_decode_72 ?_
      refine lv_iload hx hb dX2_decode_75 (lv_at hl 5 rfl) ?_
      refine lv_aload_n hx hb dX2_decode_77 rfl (lv_at hl 2 rfl) ?_
      refine kget (v := .ref (b1 (o1+5))) X hP ff_X2_70 37 rfl rfl dX2_decode_78 ?_
      refine lv_iload hx hb dX2_decode_81 (lv_at hl 5 rfl) ?_
      obtain ⟨hc, hf⟩ := ofck hf
      refine kiald (f := s1.2.1.1.2) (n := 24) X hP 39 rfl hc dX2_decode_83 ?_
      refine lv_i2l (v := (s1.2.1.1.2 i7.toNatClampNeg).toInt64) hx hb dX2_decode_84 rfl ?_
      refine lv_aload_n hx hb dX2_decode_85 rfl (lv_at hl 0 rfl) ?_
      refine kget (v := .ref (b0 (o0+1))) X hP ff_X2_12 0 rfl rfl dX2_decode_86 ?_
      refine lv_iload hx hb dX2_decode_89 (lv_at hl 5 rfl) ?_
      refine lv_iconst (v := 1) hx hb dX2_decode_91 (by decide) ?_
      obtain ⟨r28, hg_r28, hf⟩ := ofbind hf
      refine kcV (bs := [[((b0 o0), .inr (2, [.ref (b0 (o0+1)), .ref (b0 (o0+34))]))], W_Bounds k b0 (o0+34) c27 c18 c19 c20 c21 c22 c23 c24 c25, W_State k b1 o1 s1, W_Bounds k b0 (o0+1) c8 c9 c10 c11 c12 c13 c14 c15 c16]) (br := [[((b0 o0), .inr (2, [.ref (b0 (o0+1)), .ref (b0 (o0+34))]))], W_Bounds k b0 (o0+34) c27 c18 c19 c20 c21 c22 c23 c24 c25, W_State k b1 o1 s1]) (bc := [W_Bounds k b0 (o0+1) c8 c9 c10 c11 c12 c13 c14 c15 c16]) (bc' := [W_Bounds k b0 (o0+1) c8 c9 c10 c11 c12 c13 c14 c15 c16]) X hP hD hS (c_Bounds_boundOf l D k t b0 (o0+1) c8 c9 c10 c11 c12 c13 c14 c15 c16 i7 1 r28 hg_r28) mv_X2_73 hl [0, 1, 2] [3] 0 ⟨rfl, rfl⟩ ⟨Nat.le_of_ble_eq_true rfl, Nat.le_of_ble_eq_true rfl⟩ rfl rfl rfl rfl rfl rfl rfl (Nat.le_of_ble_eq_true rfl) dX2_decode_92 (fun H locs hP hD hS => ?_)
      have hP : va_P D vwCl [[((b0 o0), .inr (2, [.ref (b0 (o0+1)), .ref (b0 (o0+34))]))], W_Bounds k b0 (o0+34) c27 c18 c19 c20 c21 c22 c23 c24 c25, W_State k b1 o1 s1, W_Bounds k b0 (o0+1) c8 c9 c10 c11 c12 c13 c14 c15 c16].flatten _ := hP
      have hD : va_D A [[((b0 o0), .inr (2, [.ref (b0 (o0+1)), .ref (b0 (o0+34))]))], W_Bounds k b0 (o0+34) c27 c18 c19 c20 c21 c22 c23 c24 c25, W_State k b1 o1 s1, W_Bounds k b0 (o0+1) c8 c9 c10 c11 c12 c13 c14 c15 c16].flatten := hD
      refine lv_aload hx hb dX2_decode_95 (lv_at hl 4 rfl) ?_
      refine kget (v := .int s1.1.1.1.1.1.2) X hP ff_X2_77 35 rfl rfl dX2_decode_97 ?_
      refine lv_lshl (v := r28 <<< (s1.1.1.1.1.1.2.toInt64 &&& 63)) hx hb dX2_decode_100 rfl ?_
      refine lv_ladd hx hb dX2_decode_101 ?_
      obtain ⟨hc, hf⟩ := ofck hf
      generalize hc29 : vp_updL c18 i7.toNatClampNeg (((s1.2.1.1.2 i7.toNatClampNeg).toInt64) + (r28 <<< (s1.1.1.1.1.1.2.toInt64 &&& 63))) = c29 at hf
      refine klast2 (f := c18) (n := 24) (g := c29) X hP hD hS 3 rfl hc hc29 dX2_decode_102 (fun H locs hP hD hS => ?_)
      have hP : va_P D vwCl [[((b0 o0), .inr (2, [.ref (b0 (o0+1)), .ref (b0 (o0+34))]))], W_Bounds k b0 (o0+34) c27 c29 c19 c20 c21 c22 c23 c24 c25, W_State k b1 o1 s1, W_Bounds k b0 (o0+1) c8 c9 c10 c11 c12 c13 c14 c15 c16].flatten _ := hP
      have hD : va_D A [[((b0 o0), .inr (2, [.ref (b0 (o0+1)), .ref (b0 (o0+34))]))], W_Bounds k b0 (o0+34) c27 c29 c19 c20 c21 c22 c23 c24 c25, W_State k b1 o1 s1, W_Bounds k b0 (o0+1) c8 c9 c10 c11 c12 c13 c14 c15 c16].flatten := hD
      refine lv_iinc (v := i7 + 1) (lv' := [(5, .int (i7 + 1)), (0, .ref (b0 o0)), (1, .ref (b1 o1)), (2, .ref (b1 (o1+3))), (3, .int i6), (4, .ref (b1 (o1+1)))]) hx hb dX2_decode_103 hl (k := 5) rfl rfl (by decide) rfl (fun ls hl => ?_)
      refine lv_goto (tgt := 23) hx hb dX2_decode_106 (by decide) ?_
      obtain ⟨hP, hD⟩ := B_perm (br := [[((b0 o0), .inr (2, [.ref (b0 (o0+1)), .ref (b0 (o0+34))]))], W_Bounds k b0 (o0+1) c8 c9 c10 c11 c12 c13 c14 c15 c16, W_Bounds k b0 (o0+34) c27 c29 c19 c20 c21 c22 c23 c24 c25, W_State k b1 o1 s1]) hP hD [0, 3, 1, 2] rfl rfl
      have hP : va_P D vwCl [W_Decoder k b0 o0 (((((c8, c9), c10), (c11, c12)), ((c13, c14), (c15, c16))), ((((c27, c29), c19), (c20, c21)), ((c22, c23), (c24, c25)))), W_State k b1 o1 s1].flatten _ := hP
      have hD : va_D A [W_Decoder k b0 o0 (((((c8, c9), c10), (c11, c12)), ((c13, c14), (c15, c16))), ((((c27, c29), c19), (c20, c21)), ((c22, c23), (c24, c25)))), W_State k b1 o1 s1].flatten := hD
      exact ih (i7 + 1) c27 c29 _ _ _ hP hD hS (lv_sub hl [1, 2, 3, 4, 5, 0] rfl) hf
set_option maxRecDepth 100000 in
set_option maxHeartbeats 1000000 in
theorem w_Decoder_decode_f_L112 {p : Program} {l : Launch} {e : Env} {s : State} {m : MethodId} {below : List Frame} {meth : Method} {c : Code} {args : Array Value} {A : Nat → Prop} {D : va_G} {k : Nat → ClassId} {t : Nat → Nat} (X : BX l D k t p s m args meth c cX2_decode 6 RX2 (some .int) A) (b0 : Nat → Nat) (o0 : Nat) (s0 : DecoderS) (b1 : Nat → Nat) (o1 : Nat) (s1 : StateS) (N : Nat) (i35 : Int32) (c37 : FJ) (c38 : FJ) (c39 : FJ) (c40 : FJ) (c41 : FJ) (c42 : FJ) (c43 : (Nat → FI)) (c44 : FI) (c45 : Int32) (c46 : FJ) (c47 : FJ) (c48 : FJ) (c49 : FJ) (out : Int32 × FJ × FJ × FJ × FJ × FJ × FJ × (Nat → FI) × FI × Int32 × FJ × FJ × FJ × FJ × FJ × FJ × (Nat → FI) × FI × Int32) (K147 : Int32 → FJ → FJ → (Nat → FI) → FI → Int32 → Option (Int32 × FJ × FJ × FJ × FJ × FJ × FJ × (Nat → FI) × FI × Int32 × FJ × FJ × FJ × FJ × FJ × FJ × (Nat → FI) × FI × Int32)) (hK147 : ∀ (i36' : Int32) (c50' : FJ) (c51' : FJ) (c52' : (Nat → FI)) (c53' : FI) (c54' : Int32) (H : Heap) (locs : List Loc) (ls : Array Slot), va_P D vwCl [W_Decoder k b0 o0 (((((c37, c38), c39), (c40, c41)), ((c42, c43), (c44, c45))), ((((c46, c47), c48), (c49, c50')), ((c51', c52'), (c53', c54')))), W_State k b1 o1 s1].flatten H → va_D A [W_Decoder k b0 o0 (((((c37, c38), c39), (c40, c41)), ((c42, c43), (c44, c45))), ((((c46, c47), c48), (c49, c50')), ((c51', c52'), (c53', c54')))), W_State k b1 o1 s1].flatten → va_S A s.heap H locs → lv_has ls 6 [(0, .ref (b0 o0)), (3, .int i35)] → K147 i36' c50' c51' c52' c53' c54' = some out → W p l e rm_Decoder_decode_f s m args below meth c H locs 0 0 (Q_Decoder_decode_f below D k A args s b0 o0 s0 b1 o1 s1 out) (F0 m 147 ls [])) : ∀ (n : Nat) (i36 : Int32) (c50 : FJ) (c51 : FJ) (c52 : (Nat → FI)) (c53 : FI) (c54 : Int32) (H : Heap) (locs : List Loc) (ls : Array Slot), va_P D vwCl [W_Decoder k b0 o0 (((((c37, c38), c39), (c40, c41)), ((c42, c43), (c44, c45))), ((((c46, c47), c48), (c49, c50)), ((c51, c52), (c53, c54)))), W_State k b1 o1 s1].flatten H → va_D A [W_Decoder k b0 o0 (((((c37, c38), c39), (c40, c41)), ((c42, c43), (c44, c45))), ((((c46, c47), c48), (c49, c50)), ((c51, c52), (c53, c54)))), W_State k b1 o1 s1].flatten → va_S A s.heap H locs → lv_has ls 6 [(0, .ref (b0 o0)), (1, .ref (b1 o1)), (3, .int i35), (4, .ref (b1 (o1+1))), (5, .int i36)] → f_Decoder_decode_f_L112 N c47 s1.1.1.1.1.1.1 s1.1.1.1.1.2 s1.1.1.2 s1.1.2 K147 n i36 c50 c51 c52 c53 c54 = some out → W p l e rm_Decoder_decode_f s m args below meth c H locs 0 0 (Q_Decoder_decode_f below D k A args s b0 o0 s0 b1 o1 s1 out) (F0 m 112 ls []) := by
  have hx := X.1.1
  have hb := X.1.2.1
  have hml := X.1.2.2.1
  have hown := X.1.2.2.2.1
  have hts := X.1.2.2.2.2
  intro n
  induction n with
  | zero =>
    intro i36 c50 c51 c52 c53 c54 H locs ls hP hD hS hl hf
    rw [f_Decoder_decode_f_L112] at hf
    cases hf
  | succ n ih =>
    intro i36 c50 c51 c52 c53 c54 H locs ls hP hD hS hl hf
    rw [f_Decoder_decode_f_L112] at hf
    refine lv_iload hx hb dX2_decode_112 (lv_at hl 4 rfl) ?_
    refine lv_aload_n hx hb dX2_decode_114 rfl (lv_at hl 1 rfl) ?_
    refine kget (v := .int s1.1.1.2) X hP ff_X2_80 67 rfl rfl dX2_decode_115 ?_
    refine lv_icmp_ge (tgt := 147) hx hb dX2_decode_118 (by decide) (fun hc => ?_) (fun hc => ?_)
    · have hf := ofpos hf hc
      exact hK147 i36 c50 c51 c52 c53 c54 _ _ _ hP hD hS (lv_sub hl [0, 2] rfl) hf
    · have hf := ofneg hf hc
      refine lv_aload_n hx hb dX2_decode_121 rfl (lv_at hl 0 rfl) ?_
      refine kget (v := .ref (b0 (o0+34))) X hP ff_X2_18 0 rfl rfl dX2_decode_122 ?_
      refine lv_aload hx hb dX2_decode_125 (lv_at hl 3 rfl) ?_
      refine lv_aload_n hx hb dX2_decode_127 rfl (lv_at hl 1 rfl) ?_
      refine kget (v := .ref (b1 (o1+2))) X hP ff_X2_83 67 rfl rfl dX2_decode_128 ?_
      refine lv_iload hx hb dX2_decode_131 (lv_at hl 4 rfl) ?_
      obtain ⟨hc, hf⟩ := ofck hf
      refine kiald (f := s1.1.2) (n := 16) X hP 69 rfl hc dX2_decode_133 ?_
      obtain ⟨r55, hg_r55, hf⟩ := ofbind hf
      have hP : va_P D vwCl [W_Decoder k b0 o0 (((((c37, c38), c39), (c40, c41)), ((c42, c43), (c44, c45))), ((((c46, c47), c48), (c49, c50)), ((c51, c52), (c53, c54)))), [((b1 o1), .inr (5, [.ref (b1 (o1+1)), .int s1.1.1.2, .ref (b1 (o1+2)), .ref (b1 (o1+3)), .ref (b1 (o1+8))]))], W_Form k b1 (o1+1) s1.1.1.1.1.1.1 s1.1.1.1.1.1.2 s1.1.1.1.1.2 s1.1.1.1.2.1.1 s1.1.1.1.2.1.2 s1.1.1.1.2.2, [((b1 (o1+2)), .inl (k 0, 16, .inl s1.1.2))], W_Braid k b1 (o1+3) s1.2.1.1.1 s1.2.1.1.2 s1.2.1.2.1 s1.2.1.2.2, W_Braid k b1 (o1+8) s1.2.2.1.1 s1.2.2.1.2 s1.2.2.2.1 s1.2.2.2.2].flatten _ := hP
      have hD : va_D A [W_Decoder k b0 o0 (((((c37, c38), c39), (c40, c41)), ((c42, c43), (c44, c45))), ((((c46, c47), c48), (c49, c50)), ((c51, c52), (c53, c54)))), [((b1 o1), .inr (5, [.ref (b1 (o1+1)), .int s1.1.1.2, .ref (b1 (o1+2)), .ref (b1 (o1+3)), .ref (b1 (o1+8))]))], W_Form k b1 (o1+1) s1.1.1.1.1.1.1 s1.1.1.1.1.1.2 s1.1.1.1.1.2 s1.1.1.1.2.1.1 s1.1.1.1.2.1.2 s1.1.1.1.2.2, [((b1 (o1+2)), .inl (k 0, 16, .inl s1.1.2))], W_Braid k b1 (o1+3) s1.2.1.1.1 s1.2.1.1.2 s1.2.1.2.1 s1.2.1.2.2, W_Braid k b1 (o1+8) s1.2.2.1.1 s1.2.2.1.2 s1.2.2.2.1 s1.2.2.2.2].flatten := hD
      refine kcV (bs := [W_Decoder k b0 o0 (((((c37, c38), c39), (c40, c41)), ((c42, c43), (c44, c45))), ((((c46, c47), c48), (c49, c50)), ((c51, c52), (c53, c54)))), [((b1 o1), .inr (5, [.ref (b1 (o1+1)), .int s1.1.1.2, .ref (b1 (o1+2)), .ref (b1 (o1+3)), .ref (b1 (o1+8))]))], W_Form k b1 (o1+1) s1.1.1.1.1.1.1 s1.1.1.1.1.1.2 s1.1.1.1.1.2 s1.1.1.1.2.1.1 s1.1.1.1.2.1.2 s1.1.1.1.2.2, [((b1 (o1+2)), .inl (k 0, 16, .inl s1.1.2))], W_Braid k b1 (o1+3) s1.2.1.1.1 s1.2.1.1.2 s1.2.1.2.1 s1.2.1.2.2, W_Braid k b1 (o1+8) s1.2.2.1.1 s1.2.2.1.2 s1.2.2.2.1 s1.2.2.2.2]) (br := [W_Decoder k b0 o0 (((((c37, c38), c39), (c40, c41)), ((c42, c43), (c44, c45))), ((((c46, c47), c48), (c49, c50)), ((c51, c52), (c53, c54)))), [((b1 o1), .inr (5, [.ref (b1 (o1+1)), .int s1.1.1.2, .ref (b1 (o1+2)), .ref (b1 (o1+3)), .ref (b1 (o1+8))]))], [((b1 (o1+2)), .inl (k 0, 16, .inl s1.1.2))], W_Braid k b1 (o1+3) s1.2.1.1.1 s1.2.1.1.2 s1.2.1.2.1 s1.2.1.2.2, W_Braid k b1 (o1+8) s1.2.2.1.1 s1.2.2.1.2 s1.2.2.2.1 s1.2.2.2.2]) (bc := [W_Form k b1 (o1+1) s1.1.1.1.1.1.1 s1.1.1.1.1.1.2 s1.1.1.1.1.2 s1.1.1.1.2.1.1 s1.1.1.1.2.1.2 s1.1.1.1.2.2]) (bc' := [W_Form k b1 (o1+1) s1.1.1.1.1.1.1 s1.1.1.1.1.1.2 s1.1.1.1.1.2 s1.1.1.1.2.1.1 s1.1.1.1.2.1.2 s1.1.1.1.2.2]) X hP hD hS (c_Form_placesOfKey l D k t b1 (o1+1) s1.1.1.1.1.1.1 s1.1.1.1.1.1.2 s1.1.1.1.1.2 s1.1.1.1.2.1.1 s1.1.1.1.2.1.2 s1.1.1.1.2.2 (s1.1.2 i36.toNatClampNeg) N r55 hg_r55) mv_X2_86 hl [0, 1, 3, 4, 5] [2] 3 ⟨rfl, rfl⟩ ⟨Nat.le_of_ble_eq_true rfl, Nat.le_of_ble_eq_true rfl⟩ rfl rfl rfl rfl rfl rfl rfl (Nat.le_of_ble_eq_true rfl) dX2_decode_134 (fun H locs hP hD hS => ?_)
      have hP : va_P D vwCl [W_Decoder k b0 o0 (((((c37, c38), c39), (c40, c41)), ((c42, c43), (c44, c45))), ((((c46, c47), c48), (c49, c50)), ((c51, c52), (c53, c54)))), [((b1 o1), .inr (5, [.ref (b1 (o1+1)), .int s1.1.1.2, .ref (b1 (o1+2)), .ref (b1 (o1+3)), .ref (b1 (o1+8))]))], [((b1 (o1+2)), .inl (k 0, 16, .inl s1.1.2))], W_Braid k b1 (o1+3) s1.2.1.1.1 s1.2.1.1.2 s1.2.1.2.1 s1.2.1.2.2, W_Braid k b1 (o1+8) s1.2.2.1.1 s1.2.2.1.2 s1.2.2.2.1 s1.2.2.2.2, W_Form k b1 (o1+1) s1.1.1.1.1.1.1 s1.1.1.1.1.1.2 s1.1.1.1.1.2 s1.1.1.1.2.1.1 s1.1.1.1.2.1.2 s1.1.1.1.2.2].flatten _ := hP
      have hD : va_D A [W_Decoder k b0 o0 (((((c37, c38), c39), (c40, c41)), ((c42, c43), (c44, c45))), ((((c46, c47), c48), (c49, c50)), ((c51, c52), (c53, c54)))), [((b1 o1), .inr (5, [.ref (b1 (o1+1)), .int s1.1.1.2, .ref (b1 (o1+2)), .ref (b1 (o1+3)), .ref (b1 (o1+8))]))], [((b1 (o1+2)), .inl (k 0, 16, .inl s1.1.2))], W_Braid k b1 (o1+3) s1.2.1.1.1 s1.2.1.1.2 s1.2.1.2.1 s1.2.1.2.2, W_Braid k b1 (o1+8) s1.2.2.1.1 s1.2.2.1.2 s1.2.2.2.1 s1.2.2.2.2, W_Form k b1 (o1+1) s1.1.1.1.1.1.1 s1.1.1.1.1.1.2 s1.1.1.1.1.2 s1.1.1.1.2.1.1 s1.1.1.1.2.1.2 s1.1.1.1.2.2].flatten := hD
      refine lv_lconst (v := 0) hx hb dX2_decode_137 (by decide) ?_
      obtain ⟨r56, hg_r56, hf⟩ := ofbind hf
      have hP : va_P D vwCl [[((b0 o0), .inr (2, [.ref (b0 (o0+1)), .ref (b0 (o0+34))]))], W_Bounds k b0 (o0+1) c37 c38 c39 c40 c41 c42 c43 c44 c45, W_Bounds k b0 (o0+34) c46 c47 c48 c49 c50 c51 c52 c53 c54, [((b1 o1), .inr (5, [.ref (b1 (o1+1)), .int s1.1.1.2, .ref (b1 (o1+2)), .ref (b1 (o1+3)), .ref (b1 (o1+8))]))], [((b1 (o1+2)), .inl (k 0, 16, .inl s1.1.2))], W_Braid k b1 (o1+3) s1.2.1.1.1 s1.2.1.1.2 s1.2.1.2.1 s1.2.1.2.2, W_Braid k b1 (o1+8) s1.2.2.1.1 s1.2.2.1.2 s1.2.2.2.1 s1.2.2.2.2, W_Form k b1 (o1+1) s1.1.1.1.1.1.1 s1.1.1.1.1.1.2 s1.1.1.1.1.2 s1.1.1.1.2.1.1 s1.1.1.1.2.1.2 s1.1.1.1.2.2].flatten _ := hP
      have hD : va_D A [[((b0 o0), .inr (2, [.ref (b0 (o0+1)), .ref (b0 (o0+34))]))], W_Bounds k b0 (o0+1) c37 c38 c39 c40 c41 c42 c43 c44 c45, W_Bounds k b0 (o0+34) c46 c47 c48 c49 c50 c51 c52 c53 c54, [((b1 o1), .inr (5, [.ref (b1 (o1+1)), .int s1.1.1.2, .ref (b1 (o1+2)), .ref (b1 (o1+3)), .ref (b1 (o1+8))]))], [((b1 (o1+2)), .inl (k 0, 16, .inl s1.1.2))], W_Braid k b1 (o1+3) s1.2.1.1.1 s1.2.1.1.2 s1.2.1.2.1 s1.2.1.2.2, W_Braid k b1 (o1+8) s1.2.2.1.1 s1.2.2.1.2 s1.2.2.2.1 s1.2.2.2.2, W_Form k b1 (o1+1) s1.1.1.1.1.1.1 s1.1.1.1.1.1.2 s1.1.1.1.1.2 s1.1.1.1.2.1.1 s1.1.1.1.2.1.2 s1.1.1.1.2.2].flatten := hD
      refine kcV (bs := [[((b0 o0), .inr (2, [.ref (b0 (o0+1)), .ref (b0 (o0+34))]))], W_Bounds k b0 (o0+1) c37 c38 c39 c40 c41 c42 c43 c44 c45, W_Bounds k b0 (o0+34) c46 c47 c48 c49 c50 c51 c52 c53 c54, [((b1 o1), .inr (5, [.ref (b1 (o1+1)), .int s1.1.1.2, .ref (b1 (o1+2)), .ref (b1 (o1+3)), .ref (b1 (o1+8))]))], [((b1 (o1+2)), .inl (k 0, 16, .inl s1.1.2))], W_Braid k b1 (o1+3) s1.2.1.1.1 s1.2.1.1.2 s1.2.1.2.1 s1.2.1.2.2, W_Braid k b1 (o1+8) s1.2.2.1.1 s1.2.2.1.2 s1.2.2.2.1 s1.2.2.2.2, W_Form k b1 (o1+1) s1.1.1.1.1.1.1 s1.1.1.1.1.1.2 s1.1.1.1.1.2 s1.1.1.1.2.1.1 s1.1.1.1.2.1.2 s1.1.1.1.2.2]) (br := [[((b0 o0), .inr (2, [.ref (b0 (o0+1)), .ref (b0 (o0+34))]))], W_Bounds k b0 (o0+1) c37 c38 c39 c40 c41 c42 c43 c44 c45, [((b1 o1), .inr (5, [.ref (b1 (o1+1)), .int s1.1.1.2, .ref (b1 (o1+2)), .ref (b1 (o1+3)), .ref (b1 (o1+8))]))], [((b1 (o1+2)), .inl (k 0, 16, .inl s1.1.2))], W_Braid k b1 (o1+3) s1.2.1.1.1 s1.2.1.1.2 s1.2.1.2.1 s1.2.1.2.2, W_Braid k b1 (o1+8) s1.2.2.1.1 s1.2.2.1.2 s1.2.2.2.1 s1.2.2.2.2, W_Form k b1 (o1+1) s1.1.1.1.1.1.1 s1.1.1.1.1.1.2 s1.1.1.1.1.2 s1.1.1.1.2.1.1 s1.1.1.1.2.1.2 s1.1.1.1.2.2]) (bc := [W_Bounds k b0 (o0+34) c46 c47 c48 c49 c50 c51 c52 c53 c54]) (bc' := [W_Bounds k b0 (o0+34) c46 c47 c48 c49 r56.1 r56.2.1 r56.2.2.1 r56.2.2.2.1 r56.2.2.2.2]) X hP hD hS (c_Bounds_append l D k t b0 (o0+34) c46 c47 c48 c49 c50 c51 c52 c53 c54 r55 0 N r56 hg_r56) mv_X2_50 hl [0, 1, 3, 4, 5, 6, 7] [2] 0 ⟨rfl, rfl⟩ ⟨Nat.le_of_ble_eq_true rfl, Nat.le_of_ble_eq_true rfl⟩ rfl rfl rfl rfl rfl rfl rfl (Nat.le_of_ble_eq_true rfl) dX2_decode_138 (fun H locs hP hD hS => ?_)
      have hP : va_P D vwCl [[((b0 o0), .inr (2, [.ref (b0 (o0+1)), .ref (b0 (o0+34))]))], W_Bounds k b0 (o0+1) c37 c38 c39 c40 c41 c42 c43 c44 c45, [((b1 o1), .inr (5, [.ref (b1 (o1+1)), .int s1.1.1.2, .ref (b1 (o1+2)), .ref (b1 (o1+3)), .ref (b1 (o1+8))]))], [((b1 (o1+2)), .inl (k 0, 16, .inl s1.1.2))], W_Braid k b1 (o1+3) s1.2.1.1.1 s1.2.1.1.2 s1.2.1.2.1 s1.2.1.2.2, W_Braid k b1 (o1+8) s1.2.2.1.1 s1.2.2.1.2 s1.2.2.2.1 s1.2.2.2.2, W_Form k b1 (o1+1) s1.1.1.1.1.1.1 s1.1.1.1.1.1.2 s1.1.1.1.1.2 s1.1.1.1.2.1.1 s1.1.1.1.2.1.2 s1.1.1.1.2.2, W_Bounds k b0 (o0+34) c46 c47 c48 c49 r56.1 r56.2.1 r56.2.2.1 r56.2.2.2.1 r56.2.2.2.2].flatten _ := hP
      have hD : va_D A [[((b0 o0), .inr (2, [.ref (b0 (o0+1)), .ref (b0 (o0+34))]))], W_Bounds k b0 (o0+1) c37 c38 c39 c40 c41 c42 c43 c44 c45, [((b1 o1), .inr (5, [.ref (b1 (o1+1)), .int s1.1.1.2, .ref (b1 (o1+2)), .ref (b1 (o1+3)), .ref (b1 (o1+8))]))], [((b1 (o1+2)), .inl (k 0, 16, .inl s1.1.2))], W_Braid k b1 (o1+3) s1.2.1.1.1 s1.2.1.1.2 s1.2.1.2.1 s1.2.1.2.2, W_Braid k b1 (o1+8) s1.2.2.1.1 s1.2.2.1.2 s1.2.2.2.1 s1.2.2.2.2, W_Form k b1 (o1+1) s1.1.1.1.1.1.1 s1.1.1.1.1.1.2 s1.1.1.1.1.2 s1.1.1.1.2.1.1 s1.1.1.1.2.1.2 s1.1.1.1.2.2, W_Bounds k b0 (o0+34) c46 c47 c48 c49 r56.1 r56.2.1 r56.2.2.1 r56.2.2.2.1 r56.2.2.2.2].flatten := hD
      refine lv_iinc (v := i36 + 1) (lv' := [(5, .int (i36 + 1)), (0, .ref (b0 o0)), (1, .ref (b1 o1)), (3, .int i35), (4, .ref (b1 (o1+1)))]) hx hb dX2_decode_141 hl (k := 4) rfl rfl (by decide) rfl (fun ls hl => ?_)
      refine lv_goto (tgt := 112) hx hb dX2_decode_144 (by decide) ?_
      obtain ⟨hP, hD⟩ := B_perm (br := [[((b0 o0), .inr (2, [.ref (b0 (o0+1)), .ref (b0 (o0+34))]))], W_Bounds k b0 (o0+1) c37 c38 c39 c40 c41 c42 c43 c44 c45, W_Bounds k b0 (o0+34) c46 c47 c48 c49 r56.1 r56.2.1 r56.2.2.1 r56.2.2.2.1 r56.2.2.2.2, [((b1 o1), .inr (5, [.ref (b1 (o1+1)), .int s1.1.1.2, .ref (b1 (o1+2)), .ref (b1 (o1+3)), .ref (b1 (o1+8))]))], [((b1 (o1+2)), .inl (k 0, 16, .inl s1.1.2))], W_Braid k b1 (o1+3) s1.2.1.1.1 s1.2.1.1.2 s1.2.1.2.1 s1.2.1.2.2, W_Braid k b1 (o1+8) s1.2.2.1.1 s1.2.2.1.2 s1.2.2.2.1 s1.2.2.2.2, W_Form k b1 (o1+1) s1.1.1.1.1.1.1 s1.1.1.1.1.1.2 s1.1.1.1.1.2 s1.1.1.1.2.1.1 s1.1.1.1.2.1.2 s1.1.1.1.2.2]) hP hD [0, 1, 7, 2, 3, 4, 5, 6] rfl rfl
      have hP : va_P D vwCl [W_Decoder k b0 o0 (((((c37, c38), c39), (c40, c41)), ((c42, c43), (c44, c45))), ((((c46, c47), c48), (c49, r56.1)), ((r56.2.1, r56.2.2.1), (r56.2.2.2.1, r56.2.2.2.2)))), [((b1 o1), .inr (5, [.ref (b1 (o1+1)), .int s1.1.1.2, .ref (b1 (o1+2)), .ref (b1 (o1+3)), .ref (b1 (o1+8))]))], [((b1 (o1+2)), .inl (k 0, 16, .inl s1.1.2))], W_Braid k b1 (o1+3) s1.2.1.1.1 s1.2.1.1.2 s1.2.1.2.1 s1.2.1.2.2, W_Braid k b1 (o1+8) s1.2.2.1.1 s1.2.2.1.2 s1.2.2.2.1 s1.2.2.2.2, W_Form k b1 (o1+1) s1.1.1.1.1.1.1 s1.1.1.1.1.1.2 s1.1.1.1.1.2 s1.1.1.1.2.1.1 s1.1.1.1.2.1.2 s1.1.1.1.2.2].flatten _ := hP
      have hD : va_D A [W_Decoder k b0 o0 (((((c37, c38), c39), (c40, c41)), ((c42, c43), (c44, c45))), ((((c46, c47), c48), (c49, r56.1)), ((r56.2.1, r56.2.2.1), (r56.2.2.2.1, r56.2.2.2.2)))), [((b1 o1), .inr (5, [.ref (b1 (o1+1)), .int s1.1.1.2, .ref (b1 (o1+2)), .ref (b1 (o1+3)), .ref (b1 (o1+8))]))], [((b1 (o1+2)), .inl (k 0, 16, .inl s1.1.2))], W_Braid k b1 (o1+3) s1.2.1.1.1 s1.2.1.1.2 s1.2.1.2.1 s1.2.1.2.2, W_Braid k b1 (o1+8) s1.2.2.1.1 s1.2.2.1.2 s1.2.2.2.1 s1.2.2.2.2, W_Form k b1 (o1+1) s1.1.1.1.1.1.1 s1.1.1.1.1.1.2 s1.1.1.1.1.2 s1.1.1.1.2.1.1 s1.1.1.1.2.1.2 s1.1.1.1.2.2].flatten := hD
      obtain ⟨hP, hD⟩ := B_perm (br := [W_Decoder k b0 o0 (((((c37, c38), c39), (c40, c41)), ((c42, c43), (c44, c45))), ((((c46, c47), c48), (c49, r56.1)), ((r56.2.1, r56.2.2.1), (r56.2.2.2.1, r56.2.2.2.2)))), [((b1 o1), .inr (5, [.ref (b1 (o1+1)), .int s1.1.1.2, .ref (b1 (o1+2)), .ref (b1 (o1+3)), .ref (b1 (o1+8))]))], W_Form k b1 (o1+1) s1.1.1.1.1.1.1 s1.1.1.1.1.1.2 s1.1.1.1.1.2 s1.1.1.1.2.1.1 s1.1.1.1.2.1.2 s1.1.1.1.2.2, [((b1 (o1+2)), .inl (k 0, 16, .inl s1.1.2))], W_Braid k b1 (o1+3) s1.2.1.1.1 s1.2.1.1.2 s1.2.1.2.1 s1.2.1.2.2, W_Braid k b1 (o1+8) s1.2.2.1.1 s1.2.2.1.2 s1.2.2.2.1 s1.2.2.2.2]) hP hD [0, 1, 5, 2, 3, 4] rfl rfl
      have hP : va_P D vwCl [W_Decoder k b0 o0 (((((c37, c38), c39), (c40, c41)), ((c42, c43), (c44, c45))), ((((c46, c47), c48), (c49, r56.1)), ((r56.2.1, r56.2.2.1), (r56.2.2.2.1, r56.2.2.2.2)))), W_State k b1 o1 s1].flatten _ := hP
      have hD : va_D A [W_Decoder k b0 o0 (((((c37, c38), c39), (c40, c41)), ((c42, c43), (c44, c45))), ((((c46, c47), c48), (c49, r56.1)), ((r56.2.1, r56.2.2.1), (r56.2.2.2.1, r56.2.2.2.2)))), W_State k b1 o1 s1].flatten := hD
      exact ih (i36 + 1) r56.1 r56.2.1 r56.2.2.1 r56.2.2.2.1 r56.2.2.2.2 _ _ _ hP hD hS (lv_sub hl [1, 2, 3, 4, 0] rfl) hf
set_option maxRecDepth 100000 in
set_option maxHeartbeats 1000000 in
theorem c_Decoder_decode_f (l : Launch) (D : va_G) (k : Nat → ClassId) (t : Nat → Nat) (b0 : Nat → Nat) (o0 : Nat) (s0 : DecoderS) (b1 : Nat → Nat) (o1 : Nat) (s1 : StateS) (x3 : Int32) (N : Nat) (out : Int32 × FJ × FJ × FJ × FJ × FJ × FJ × (Nat → FI) × FI × Int32 × FJ × FJ × FJ × FJ × FJ × FJ × (Nat → FI) × FI × Int32) (hf : f_Decoder_decode_f N x3 s0.1.1.1.1.1 s0.1.1.1.1.2 s0.1.1.1.2 s0.1.1.2.1 s0.1.1.2.2 s0.1.2.1.1 s0.1.2.1.2 s0.1.2.2.1 s0.1.2.2.2 s0.2.1.1.1.1 s0.2.1.1.1.2 s0.2.1.1.2 s0.2.1.2.1 s0.2.1.2.2 s0.2.2.1.1 s0.2.2.1.2 s0.2.2.2.1 s0.2.2.2.2 s1.1.1.1.1.1.1 s1.1.1.1.1.1.2 s1.1.1.1.1.2 s1.1.1.1.2.1.1 s1.1.1.1.2.1.2 s1.1.1.1.2.2 s1.1.1.2 s1.1.2 s1.2.1.1.2 s1.2.1.2.1 s1.2.1.2.2 = some out) : CT l D k t yX2_decode cX2_decode 6 (some .int) rm_Decoder_decode_f [.ref (b0 o0), .ref (b1 o1), .ref (b1 (o1+3)), .int x3] [W_Decoder k b0 o0 s0, W_State k b1 o1 s1].flatten (some (.int out.1)) [W_Decoder k b0 o0 (((((out.2.1, out.2.2.1), out.2.2.2.1), (out.2.2.2.2.1, out.2.2.2.2.2.1)), ((out.2.2.2.2.2.2.1, out.2.2.2.2.2.2.2.1), (out.2.2.2.2.2.2.2.2.1, out.2.2.2.2.2.2.2.2.2.1))), ((((out.2.2.2.2.2.2.2.2.2.2.1, out.2.2.2.2.2.2.2.2.2.2.2.1), out.2.2.2.2.2.2.2.2.2.2.2.2.1), (out.2.2.2.2.2.2.2.2.2.2.2.2.2.1, out.2.2.2.2.2.2.2.2.2.2.2.2.2.2.1)), ((out.2.2.2.2.2.2.2.2.2.2.2.2.2.2.2.1, out.2.2.2.2.2.2.2.2.2.2.2.2.2.2.2.2.1), (out.2.2.2.2.2.2.2.2.2.2.2.2.2.2.2.2.2.1, out.2.2.2.2.2.2.2.2.2.2.2.2.2.2.2.2.2.2)))), W_State k b1 o1 s1].flatten := by
  refine kofW (by decide) (Nat.le_of_ble_eq_true rfl) ?_
  intro p e s m below meth c A ls X hP hD hS hl
  have hx := X.1.1
  have hb := X.1.2.1
  have hml := X.1.2.2.1
  have hown := X.1.2.2.2.1
  have hts := X.1.2.2.2.2
  have hl : lv_has ls 6 [(0, .ref (b0 o0)), (1, .ref (b1 o1)), (2, .ref (b1 (o1+3))), (3, .int x3)] := hl
  rw [f_Decoder_decode_f] at hf
  refine lv_aload_n hx hb dX2_decode_0 rfl (lv_at hl 1 rfl) ?_
  refine kget (v := .ref (b1 (o1+1))) X hP ff_X2_60 67 rfl rfl dX2_decode_1 ?_
  refine lv_astore (lv' := [(4, .ref (b1 (o1+1))), (0, .ref (b0 o0)), (1, .ref (b1 o1)), (2, .ref (b1 (o1+3))), (3, .int x3)]) hx hb dX2_decode_4 hl (by decide) rfl (fun ls hl => ?_)
  refine lv_aload_n hx hb dX2_decode_6 rfl (lv_at hl 1 rfl) ?_
  refine lv_aload hx hb dX2_decode_7 (lv_at hl 0 rfl) ?_
  refine lv_aload_n hx hb dX2_decode_9 rfl (lv_at hl 3 rfl) ?_
  obtain ⟨r1, hg_r1, hf⟩ := ofbind hf
  have hP : va_P D vwCl [W_Decoder k b0 o0 s0, [((b1 o1), .inr (5, [.ref (b1 (o1+1)), .int s1.1.1.2, .ref (b1 (o1+2)), .ref (b1 (o1+3)), .ref (b1 (o1+8))]))], W_Form k b1 (o1+1) s1.1.1.1.1.1.1 s1.1.1.1.1.1.2 s1.1.1.1.1.2 s1.1.1.1.2.1.1 s1.1.1.1.2.1.2 s1.1.1.1.2.2, [((b1 (o1+2)), .inl (k 0, 16, .inl s1.1.2))], W_Braid k b1 (o1+3) s1.2.1.1.1 s1.2.1.1.2 s1.2.1.2.1 s1.2.1.2.2, W_Braid k b1 (o1+8) s1.2.2.1.1 s1.2.2.1.2 s1.2.2.2.1 s1.2.2.2.2].flatten _ := hP
  have hD : va_D A [W_Decoder k b0 o0 s0, [((b1 o1), .inr (5, [.ref (b1 (o1+1)), .int s1.1.1.2, .ref (b1 (o1+2)), .ref (b1 (o1+3)), .ref (b1 (o1+8))]))], W_Form k b1 (o1+1) s1.1.1.1.1.1.1 s1.1.1.1.1.1.2 s1.1.1.1.1.2 s1.1.1.1.2.1.1 s1.1.1.1.2.1.2 s1.1.1.1.2.2, [((b1 (o1+2)), .inl (k 0, 16, .inl s1.1.2))], W_Braid k b1 (o1+3) s1.2.1.1.1 s1.2.1.1.2 s1.2.1.2.1 s1.2.1.2.2, W_Braid k b1 (o1+8) s1.2.2.1.1 s1.2.2.1.2 s1.2.2.2.1 s1.2.2.2.2].flatten := hD
  refine kcV (bs := [W_Decoder k b0 o0 s0, [((b1 o1), .inr (5, [.ref (b1 (o1+1)), .int s1.1.1.2, .ref (b1 (o1+2)), .ref (b1 (o1+3)), .ref (b1 (o1+8))]))], W_Form k b1 (o1+1) s1.1.1.1.1.1.1 s1.1.1.1.1.1.2 s1.1.1.1.1.2 s1.1.1.1.2.1.1 s1.1.1.1.2.1.2 s1.1.1.1.2.2, [((b1 (o1+2)), .inl (k 0, 16, .inl s1.1.2))], W_Braid k b1 (o1+3) s1.2.1.1.1 s1.2.1.1.2 s1.2.1.2.1 s1.2.1.2.2, W_Braid k b1 (o1+8) s1.2.2.1.1 s1.2.2.1.2 s1.2.2.2.1 s1.2.2.2.2]) (br := [[((b1 o1), .inr (5, [.ref (b1 (o1+1)), .int s1.1.1.2, .ref (b1 (o1+2)), .ref (b1 (o1+3)), .ref (b1 (o1+8))]))], [((b1 (o1+2)), .inl (k 0, 16, .inl s1.1.2))], W_Braid k b1 (o1+8) s1.2.2.1.1 s1.2.2.1.2 s1.2.2.2.1 s1.2.2.2.2]) (bc := [W_Decoder k b0 o0 s0, W_Form k b1 (o1+1) s1.1.1.1.1.1.1 s1.1.1.1.1.1.2 s1.1.1.1.1.2 s1.1.1.1.2.1.1 s1.1.1.1.2.1.2 s1.1.1.1.2.2, W_Braid k b1 (o1+3) s1.2.1.1.1 s1.2.1.1.2 s1.2.1.2.1 s1.2.1.2.2]) (bc' := [W_Decoder k b0 o0 (u_Decoder_overflows s0 ((((r1.1, r1.2.1), r1.2.2.1), (r1.2.2.2.1, r1.2.2.2.2.1)), ((r1.2.2.2.2.2.1, r1.2.2.2.2.2.2.1), (r1.2.2.2.2.2.2.2.1, r1.2.2.2.2.2.2.2.2)))), W_Form k b1 (o1+1) s1.1.1.1.1.1.1 s1.1.1.1.1.1.2 s1.1.1.1.1.2 s1.1.1.1.2.1.1 s1.1.1.1.2.1.2 s1.1.1.1.2.2, W_Braid k b1 (o1+3) s1.2.1.1.1 s1.2.1.1.2 s1.2.1.2.1 s1.2.1.2.2]) X hP hD hS (c_Decoder_decodeOverflows l D k t b0 o0 s0 b1 (o1+1) s1.1.1.1.1.1.1 s1.1.1.1.1.1.2 s1.1.1.1.1.2 s1.1.1.1.2.1.1 s1.1.1.1.2.1.2 s1.1.1.1.2.2 b1 (o1+3) s1.2.1.1.1 s1.2.1.1.2 s1.2.1.2.1 s1.2.1.2.2 N r1 hg_r1) mv_X2_66 hl [1, 3, 5] [0, 2, 4] 2 ⟨rfl, rfl⟩ ⟨Nat.le_of_ble_eq_true rfl, Nat.le_of_ble_eq_true rfl⟩ rfl rfl rfl rfl rfl rfl rfl (Nat.le_of_ble_eq_true rfl) dX2_decode_10 (fun H locs hP hD hS => ?_)
  have hP : va_P D vwCl [[((b1 o1), .inr (5, [.ref (b1 (o1+1)), .int s1.1.1.2, .ref (b1 (o1+2)), .ref (b1 (o1+3)), .ref (b1 (o1+8))]))], [((b1 (o1+2)), .inl (k 0, 16, .inl s1.1.2))], W_Braid k b1 (o1+8) s1.2.2.1.1 s1.2.2.1.2 s1.2.2.2.1 s1.2.2.2.2, W_Decoder k b0 o0 (u_Decoder_overflows s0 ((((r1.1, r1.2.1), r1.2.2.1), (r1.2.2.2.1, r1.2.2.2.2.1)), ((r1.2.2.2.2.2.1, r1.2.2.2.2.2.2.1), (r1.2.2.2.2.2.2.2.1, r1.2.2.2.2.2.2.2.2)))), W_Form k b1 (o1+1) s1.1.1.1.1.1.1 s1.1.1.1.1.1.2 s1.1.1.1.1.2 s1.1.1.1.2.1.1 s1.1.1.1.2.1.2 s1.1.1.1.2.2, W_Braid k b1 (o1+3) s1.2.1.1.1 s1.2.1.1.2 s1.2.1.2.1 s1.2.1.2.2].flatten _ := hP
  have hD : va_D A [[((b1 o1), .inr (5, [.ref (b1 (o1+1)), .int s1.1.1.2, .ref (b1 (o1+2)), .ref (b1 (o1+3)), .ref (b1 (o1+8))]))], [((b1 (o1+2)), .inl (k 0, 16, .inl s1.1.2))], W_Braid k b1 (o1+8) s1.2.2.1.1 s1.2.2.1.2 s1.2.2.2.1 s1.2.2.2.2, W_Decoder k b0 o0 (u_Decoder_overflows s0 ((((r1.1, r1.2.1), r1.2.2.1), (r1.2.2.2.1, r1.2.2.2.2.1)), ((r1.2.2.2.2.2.1, r1.2.2.2.2.2.2.1), (r1.2.2.2.2.2.2.2.1, r1.2.2.2.2.2.2.2.2)))), W_Form k b1 (o1+1) s1.1.1.1.1.1.1 s1.1.1.1.1.1.2 s1.1.1.1.1.2 s1.1.1.1.2.1.1 s1.1.1.1.2.1.2 s1.1.1.1.2.2, W_Braid k b1 (o1+3) s1.2.1.1.1 s1.2.1.1.2 s1.2.1.2.1 s1.2.1.2.2].flatten := hD
  refine lv_aload_n hx hb dX2_decode_13 rfl (lv_at hl 1 rfl) ?_
  refine kget (v := .ref (b0 (o0+34))) X hP ff_X2_18 7 rfl rfl dX2_decode_14 ?_
  have hP : va_P D vwCl [[((b1 o1), .inr (5, [.ref (b1 (o1+1)), .int s1.1.1.2, .ref (b1 (o1+2)), .ref (b1 (o1+3)), .ref (b1 (o1+8))]))], [((b1 (o1+2)), .inl (k 0, 16, .inl s1.1.2))], W_Braid k b1 (o1+8) s1.2.2.1.1 s1.2.2.1.2 s1.2.2.2.1 s1.2.2.2.2, [((b0 o0), .inr (2, [.ref (b0 (o0+1)), .ref (b0 (o0+34))]))], W_Bounds k b0 (o0+1) r1.1 r1.2.1 r1.2.2.1 r1.2.2.2.1 r1.2.2.2.2.1 r1.2.2.2.2.2.1 r1.2.2.2.2.2.2.1 r1.2.2.2.2.2.2.2.1 r1.2.2.2.2.2.2.2.2, W_Bounds k b0 (o0+34) s0.2.1.1.1.1 s0.2.1.1.1.2 s0.2.1.1.2 s0.2.1.2.1 s0.2.1.2.2 s0.2.2.1.1 s0.2.2.1.2 s0.2.2.2.1 s0.2.2.2.2, W_Form k b1 (o1+1) s1.1.1.1.1.1.1 s1.1.1.1.1.1.2 s1.1.1.1.1.2 s1.1.1.1.2.1.1 s1.1.1.1.2.1.2 s1.1.1.1.2.2, W_Braid k b1 (o1+3) s1.2.1.1.1 s1.2.1.1.2 s1.2.1.2.1 s1.2.1.2.2].flatten _ := hP
  have hD : va_D A [[((b1 o1), .inr (5, [.ref (b1 (o1+1)), .int s1.1.1.2, .ref (b1 (o1+2)), .ref (b1 (o1+3)), .ref (b1 (o1+8))]))], [((b1 (o1+2)), .inl (k 0, 16, .inl s1.1.2))], W_Braid k b1 (o1+8) s1.2.2.1.1 s1.2.2.1.2 s1.2.2.2.1 s1.2.2.2.2, [((b0 o0), .inr (2, [.ref (b0 (o0+1)), .ref (b0 (o0+34))]))], W_Bounds k b0 (o0+1) r1.1 r1.2.1 r1.2.2.1 r1.2.2.2.1 r1.2.2.2.2.1 r1.2.2.2.2.2.1 r1.2.2.2.2.2.2.1 r1.2.2.2.2.2.2.2.1 r1.2.2.2.2.2.2.2.2, W_Bounds k b0 (o0+34) s0.2.1.1.1.1 s0.2.1.1.1.2 s0.2.1.1.2 s0.2.1.2.1 s0.2.1.2.2 s0.2.2.1.1 s0.2.2.1.2 s0.2.2.2.1 s0.2.2.2.2, W_Form k b1 (o1+1) s1.1.1.1.1.1.1 s1.1.1.1.1.1.2 s1.1.1.1.1.2 s1.1.1.1.2.1.1 s1.1.1.1.2.1.2 s1.1.1.1.2.2, W_Braid k b1 (o1+3) s1.2.1.1.1 s1.2.1.1.2 s1.2.1.2.1 s1.2.1.2.2].flatten := hD
  refine kcV (bs := [[((b1 o1), .inr (5, [.ref (b1 (o1+1)), .int s1.1.1.2, .ref (b1 (o1+2)), .ref (b1 (o1+3)), .ref (b1 (o1+8))]))], [((b1 (o1+2)), .inl (k 0, 16, .inl s1.1.2))], W_Braid k b1 (o1+8) s1.2.2.1.1 s1.2.2.1.2 s1.2.2.2.1 s1.2.2.2.2, [((b0 o0), .inr (2, [.ref (b0 (o0+1)), .ref (b0 (o0+34))]))], W_Bounds k b0 (o0+1) r1.1 r1.2.1 r1.2.2.1 r1.2.2.2.1 r1.2.2.2.2.1 r1.2.2.2.2.2.1 r1.2.2.2.2.2.2.1 r1.2.2.2.2.2.2.2.1 r1.2.2.2.2.2.2.2.2, W_Bounds k b0 (o0+34) s0.2.1.1.1.1 s0.2.1.1.1.2 s0.2.1.1.2 s0.2.1.2.1 s0.2.1.2.2 s0.2.2.1.1 s0.2.2.1.2 s0.2.2.2.1 s0.2.2.2.2, W_Form k b1 (o1+1) s1.1.1.1.1.1.1 s1.1.1.1.1.1.2 s1.1.1.1.1.2 s1.1.1.1.2.1.1 s1.1.1.1.2.1.2 s1.1.1.1.2.2, W_Braid k b1 (o1+3) s1.2.1.1.1 s1.2.1.1.2 s1.2.1.2.1 s1.2.1.2.2]) (br := [[((b1 o1), .inr (5, [.ref (b1 (o1+1)), .int s1.1.1.2, .ref (b1 (o1+2)), .ref (b1 (o1+3)), .ref (b1 (o1+8))]))], [((b1 (o1+2)), .inl (k 0, 16, .inl s1.1.2))], W_Braid k b1 (o1+8) s1.2.2.1.1 s1.2.2.1.2 s1.2.2.2.1 s1.2.2.2.2, [((b0 o0), .inr (2, [.ref (b0 (o0+1)), .ref (b0 (o0+34))]))], W_Bounds k b0 (o0+1) r1.1 r1.2.1 r1.2.2.1 r1.2.2.2.1 r1.2.2.2.2.1 r1.2.2.2.2.2.1 r1.2.2.2.2.2.2.1 r1.2.2.2.2.2.2.2.1 r1.2.2.2.2.2.2.2.2, W_Form k b1 (o1+1) s1.1.1.1.1.1.1 s1.1.1.1.1.1.2 s1.1.1.1.1.2 s1.1.1.1.2.1.1 s1.1.1.1.2.1.2 s1.1.1.1.2.2, W_Braid k b1 (o1+3) s1.2.1.1.1 s1.2.1.1.2 s1.2.1.2.1 s1.2.1.2.2]) (bc := [W_Bounds k b0 (o0+34) s0.2.1.1.1.1 s0.2.1.1.1.2 s0.2.1.1.2 s0.2.1.2.1 s0.2.1.2.2 s0.2.2.1.1 s0.2.2.1.2 s0.2.2.2.1 s0.2.2.2.2]) (bc' := [W_Bounds k b0 (o0+34) s0.2.1.1.1.1 s0.2.1.1.1.2 s0.2.1.1.2 s0.2.1.2.1 s0.2.1.2.2 s0.2.2.1.1 s0.2.2.1.2 s0.2.2.2.1 0]) X hP hD hS (c_Bounds_start l D k t b0 (o0+34) s0.2.1.1.1.1 s0.2.1.1.1.2 s0.2.1.1.2 s0.2.1.2.1 s0.2.1.2.2 s0.2.2.1.1 s0.2.2.1.2 s0.2.2.2.1 s0.2.2.2.2) mv_X2_21 hl [0, 1, 2, 3, 4, 6, 7] [5] 0 ⟨rfl, rfl⟩ ⟨Nat.le_of_ble_eq_true rfl, Nat.le_of_ble_eq_true rfl⟩ rfl rfl rfl rfl rfl rfl rfl (Nat.le_of_ble_eq_true rfl) dX2_decode_17 (fun H locs hP hD hS => ?_)
  have hP : va_P D vwCl [[((b1 o1), .inr (5, [.ref (b1 (o1+1)), .int s1.1.1.2, .ref (b1 (o1+2)), .ref (b1 (o1+3)), .ref (b1 (o1+8))]))], [((b1 (o1+2)), .inl (k 0, 16, .inl s1.1.2))], W_Braid k b1 (o1+8) s1.2.2.1.1 s1.2.2.1.2 s1.2.2.2.1 s1.2.2.2.2, [((b0 o0), .inr (2, [.ref (b0 (o0+1)), .ref (b0 (o0+34))]))], W_Bounds k b0 (o0+1) r1.1 r1.2.1 r1.2.2.1 r1.2.2.2.1 r1.2.2.2.2.1 r1.2.2.2.2.2.1 r1.2.2.2.2.2.2.1 r1.2.2.2.2.2.2.2.1 r1.2.2.2.2.2.2.2.2, W_Form k b1 (o1+1) s1.1.1.1.1.1.1 s1.1.1.1.1.1.2 s1.1.1.1.1.2 s1.1.1.1.2.1.1 s1.1.1.1.2.1.2 s1.1.1.1.2.2, W_Braid k b1 (o1+3) s1.2.1.1.1 s1.2.1.1.2 s1.2.1.2.1 s1.2.1.2.2, W_Bounds k b0 (o0+34) s0.2.1.1.1.1 s0.2.1.1.1.2 s0.2.1.1.2 s0.2.1.2.1 s0.2.1.2.2 s0.2.2.1.1 s0.2.2.1.2 s0.2.2.2.1 0].flatten _ := hP
  have hD : va_D A [[((b1 o1), .inr (5, [.ref (b1 (o1+1)), .int s1.1.1.2, .ref (b1 (o1+2)), .ref (b1 (o1+3)), .ref (b1 (o1+8))]))], [((b1 (o1+2)), .inl (k 0, 16, .inl s1.1.2))], W_Braid k b1 (o1+8) s1.2.2.1.1 s1.2.2.1.2 s1.2.2.2.1 s1.2.2.2.2, [((b0 o0), .inr (2, [.ref (b0 (o0+1)), .ref (b0 (o0+34))]))], W_Bounds k b0 (o0+1) r1.1 r1.2.1 r1.2.2.1 r1.2.2.2.1 r1.2.2.2.2.1 r1.2.2.2.2.2.1 r1.2.2.2.2.2.2.1 r1.2.2.2.2.2.2.2.1 r1.2.2.2.2.2.2.2.2, W_Form k b1 (o1+1) s1.1.1.1.1.1.1 s1.1.1.1.1.1.2 s1.1.1.1.1.2 s1.1.1.1.2.1.1 s1.1.1.1.2.1.2 s1.1.1.1.2.2, W_Braid k b1 (o1+3) s1.2.1.1.1 s1.2.1.1.2 s1.2.1.2.1 s1.2.1.2.2, W_Bounds k b0 (o0+34) s0.2.1.1.1.1 s0.2.1.1.1.2 s0.2.1.1.2 s0.2.1.2.1 s0.2.1.2.2 s0.2.2.1.1 s0.2.2.1.2 s0.2.2.2.1 0].flatten := hD
  refine lv_iconst (v := 0) hx hb dX2_decode_20 (by decide) ?_
  refine lv_istore (lv' := [(5, .int 0), (4, .ref (b1 (o1+1))), (0, .ref (b0 o0)), (1, .ref (b1 o1)), (2, .ref (b1 (o1+3))), (3, .int x3)]) hx hb dX2_decode_21 hl (by decide) rfl (fun ls hl => ?_)
  obtain ⟨hP, hD⟩ := B_perm (br := [[((b1 o1), .inr (5, [.ref (b1 (o1+1)), .int s1.1.1.2, .ref (b1 (o1+2)), .ref (b1 (o1+3)), .ref (b1 (o1+8))]))], [((b1 (o1+2)), .inl (k 0, 16, .inl s1.1.2))], W_Braid k b1 (o1+8) s1.2.2.1.1 s1.2.2.1.2 s1.2.2.2.1 s1.2.2.2.2, [((b0 o0), .inr (2, [.ref (b0 (o0+1)), .ref (b0 (o0+34))]))], W_Bounds k b0 (o0+1) r1.1 r1.2.1 r1.2.2.1 r1.2.2.2.1 r1.2.2.2.2.1 r1.2.2.2.2.2.1 r1.2.2.2.2.2.2.1 r1.2.2.2.2.2.2.2.1 r1.2.2.2.2.2.2.2.2, W_Bounds k b0 (o0+34) s0.2.1.1.1.1 s0.2.1.1.1.2 s0.2.1.1.2 s0.2.1.2.1 s0.2.1.2.2 s0.2.2.1.1 s0.2.2.1.2 s0.2.2.2.1 0, W_Form k b1 (o1+1) s1.1.1.1.1.1.1 s1.1.1.1.1.1.2 s1.1.1.1.1.2 s1.1.1.1.2.1.1 s1.1.1.1.2.1.2 s1.1.1.1.2.2, W_Braid k b1 (o1+3) s1.2.1.1.1 s1.2.1.1.2 s1.2.1.2.1 s1.2.1.2.2]) hP hD [0, 1, 2, 3, 4, 7, 5, 6] rfl rfl
  have hP : va_P D vwCl [[((b1 o1), .inr (5, [.ref (b1 (o1+1)), .int s1.1.1.2, .ref (b1 (o1+2)), .ref (b1 (o1+3)), .ref (b1 (o1+8))]))], [((b1 (o1+2)), .inl (k 0, 16, .inl s1.1.2))], W_Braid k b1 (o1+8) s1.2.2.1.1 s1.2.2.1.2 s1.2.2.2.1 s1.2.2.2.2, W_Decoder k b0 o0 (((((r1.1, r1.2.1), r1.2.2.1), (r1.2.2.2.1, r1.2.2.2.2.1)), ((r1.2.2.2.2.2.1, r1.2.2.2.2.2.2.1), (r1.2.2.2.2.2.2.2.1, r1.2.2.2.2.2.2.2.2))), ((((s0.2.1.1.1.1, s0.2.1.1.1.2), s0.2.1.1.2), (s0.2.1.2.1, s0.2.1.2.2)), ((s0.2.2.1.1, s0.2.2.1.2), (s0.2.2.2.1, 0)))), W_Form k b1 (o1+1) s1.1.1.1.1.1.1 s1.1.1.1.1.1.2 s1.1.1.1.1.2 s1.1.1.1.2.1.1 s1.1.1.1.2.1.2 s1.1.1.1.2.2, W_Braid k b1 (o1+3) s1.2.1.1.1 s1.2.1.1.2 s1.2.1.2.1 s1.2.1.2.2].flatten _ := hP
  have hD : va_D A [[((b1 o1), .inr (5, [.ref (b1 (o1+1)), .int s1.1.1.2, .ref (b1 (o1+2)), .ref (b1 (o1+3)), .ref (b1 (o1+8))]))], [((b1 (o1+2)), .inl (k 0, 16, .inl s1.1.2))], W_Braid k b1 (o1+8) s1.2.2.1.1 s1.2.2.1.2 s1.2.2.2.1 s1.2.2.2.2, W_Decoder k b0 o0 (((((r1.1, r1.2.1), r1.2.2.1), (r1.2.2.2.1, r1.2.2.2.2.1)), ((r1.2.2.2.2.2.1, r1.2.2.2.2.2.2.1), (r1.2.2.2.2.2.2.2.1, r1.2.2.2.2.2.2.2.2))), ((((s0.2.1.1.1.1, s0.2.1.1.1.2), s0.2.1.1.2), (s0.2.1.2.1, s0.2.1.2.2)), ((s0.2.2.1.1, s0.2.2.1.2), (s0.2.2.2.1, 0)))), W_Form k b1 (o1+1) s1.1.1.1.1.1.1 s1.1.1.1.1.1.2 s1.1.1.1.1.2 s1.1.1.1.2.1.1 s1.1.1.1.2.1.2 s1.1.1.1.2.2, W_Braid k b1 (o1+3) s1.2.1.1.1 s1.2.1.1.2 s1.2.1.2.1 s1.2.1.2.2].flatten := hD
  obtain ⟨hP, hD⟩ := B_perm (br := [[((b1 o1), .inr (5, [.ref (b1 (o1+1)), .int s1.1.1.2, .ref (b1 (o1+2)), .ref (b1 (o1+3)), .ref (b1 (o1+8))]))], W_Form k b1 (o1+1) s1.1.1.1.1.1.1 s1.1.1.1.1.1.2 s1.1.1.1.1.2 s1.1.1.1.2.1.1 s1.1.1.1.2.1.2 s1.1.1.1.2.2, [((b1 (o1+2)), .inl (k 0, 16, .inl s1.1.2))], W_Braid k b1 (o1+3) s1.2.1.1.1 s1.2.1.1.2 s1.2.1.2.1 s1.2.1.2.2, W_Braid k b1 (o1+8) s1.2.2.1.1 s1.2.2.1.2 s1.2.2.2.1 s1.2.2.2.2, W_Decoder k b0 o0 (((((r1.1, r1.2.1), r1.2.2.1), (r1.2.2.2.1, r1.2.2.2.2.1)), ((r1.2.2.2.2.2.1, r1.2.2.2.2.2.2.1), (r1.2.2.2.2.2.2.2.1, r1.2.2.2.2.2.2.2.2))), ((((s0.2.1.1.1.1, s0.2.1.1.1.2), s0.2.1.1.2), (s0.2.1.2.1, s0.2.1.2.2)), ((s0.2.2.1.1, s0.2.2.1.2), (s0.2.2.2.1, 0))))]) hP hD [0, 4, 1, 5, 2, 3] rfl rfl
  have hP : va_P D vwCl [W_State k b1 o1 s1, W_Decoder k b0 o0 (((((r1.1, r1.2.1), r1.2.2.1), (r1.2.2.2.1, r1.2.2.2.2.1)), ((r1.2.2.2.2.2.1, r1.2.2.2.2.2.2.1), (r1.2.2.2.2.2.2.2.1, r1.2.2.2.2.2.2.2.2))), ((((s0.2.1.1.1.1, s0.2.1.1.1.2), s0.2.1.1.2), (s0.2.1.2.1, s0.2.1.2.2)), ((s0.2.2.1.1, s0.2.2.1.2), (s0.2.2.2.1, 0))))].flatten _ := hP
  have hD : va_D A [W_State k b1 o1 s1, W_Decoder k b0 o0 (((((r1.1, r1.2.1), r1.2.2.1), (r1.2.2.2.1, r1.2.2.2.2.1)), ((r1.2.2.2.2.2.1, r1.2.2.2.2.2.2.1), (r1.2.2.2.2.2.2.2.1, r1.2.2.2.2.2.2.2.2))), ((((s0.2.1.1.1.1, s0.2.1.1.1.2), s0.2.1.1.2), (s0.2.1.2.1, s0.2.1.2.2)), ((s0.2.2.1.1, s0.2.2.1.2), (s0.2.2.2.1, 0))))].flatten := hD
  obtain ⟨hP, hD⟩ := B_perm (br := [W_Decoder k b0 o0 (((((r1.1, r1.2.1), r1.2.2.1), (r1.2.2.2.1, r1.2.2.2.2.1)), ((r1.2.2.2.2.2.1, r1.2.2.2.2.2.2.1), (r1.2.2.2.2.2.2.2.1, r1.2.2.2.2.2.2.2.2))), ((((s0.2.1.1.1.1, s0.2.1.1.1.2), s0.2.1.1.2), (s0.2.1.2.1, s0.2.1.2.2)), ((s0.2.2.1.1, s0.2.2.1.2), (s0.2.2.2.1, 0)))), W_State k b1 o1 s1]) hP hD [1, 0] rfl rfl
  have hP : va_P D vwCl [W_Decoder k b0 o0 (((((r1.1, r1.2.1), r1.2.2.1), (r1.2.2.2.1, r1.2.2.2.2.1)), ((r1.2.2.2.2.2.1, r1.2.2.2.2.2.2.1), (r1.2.2.2.2.2.2.2.1, r1.2.2.2.2.2.2.2.2))), ((((s0.2.1.1.1.1, s0.2.1.1.1.2), s0.2.1.1.2), (s0.2.1.2.1, s0.2.1.2.2)), ((s0.2.2.1.1, s0.2.2.1.2), (s0.2.2.2.1, 0)))), W_State k b1 o1 s1].flatten _ := hP
  have hD : va_D A [W_Decoder k b0 o0 (((((r1.1, r1.2.1), r1.2.2.1), (r1.2.2.2.1, r1.2.2.2.2.1)), ((r1.2.2.2.2.2.1, r1.2.2.2.2.2.2.1), (r1.2.2.2.2.2.2.2.1, r1.2.2.2.2.2.2.2.2))), ((((s0.2.1.1.1.1, s0.2.1.1.1.2), s0.2.1.1.2), (s0.2.1.2.1, s0.2.1.2.2)), ((s0.2.2.1.1, s0.2.2.1.2), (s0.2.2.2.1, 0)))), W_State k b1 o1 s1].flatten := hD
  refine w_Decoder_decode_f_L23 X b0 o0 s0 b1 o1 s1 N x3 r1.1 r1.2.1 r1.2.2.1 r1.2.2.2.1 r1.2.2.2.2.1 r1.2.2.2.2.2.1 r1.2.2.2.2.2.2.1 r1.2.2.2.2.2.2.2.1 r1.2.2.2.2.2.2.2.2 s0.2.1.1.2 s0.2.1.2.1 s0.2.1.2.2 s0.2.2.1.1 s0.2.2.1.2 s0.2.2.2.1 0 out _ ?_ N 0 s0.2.1.1.1.1 s0.2.1.1.1.2 _ _ _ hP hD hS (lv_sub hl [2, 3, 4, 5, 1, 0] rfl) hf
  · intro i30 c31 c32 H locs ls hP hD hS hl hf
    refine lv_iconst (v := 0) hx hb dX2_decode_109 (by decide) ?_
    refine lv_istore (lv' := [(5, .int 0), (0, .ref (b0 o0)), (1, .ref (b1 o1)), (3, .int x3), (4, .ref (b1 (o1+1)))]) hx hb dX2_decode_110 hl (by decide) rfl (fun ls hl => ?_)
    refine w_Decoder_decode_f_L112 X b0 o0 s0 b1 o1 s1 N x3 r1.1 r1.2.1 r1.2.2.1 r1.2.2.2.1 r1.2.2.2.2.1 r1.2.2.2.2.2.1 r1.2.2.2.2.2.2.1 r1.2.2.2.2.2.2.2.1 r1.2.2.2.2.2.2.2.2 c31 c32 s0.2.1.1.2 s0.2.1.2.1 out _ ?_ N 0 s0.2.1.2.2 s0.2.2.1.1 s0.2.2.1.2 s0.2.2.2.1 0 _ _ _ hP hD hS (lv_sub hl [1, 2, 3, 4, 0] rfl) hf
    · intro i57 c58 c59 c60 c61 c62 H locs ls hP hD hS hl hf
      refine lv_aload_n hx hb dX2_decode_147 rfl (lv_at hl 0 rfl) ?_
      refine kget (v := .ref (b0 (o0+34))) X hP ff_X2_18 0 rfl rfl dX2_decode_148 ?_
      refine lv_iload_n hx hb dX2_decode_151 rfl (lv_at hl 1 rfl) ?_
      obtain ⟨r63, hg_r63, hf⟩ := ofbind hf
      have hP : va_P D vwCl [[((b0 o0), .inr (2, [.ref (b0 (o0+1)), .ref (b0 (o0+34))]))], W_Bounds k b0 (o0+1) r1.1 r1.2.1 r1.2.2.1 r1.2.2.2.1 r1.2.2.2.2.1 r1.2.2.2.2.2.1 r1.2.2.2.2.2.2.1 r1.2.2.2.2.2.2.2.1 r1.2.2.2.2.2.2.2.2, W_Bounds k b0 (o0+34) c31 c32 s0.2.1.1.2 s0.2.1.2.1 c58 c59 c60 c61 c62, W_State k b1 o1 s1].flatten _ := hP
      have hD : va_D A [[((b0 o0), .inr (2, [.ref (b0 (o0+1)), .ref (b0 (o0+34))]))], W_Bounds k b0 (o0+1) r1.1 r1.2.1 r1.2.2.1 r1.2.2.2.1 r1.2.2.2.2.1 r1.2.2.2.2.2.1 r1.2.2.2.2.2.2.1 r1.2.2.2.2.2.2.2.1 r1.2.2.2.2.2.2.2.2, W_Bounds k b0 (o0+34) c31 c32 s0.2.1.1.2 s0.2.1.2.1 c58 c59 c60 c61 c62, W_State k b1 o1 s1].flatten := hD
      refine kcV (bs := [[((b0 o0), .inr (2, [.ref (b0 (o0+1)), .ref (b0 (o0+34))]))], W_Bounds k b0 (o0+1) r1.1 r1.2.1 r1.2.2.1 r1.2.2.2.1 r1.2.2.2.2.1 r1.2.2.2.2.2.1 r1.2.2.2.2.2.2.1 r1.2.2.2.2.2.2.2.1 r1.2.2.2.2.2.2.2.2, W_Bounds k b0 (o0+34) c31 c32 s0.2.1.1.2 s0.2.1.2.1 c58 c59 c60 c61 c62, W_State k b1 o1 s1]) (br := [[((b0 o0), .inr (2, [.ref (b0 (o0+1)), .ref (b0 (o0+34))]))], W_Bounds k b0 (o0+1) r1.1 r1.2.1 r1.2.2.1 r1.2.2.2.1 r1.2.2.2.2.1 r1.2.2.2.2.2.1 r1.2.2.2.2.2.2.1 r1.2.2.2.2.2.2.2.1 r1.2.2.2.2.2.2.2.2, W_State k b1 o1 s1]) (bc := [W_Bounds k b0 (o0+34) c31 c32 s0.2.1.1.2 s0.2.1.2.1 c58 c59 c60 c61 c62]) (bc' := [W_Bounds k b0 (o0+34) c31 c32 r63.2.1 r63.2.2.1 r63.2.2.2.1 r63.2.2.2.2 c60 c61 c62]) X hP hD hS (c_Bounds_narrow l D k t b0 (o0+34) c31 c32 s0.2.1.1.2 s0.2.1.2.1 c58 c59 c60 c61 c62 x3 N r63 hg_r63) mv_X2_57 hl [0, 1, 3] [2] 0 ⟨rfl, rfl⟩ ⟨Nat.le_of_ble_eq_true rfl, Nat.le_of_ble_eq_true rfl⟩ rfl rfl rfl rfl rfl rfl rfl (Nat.le_of_ble_eq_true rfl) dX2_decode_152 (fun H locs hP hD hS => ?_)
      have hP : va_P D vwCl [[((b0 o0), .inr (2, [.ref (b0 (o0+1)), .ref (b0 (o0+34))]))], W_Bounds k b0 (o0+1) r1.1 r1.2.1 r1.2.2.1 r1.2.2.2.1 r1.2.2.2.2.1 r1.2.2.2.2.2.1 r1.2.2.2.2.2.2.1 r1.2.2.2.2.2.2.2.1 r1.2.2.2.2.2.2.2.2, W_State k b1 o1 s1, W_Bounds k b0 (o0+34) c31 c32 r63.2.1 r63.2.2.1 r63.2.2.2.1 r63.2.2.2.2 c60 c61 c62].flatten _ := hP
      have hD : va_D A [[((b0 o0), .inr (2, [.ref (b0 (o0+1)), .ref (b0 (o0+34))]))], W_Bounds k b0 (o0+1) r1.1 r1.2.1 r1.2.2.1 r1.2.2.2.1 r1.2.2.2.2.1 r1.2.2.2.2.2.1 r1.2.2.2.2.2.2.1 r1.2.2.2.2.2.2.2.1 r1.2.2.2.2.2.2.2.2, W_State k b1 o1 s1, W_Bounds k b0 (o0+34) c31 c32 r63.2.1 r63.2.2.1 r63.2.2.2.1 r63.2.2.2.2 c60 c61 c62].flatten := hD
      obtain ⟨hP, hD⟩ := B_perm (br := [[((b0 o0), .inr (2, [.ref (b0 (o0+1)), .ref (b0 (o0+34))]))], W_Bounds k b0 (o0+1) r1.1 r1.2.1 r1.2.2.1 r1.2.2.2.1 r1.2.2.2.2.1 r1.2.2.2.2.2.1 r1.2.2.2.2.2.2.1 r1.2.2.2.2.2.2.2.1 r1.2.2.2.2.2.2.2.2, W_Bounds k b0 (o0+34) c31 c32 r63.2.1 r63.2.2.1 r63.2.2.2.1 r63.2.2.2.2 c60 c61 c62, W_State k b1 o1 s1]) hP hD [0, 1, 3, 2] rfl rfl
      have hP : va_P D vwCl [W_Decoder k b0 o0 (((((r1.1, r1.2.1), r1.2.2.1), (r1.2.2.2.1, r1.2.2.2.2.1)), ((r1.2.2.2.2.2.1, r1.2.2.2.2.2.2.1), (r1.2.2.2.2.2.2.2.1, r1.2.2.2.2.2.2.2.2))), ((((c31, c32), r63.2.1), (r63.2.2.1, r63.2.2.2.1)), ((r63.2.2.2.2, c60), (c61, c62)))), W_State k b1 o1 s1].flatten _ := hP
      have hD : va_D A [W_Decoder k b0 o0 (((((r1.1, r1.2.1), r1.2.2.1), (r1.2.2.2.1, r1.2.2.2.2.1)), ((r1.2.2.2.2.2.1, r1.2.2.2.2.2.2.1), (r1.2.2.2.2.2.2.2.1, r1.2.2.2.2.2.2.2.2))), ((((c31, c32), r63.2.1), (r63.2.2.1, r63.2.2.2.1)), ((r63.2.2.2.2, c60), (c61, c62)))), W_State k b1 o1 s1].flatten := hD
      have hf := Option.some.inj hf
      subst hf
      exact kiret (v := r63.1) X hP hD hS dX2_decode_155
