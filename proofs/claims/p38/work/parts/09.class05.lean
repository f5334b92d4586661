/-! State_findOrAppend: int findOrAppend(int); -/
abbrev rm_State_findOrAppend : Room := ({ frames := 1, cells := 0, slots := 0, locals := 22 } : Room)
def f_State_findOrAppend (N : Nat) (x1 : Int32) (v_flows : Int32) (v_keys : FI) : Option (Int32 × Int32 × FI) := (f_State_find N x1 v_flows v_keys).bind (fun r1 => if r1 = (-1) then if 16 ≤ v_flows then some (r1, v_flows, v_keys) else if ck v_flows 16 = true then some (v_flows, (v_flows + 1), (upd v_keys v_flows.toNatClampNeg x1)) else none else some (r1, v_flows, v_keys))
abbrev Q_State_findOrAppend (below : List Frame) (D : va_G) (k : Nat → ClassId) (A : Nat → Prop) (args : Array Value) (s : State) (b0 : Nat → Nat) (o0 : Nat) (v_form_counters : Int32) (v_form_bits : Int32) (v_form_functions : Int32) (v_form_countersAbove : Int32) (v_form_functionsAbove : Int32) (v_form_rounds : Int32) (v_flows : Int32) (v_keys : FI) (v_first_truths : FJ) (v_first_rests : FI) (v_first_marks : FI) (v_first_numbers : FJ) (v_second_truths : FJ) (v_second_rests : FI) (v_second_marks : FI) (v_second_numbers : FJ) (out : Int32 × Int32 × FI) : State → Prop := MQ below (QW D k A (some (.int out.1)) [W_State k b0 o0 v_form_counters v_form_bits v_form_functions v_form_countersAbove v_form_functionsAbove v_form_rounds out.2.1 out.2.2 v_first_truths v_first_rests v_first_marks v_first_numbers v_second_truths v_second_rests v_second_marks v_second_numbers].flatten) args s 0 0 A
set_option maxRecDepth 100000 in
set_option maxHeartbeats 1000000 in
theorem c_State_findOrAppend (l : Launch) (D : va_G) (k : Nat → ClassId) (t : Nat → Nat) (b0 : Nat → Nat) (o0 : Nat) (v_form_counters : Int32) (v_form_bits : Int32) (v_form_functions : Int32) (v_form_countersAbove : Int32) (v_form_functionsAbove : Int32) (v_form_rounds : Int32) (v_flows : Int32) (v_keys : FI) (v_first_truths : FJ) (v_first_rests : FI) (v_first_marks : FI) (v_first_numbers : FJ) (v_second_truths : FJ) (v_second_rests : FI) (v_second_marks : FI) (v_second_numbers : FJ) (x1 : Int32) (N : Nat) (out : Int32 × Int32 × FI) (hf : f_State_findOrAppend N x1 v_flows v_keys = some out) : CT l D k t yX5_findOrAppend cX5_findOrAppend 3 (some .int) rm_State_findOrAppend [.ref (b0 o0), .int x1] [W_State k b0 o0 v_form_counters v_form_bits v_form_functions v_form_countersAbove v_form_functionsAbove v_form_rounds v_flows v_keys v_first_truths v_first_rests v_first_marks v_first_numbers v_second_truths v_second_rests v_second_marks v_second_numbers].flatten (some (.int out.1)) [W_State k b0 o0 v_form_counters v_form_bits v_form_functions v_form_countersAbove v_form_functionsAbove v_form_rounds out.2.1 out.2.2 v_first_truths v_first_rests v_first_marks v_first_numbers v_second_truths v_second_rests v_second_marks v_second_numbers].flatten := by
  refine kofW (by decide) (Nat.le_of_ble_eq_true rfl) ?_
  intro p e s m below meth c A ls X hP hD hS hl
  have hx := X.1.1
  have hb := X.1.2.1
  have hml := X.1.2.2.1
  have hown := X.1.2.2.2.1
  have hts := X.1.2.2.2.2
  have hl : lv_has ls 3 [(0, .ref (b0 o0)), (1, .int x1)] := hl
  rw [f_State_findOrAppend] at hf
  refine lv_aload_n hx hb dX5_findOrAppend_0 rfl (lv_at hl 0 rfl) ?_
  refine lv_iload_n hx hb dX5_findOrAppend_1 rfl (lv_at hl 1 rfl) ?_
  obtain ⟨r1, hg_r1, hf⟩ := ofbind hf
  refine kcV (bs := [W_State k b0 o0 v_form_counters v_form_bits v_form_functions v_form_countersAbove v_form_functionsAbove v_form_rounds v_flows v_keys v_first_truths v_first_rests v_first_marks v_first_numbers v_second_truths v_second_rests v_second_marks v_second_numbers]) (br := []) (bc := [W_State k b0 o0 v_form_counters v_form_bits v_form_functions v_form_countersAbove v_form_functionsAbove v_form_rounds v_flows v_keys v_first_truths v_first_rests v_first_marks v_first_numbers v_second_truths v_second_rests v_second_marks v_second_numbers]) (bc' := [W_State k b0 o0 v_form_counters v_form_bits v_form_functions v_form_countersAbove v_form_functionsAbove v_form_rounds v_flows v_keys v_first_truths v_first_rests v_first_marks v_first_numbers v_second_truths v_second_rests v_second_marks v_second_numbers]) X hP hD hS (c_State_find l D k t b0 o0 v_form_counters v_form_bits v_form_functions v_form_countersAbove v_form_functionsAbove v_form_rounds v_flows v_keys v_first_truths v_first_rests v_first_marks v_first_numbers v_second_truths v_second_rests v_second_marks v_second_numbers x1 N r1 hg_r1) mv_X5_70 hl [] [0] 5 ⟨rfl, rfl⟩ ⟨Nat.le_of_ble_eq_true rfl, Nat.le_of_ble_eq_true rfl⟩ rfl rfl rfl rfl rfl rfl rfl (Nat.le_of_ble_eq_true rfl) dX5_findOrAppend_2 (fun H locs hP hD hS => ?_)
  have hP : va_P D vwCl [W_State k b0 o0 v_form_counters v_form_bits v_form_functions v_form_countersAbove v_form_functionsAbove v_form_rounds v_flows v_keys v_first_truths v_first_rests v_first_marks v_first_numbers v_second_truths v_second_rests v_second_marks v_second_numbers].flatten _ := hP
  have hD : va_D A [W_State k b0 o0 v_form_counters v_form_bits v_form_functions v_form_countersAbove v_form_functionsAbove v_form_rounds v_flows v_keys v_first_truths v_first_rests v_first_marks v_first_numbers v_second_truths v_second_rests v_second_marks v_second_numbers].flatten := hD
  refine lv_istore_n (lv' := [(2, .int r1), (0, .ref (b0 o0)), (1, .int x1)]) hx hb dX5_findOrAppend_5 rfl hl (by decide) rfl (fun ls hl => ?_)
  refine lv_iload_n hx hb dX5_findOrAppend_6 rfl (lv_at hl 0 rfl) ?_
  refine lv_iconst (v := (-1)) hx hb dX5_findOrAppend_7 (by decide) ?_
  refine lv_icmp_ne (tgt := 42) hx hb dX5_findOrAppend_8 (by decide) (fun hc => ?_) (fun hc => ?_)
  · have hf := ofneg hf hc
    refine lv_iload_n hx hb dX5_findOrAppend_42 rfl (lv_at hl 0 rfl) ?_
    have hf := Option.some.inj hf
    subst hf
    exact kiret (v := r1) X hP hD hS dX5_findOrAppend_43
  · have hf := ofpos hf hc
    refine lv_aload_n hx hb dX5_findOrAppend_11 rfl (lv_at hl 1 rfl) ?_
    refine kget (v := .int v_flows) X hP ff_X5_36 0 rfl rfl dX5_findOrAppend_12 ?_
    refine lv_bipush (v := 16) hx hb dX5_findOrAppend_15 (by decide) ?_
    refine lv_icmp_ge (tgt := 42) hx hb dX5_findOrAppend_17 (by decide) (fun hc => ?_) (fun hc => ?_)
    · have hf := ofpos hf hc
      refine lv_iload_n hx hb dX5_findOrAppend_42 rfl (lv_at hl 0 rfl) ?_
      have hf := Option.some.inj hf
      subst hf
      exact kiret (v := r1) X hP hD hS dX5_findOrAppend_43
    · have hf := ofneg hf hc
      refine lv_aload_n hx hb dX5_findOrAppend_20 rfl (lv_at hl 1 rfl) ?_
      refine kget (v := .int v_flows) X hP ff_X5_36 0 rfl rfl dX5_findOrAppend_21 ?_
      refine lv_istore_n (lv' := [(2, .int v_flows), (0, .ref (b0 o0)), (1, .int x1)]) hx hb dX5_findOrAppend_24 rfl hl (by decide) rfl (fun ls hl => ?_)
      refine lv_aload_n hx hb dX5_findOrAppend_25 rfl (lv_at hl 1 rfl) ?_
      refine kget (v := .ref (b0 (o0+2))) X hP ff_X5_18 0 rfl rfl dX5_findOrAppend_26 ?_
      refine lv_iload_n hx hb dX5_findOrAppend_29 rfl (lv_at hl 0 rfl) ?_
      refine lv_iload_n hx hb dX5_findOrAppend_30 rfl (lv_at hl 2 rfl) ?_
      obtain ⟨hc, hf⟩ := ofck hf
      generalize hc2 : upd v_keys v_flows.toNatClampNeg x1 = c2 at hf
      refine kiast2 (f := v_keys) (n := 16) (g := c2) X hP hD hS 2 rfl hc hc2 dX5_findOrAppend_31 (fun H locs hP hD hS => ?_)
      have hP : va_P D vwCl [W_State k b0 o0 v_form_counters v_form_bits v_form_functions v_form_countersAbove v_form_functionsAbove v_form_rounds v_flows c2 v_first_truths v_first_rests v_first_marks v_first_numbers v_second_truths v_second_rests v_second_marks v_second_numbers].flatten _ := hP
      have hD : va_D A [W_State k b0 o0 v_form_counters v_form_bits v_form_functions v_form_countersAbove v_form_functionsAbove v_form_rounds v_flows c2 v_first_truths v_first_rests v_first_marks v_first_numbers v_second_truths v_second_rests v_second_marks v_second_numbers].flatten := hD
      refine lv_aload_n hx hb dX5_findOrAppend_32 rfl (lv_at hl 1 rfl) ?_
      refine lv_dup hx hb dX5_findOrAppend_33 rfl ?_
      refine kget (v := .int v_flows) X hP ff_X5_36 0 rfl rfl dX5_findOrAppend_34 ?_
      refine lv_iconst (v := 1) hx hb dX5_findOrAppend_37 (by decide) ?_
      refine lv_iadd hx hb dX5_findOrAppend_38 ?_
      generalize hy3 : v_flows + 1 = y3 at hf ⊢
      refine kputi (v := y3) X hP hD hS fp_X5_36 0 rfl (Nat.le_of_ble_eq_true rfl) dX5_findOrAppend_39 (fun H locs hP hD hS => ?_)
      have hP : va_P D vwCl [W_State k b0 o0 v_form_counters v_form_bits v_form_functions v_form_countersAbove v_form_functionsAbove v_form_rounds y3 c2 v_first_truths v_first_rests v_first_marks v_first_numbers v_second_truths v_second_rests v_second_marks v_second_numbers].flatten _ := hP
      have hD : va_D A [W_State k b0 o0 v_form_counters v_form_bits v_form_functions v_form_countersAbove v_form_functionsAbove v_form_rounds y3 c2 v_first_truths v_first_rests v_first_marks v_first_numbers v_second_truths v_second_rests v_second_marks v_second_numbers].flatten := hD
      refine lv_iload_n hx hb dX5_findOrAppend_42 rfl (lv_at hl 0 rfl) ?_
      have hf := Option.some.inj hf
      subst hf
      exact kiret (v := v_flows) X hP hD hS dX5_findOrAppend_43
/-! CB_isFrom: private static boolean isFrom(int, int, int); -/
abbrev rm_CB_isFrom : Room := ({ frames := 0, cells := 0, slots := 0, locals := 0 } : Room)
def f_CB_isFrom (x0 : Int32) (x1 : Int32) (x2 : Int32) : Option (Int32) := if x1 < x0 then some 0 else if x2 < x1 then some 0 else some 1
abbrev Q_CB_isFrom (below : List Frame) (D : va_G) (k : Nat → ClassId) (A : Nat → Prop) (args : Array Value) (s : State) (out : Int32) : State → Prop := MQ below (QW D k A (some (.int out)) [].flatten) args s 0 0 A
set_option maxRecDepth 100000 in
set_option maxHeartbeats 1000000 in
theorem c_CB_isFrom (l : Launch) (D : va_G) (k : Nat → ClassId) (t : Nat → Nat) (x0 : Int32) (x1 : Int32) (x2 : Int32) (out : Int32) (hf : f_CB_isFrom x0 x1 x2 = some out) : CT l D k t yX7_isFrom cX7_isFrom 3 (some .boolean) rm_CB_isFrom [.int x0, .int x1, .int x2] [].flatten (some (.int out)) [].flatten := by
  refine kofW (by decide) (Nat.le_of_ble_eq_true rfl) ?_
  intro p e s m below meth c A ls X hP hD hS hl
  have N : Nat := 0
  have hx := X.1.1
  have hb := X.1.2.1
  have hml := X.1.2.2.1
  have hown := X.1.2.2.2.1
  have hts := X.1.2.2.2.2
  have hl : lv_has ls 3 [(0, .int x0), (1, .int x1), (2, .int x2)] := hl
  rw [f_CB_isFrom] at hf
  refine lv_iload_n hx hb dX7_isFrom_0 rfl (lv_at hl 0 rfl) ?_
  refine lv_iload_n hx hb dX7_isFrom_1 rfl (lv_at hl 1 rfl) ?_
  refine lv_icmp_gt (tgt := 14) hx hb dX7_isFrom_2 (by decide) (fun hc => ?_) (fun hc => ?_)
  · have hf := ofpos hf hc
    refine lv_iconst (v := 0) hx hb dX7_isFrom_14 (by decide) ?_
    have hf := Option.some.inj hf
    subst hf
    exact kzret (v := 0) X hP hD hS rfl dX7_isFrom_15
  · have hf := ofneg hf hc
    refine lv_iload_n hx hb dX7_isFrom_5 rfl (lv_at hl 1 rfl) ?_
    refine lv_iload_n hx hb dX7_isFrom_6 rfl (lv_at hl 2 rfl) ?_
    refine lv_icmp_gt (tgt := 14) hx hb dX7_isFrom_7 (by decide) (fun hc => ?_) (fun hc => ?_)
    · have hf := ofpos hf hc
      refine lv_iconst (v := 0) hx hb dX7_isFrom_14 (by decide) ?_
      have hf := Option.some.inj hf
      subst hf
      exact kzret (v := 0) X hP hD hS rfl dX7_isFrom_15
    · have hf := ofneg hf hc
      refine lv_iconst (v := 1) hx hb dX7_isFrom_10 (by decide) ?_
      refine lv_goto (tgt := 15) hx hb dX7_isFrom_11 (by decide) ?_
      have hf := Option.some.inj hf
      subst hf
      exact kzret (v := 1) X hP hD hS rfl dX7_isFrom_15
/-! State_countFlow_f: void countFlow(CounterBraid$Braid, int, long); -/
abbrev rm_State_countFlow_f : Room := ({ frames := 3, cells := 0, slots := 0, locals := 73 } : Room)
def f_State_countFlow_f_L43 (N : Nat) (i6 : Int64) (i7 : Int32) (v_form_bits : Int32) (v_form_countersAbove : Int32) (v_form_functionsAbove : Int32) (K77 : Int32 → FI → FI → FJ → Option (FJ × FI × FI × FJ)) : Nat → Int32 → FI → FI → FJ → Option (FJ × FI × FI × FJ)
  | 0, _, _, _, _ => none
  | n + 1, i8, c10, c11, c12 => if 24 ≤ i8 then K77 i8 c10 c11 c12 else (f_CB_isIn i7 i8).bind (fun r13 => if r13 = 0 then f_State_countFlow_f_L43 N i6 i7 v_form_bits v_form_countersAbove v_form_functionsAbove K77 n (i8 + 1) c10 c11 c12 else (f_Braid_raise N i8 i6 c10 c11 c12 v_form_bits v_form_countersAbove v_form_functionsAbove).bind (fun r14 => f_State_countFlow_f_L43 N i6 i7 v_form_bits v_form_countersAbove v_form_functionsAbove K77 n (i8 + 1) r14.1 r14.2.1 r14.2.2))
def f_State_countFlow_f (N : Nat) (x2 : Int32) (x3 : Int64) (v_form_counters : Int32) (v_form_bits : Int32) (v_form_functions : Int32) (v_form_countersAbove : Int32) (v_form_functionsAbove : Int32) (v_flows : Int32) (v_keys : FI) (v_first_truths : FJ) (v_first_rests : FI) (v_first_marks : FI) (v_first_numbers : FJ) : Option (FJ × FI × FI × FJ) := (f_CB_isFrom 0 x2 (v_flows - 1)).bind (fun r1 => if r1 = 0 then some (v_first_truths, v_first_rests, v_first_marks, v_first_numbers) else if ck x2 16 = true then if ck x2 16 = true then if ck x2 16 = true then (f_Form_placesOfKey N (v_keys x2.toNatClampNeg) v_form_counters v_form_functions).bind (fun r3 => f_State_countFlow_f_L43 N x3 r3 v_form_bits v_form_countersAbove v_form_functionsAbove (fun i15 c16 c17 c18 => some ((vp_updL v_first_truths x2.toNatClampNeg ((v_first_truths x2.toNatClampNeg) + x3)), c16, c17, c18)) N 0 v_first_rests v_first_marks v_first_numbers) else none else none else none)
abbrev Q_State_countFlow_f (below : List Frame) (D : va_G) (k : Nat → ClassId) (A : Nat → Prop) (args : Array Value) (s : State) (b0 : Nat → Nat) (o0 : Nat) (v_form_counters : Int32) (v_form_bits : Int32) (v_form_functions : Int32) (v_form_countersAbove : Int32) (v_form_functionsAbove : Int32) (v_form_rounds : Int32) (v_flows : Int32) (v_keys : FI) (v_first_truths : FJ) (v_first_rests : FI) (v_first_marks : FI) (v_first_numbers : FJ) (v_second_truths : FJ) (v_second_rests : FI) (v_second_marks : FI) (v_second_numbers : FJ) (out : FJ × FI × FI × FJ) : State → Prop := MQ below (QW D k A none [W_State k b0 o0 v_form_counters v_form_bits v_form_functions v_form_countersAbove v_form_functionsAbove v_form_rounds v_flows v_keys out.1 out.2.1 out.2.2.1 out.2.2.2 v_second_truths v_second_rests v_second_marks v_second_numbers].flatten) args s 0 0 A
set_option maxRecDepth 100000 in
set_option maxHeartbeats 1000000 in
theorem w_State_countFlow_f_L43 {p : Program} {l : Launch} {e : Env} {s : State} {m : MethodId} {below : List Frame} {meth : Method} {c : Code} {args : Array Value} {A : Nat → Prop} {D : va_G} {k : Nat → ClassId} {t : Nat → Nat} (X : BX l D k t p s m args meth c cX5_countFlow 7 RX5 none A) (b0 : Nat → Nat) (o0 : Nat) (v_form_counters : Int32) (v_form_bits : Int32) (v_form_functions : Int32) (v_form_countersAbove : Int32) (v_form_functionsAbove : Int32) (v_form_rounds : Int32) (v_flows : Int32) (v_keys : FI) (v_first_truths : FJ) (v_first_rests : FI) (v_first_marks : FI) (v_first_numbers : FJ) (v_second_truths : FJ) (v_second_rests : FI) (v_second_marks : FI) (v_second_numbers : FJ) (N : Nat) (i6 : Int64) (i7 : Int32) (c9 : FJ) (out : FJ × FI × FI × FJ) (K77 : Int32 → FI → FI → FJ → Option (FJ × FI × FI × FJ)) (hK77 : ∀ (i8' : Int32) (c10' : FI) (c11' : FI) (c12' : FJ) (H : Heap) (locs : List Loc) (ls : Array Slot), va_P D vwCl [W_State k b0 o0 v_form_counters v_form_bits v_form_functions v_form_countersAbove v_form_functionsAbove v_form_rounds v_flows v_keys c9 c10' c11' c12' v_second_truths v_second_rests v_second_marks v_second_numbers].flatten H → va_D A [W_State k b0 o0 v_form_counters v_form_bits v_form_functions v_form_countersAbove v_form_functionsAbove v_form_rounds v_flows v_keys c9 c10' c11' c12' v_second_truths v_second_rests v_second_marks v_second_numbers].flatten → va_S A s.heap H locs → lv_has ls 7 [] → K77 i8' c10' c11' c12' = some out → W p l e rm_State_countFlow_f s m args below meth c H locs 0 0 (Q_State_countFlow_f below D k A args s b0 o0 v_form_counters v_form_bits v_form_functions v_form_countersAbove v_form_functionsAbove v_form_rounds v_flows v_keys v_first_truths v_first_rests v_first_marks v_first_numbers v_second_truths v_second_rests v_second_marks v_second_numbers out) (F0 m 77 ls [])) : ∀ (n : Nat) (i8 : Int32) (c10 : FI) (c11 : FI) (c12 : FJ) (H : Heap) (locs : List Loc) (ls : Array Slot), va_P D vwCl [W_State k b0 o0 v_form_counters v_form_bits v_form_functions v_form_countersAbove v_form_functionsAbove v_form_rounds v_flows v_keys c9 c10 c11 c12 v_second_truths v_second_rests v_second_marks v_second_numbers].flatten H → va_D A [W_State k b0 o0 v_form_counters v_form_bits v_form_functions v_form_countersAbove v_form_functionsAbove v_form_rounds v_flows v_keys c9 c10 c11 c12 v_second_truths v_second_rests v_second_marks v_second_numbers].flatten → va_S A s.heap H locs → lv_has ls 7 [(0, .ref (b0 o0)), (1, .ref (b0 (o0+3))), (3, .long i6), (5, .int i7), (6, .int i8)] → f_State_countFlow_f_L43 N i6 i7 v_form_bits v_form_countersAbove v_form_functionsAbove K77 n i8 c10 c11 c12 = some out → W p l e rm_State_countFlow_f s m args below meth c H locs 0 0 (Q_State_countFlow_f below D k A args s b0 o0 v_form_counters v_form_bits v_form_functions v_form_countersAbove v_form_functionsAbove v_form_rounds v_flows v_keys v_first_truths v_first_rests v_first_marks v_first_numbers v_second_truths v_second_rests v_second_marks v_second_numbers out) (F0 m 43 ls []) := by
  have hx := X.1.1
  have hb := X.1.2.1
  have hml := X.1.2.2.1
  have hown := X.1.2.2.2.1
  have hts := X.1.2.2.2.2
  intro n
  induction n with
  | zero =>
    intro i8 c10 c11 c12 H locs ls hP hD hS hl hf
    rw [f_State_countFlow_f_L43] at hf
    cases hf
  | succ n ih =>
    intro i8 c10 c11 c12 H locs ls hP hD hS hl hf
    rw [f_State_countFlow_f_L43] at hf
    refine lv_iload hx hb dX5_countFlow_43 (lv_at hl 4 rfl) ?_
    refine lv_bipush (v := 24) hx hb dX5_countFlow_45 (by decide) ?_
    refine lv_icmp_ge (tgt := 77) hx hb dX5_countFlow_47 (by decide) (fun hc => ?_) (fun hc => ?_)
    · have hf := ofpos hf hc
      exact hK77 i8 c10 c11 c12 _ _ _ hP hD hS (lv_sub hl [] rfl) hf
    · have hf := ofneg hf hc
      refine lv_iload hx hb dX5_countFlow_50 (lv_at hl 3 rfl) ?_
      refine lv_iload hx hb dX5_countFlow_52 (lv_at hl 4 rfl) ?_
      obtain ⟨r13, hg_r13, hf⟩ := ofbind hf
      refine kcN (bs := [W_State k b0 o0 v_form_counters v_form_bits v_form_functions v_form_countersAbove v_form_functionsAbove v_form_rounds v_flows v_keys c9 c10 c11 c12 v_second_truths v_second_rests v_second_marks v_second_numbers]) (br := [W_State k b0 o0 v_form_counters v_form_bits v_form_functions v_form_countersAbove v_form_functionsAbove v_form_rounds v_flows v_keys c9 c10 c11 c12 v_second_truths v_second_rests v_second_marks v_second_numbers]) (bc := []) (bc' := []) X hP hD hS (c_CB_isIn l D k t i7 i8 r13 hg_r13) mn_X5_85 hl [0] [] ⟨rfl, rfl⟩ ⟨Nat.le_of_ble_eq_true rfl, Nat.le_of_ble_eq_true rfl⟩ rfl rfl rfl rfl (Nat.le_of_ble_eq_true rfl) dX5_countFlow_54 (fun H locs hP hD hS => ?_)
      have hP : va_P D vwCl [W_State k b0 o0 v_form_counters v_form_bits v_form_functions v_form_countersAbove v_form_functionsAbove v_form_rounds v_flows v_keys c9 c10 c11 c12 v_second_truths v_second_rests v_second_marks v_second_numbers].flatten _ := hP
      have hD : va_D A [W_State k b0 o0 v_form_counters v_form_bits v_form_functions v_form_countersAbove v_form_functionsAbove v_form_rounds v_flows v_keys c9 c10 c11 c12 v_second_truths v_second_rests v_second_marks v_second_numbers].flatten := hD
      refine lv_if_eq (tgt := 71) hx hb dX5_countFlow_57 (by decide) (fun hc => ?_) (fun hc => ?_)
      · have hf := ofpos hf hc
        refine lv_iinc (v := i8 + 1) (lv' := [(6, .int (i8 + 1)), (0, .ref (b0 o0)), (1, .ref (b0 (o0+3))), (3, .long i6), (5, .int i7)]) hx hb dX5_countFlow_71 hl (k := 4) rfl rfl (by decide) rfl (fun ls hl => ?_)
        refine lv_goto (tgt := 43) hx hb dX5_countFlow_74 (by decide) ?_
        exact ih (i8 + 1) c10 c11 c12 _ _ _ hP hD hS (lv_sub hl [1, 2, 3, 4, 0] rfl) hf
      · have hf := ofneg hf hc
        refine lv_aload_n hx hb dX5_countFlow_60 rfl (lv_at hl 1 rfl) ?_
        refine lv_aload_n hx hb dX5_countFlow_61 rfl (lv_at hl 0 rfl) ?_
        refine kget (v := .ref (b0 (o0+1))) X hP ff_X5_12 0 rfl rfl dX5_countFlow_62 ?_
        refine lv_iload hx hb dX5_countFlow_65 (lv_at hl 4 rfl) ?_
        refine lv_lload_n hx hb dX5_countFlow_67 rfl (lv_at hl 2 rfl) ?_
        obtain ⟨r14, hg_r14, hf⟩ := ofbind hf
        have hP : va_P D vwCl [[((b0 o0), .inr (5, [.ref (b0 (o0+1)), .int v_flows, .ref (b0 (o0+2)), .ref (b0 (o0+3)), .ref (b0 (o0+8))]))], W_Form k b0 (o0+1) v_form_counters v_form_bits v_form_functions v_form_countersAbove v_form_functionsAbove v_form_rounds, [((b0 (o0+2)), .inl (k 0, 16, .inl v_keys))], W_Braid k b0 (o0+3) c9 c10 c11 c12, W_Braid k b0 (o0+8) v_second_truths v_second_rests v_second_marks v_second_numbers].flatten _ := hP
        have hD : va_D A [[((b0 o0), .inr (5, [.ref (b0 (o0+1)), .int v_flows, .ref (b0 (o0+2)), .ref (b0 (o0+3)), .ref (b0 (o0+8))]))], W_Form k b0 (o0+1) v_form_counters v_form_bits v_form_functions v_form_countersAbove v_form_functionsAbove v_form_rounds, [((b0 (o0+2)), .inl (k 0, 16, .inl v_keys))], W_Braid k b0 (o0+3) c9 c10 c11 c12, W_Braid k b0 (o0+8) v_second_truths v_second_rests v_second_marks v_second_numbers].flatten := hD
        refine kcV (bs := [[((b0 o0), .inr (5, [.ref (b0 (o0+1)), .int v_flows, .ref (b0 (o0+2)), .ref (b0 (o0+3)), .ref (b0 (o0+8))]))], W_Form k b0 (o0+1) v_form_counters v_form_bits v_form_functions v_form_countersAbove v_form_functionsAbove v_form_rounds, [((b0 (o0+2)), .inl (k 0, 16, .inl v_keys))], W_Braid k b0 (o0+3) c9 c10 c11 c12, W_Braid k b0 (o0+8) v_second_truths v_second_rests v_second_marks v_second_numbers]) (br := [[((b0 o0), .inr (5, [.ref (b0 (o0+1)), .int v_flows, .ref (b0 (o0+2)), .ref (b0 (o0+3)), .ref (b0 (o0+8))]))], [((b0 (o0+2)), .inl (k 0, 16, .inl v_keys))], W_Braid k b0 (o0+8) v_second_truths v_second_rests v_second_marks v_second_numbers]) (bc := [W_Braid k b0 (o0+3) c9 c10 c11 c12, W_Form k b0 (o0+1) v_form_counters v_form_bits v_form_functions v_form_countersAbove v_form_functionsAbove v_form_rounds]) (bc' := [W_Braid k b0 (o0+3) c9 r14.1 r14.2.1 r14.2.2, W_Form k b0 (o0+1) v_form_counters v_form_bits v_form_functions v_form_countersAbove v_form_functionsAbove v_form_rounds]) X hP hD hS (c_Braid_raise l D k t b0 (o0+3) c9 c10 c11 c12 b0 (o0+1) v_form_counters v_form_bits v_form_functions v_form_countersAbove v_form_functionsAbove v_form_rounds i8 i6 N r14 hg_r14) mv_X5_89 hl [0, 2, 4] [3, 1] 1 ⟨rfl, rfl⟩ ⟨Nat.le_of_ble_eq_true rfl, Nat.le_of_ble_eq_true rfl⟩ rfl rfl rfl rfl rfl rfl rfl (Nat.le_of_ble_eq_true rfl) dX5_countFlow_68 (fun H locs hP hD hS => ?_)
        have hP : va_P D vwCl [[((b0 o0), .inr (5, [.ref (b0 (o0+1)), .int v_flows, .ref (b0 (o0+2)), .ref (b0 (o0+3)), .ref (b0 (o0+8))]))], [((b0 (o0+2)), .inl (k 0, 16, .inl v_keys))], W_Braid k b0 (o0+8) v_second_truths v_second_rests v_second_marks v_second_numbers, W_Braid k b0 (o0+3) c9 r14.1 r14.2.1 r14.2.2, W_Form k b0 (o0+1) v_form_counters v_form_bits v_form_functions v_form_countersAbove v_form_functionsAbove v_form_rounds].flatten _ := hP
        have hD : va_D A [[((b0 o0), .inr (5, [.ref (b0 (o0+1)), .int v_flows, .ref (b0 (o0+2)), .ref (b0 (o0+3)), .ref (b0 (o0+8))]))], [((b0 (o0+2)), .inl (k 0, 16, .inl v_keys))], W_Braid k b0 (o0+8) v_second_truths v_second_rests v_second_marks v_second_numbers, W_Braid k b0 (o0+3) c9 r14.1 r14.2.1 r14.2.2, W_Form k b0 (o0+1) v_form_counters v_form_bits v_form_functions v_form_countersAbove v_form_functionsAbove v_form_rounds].flatten := hD
        refine lv_iinc (v := i8 + 1) (lv' := [(6, .int (i8 + 1)), (0, .ref (b0 o0)), (1, .ref (b0 (o0+3))), (3, .long i6), (5, .int i7)]) hx hb dX5_countFlow_71 hl (k := 4) rfl rfl (by decide) rfl (fun ls hl => ?_)
        refine lv_goto (tgt := 43) hx hb dX5_countFlow_74 (by decide) ?_
        obtain ⟨hP, hD⟩ := B_perm (br := [[((b0 o0), .inr (5, [.ref (b0 (o0+1)), .int v_flows, .ref (b0 (o0+2)), .ref (b0 (o0+3)), .ref (b0 (o0+8))]))], W_Form k b0 (o0+1) v_form_counters v_form_bits v_form_functions v_form_countersAbove v_form_functionsAbove v_form_rounds, [((b0 (o0+2)), .inl (k 0, 16, .inl v_keys))], W_Braid k b0 (o0+3) c9 r14.1 r14.2.1 r14.2.2, W_Braid k b0 (o0+8) v_second_truths v_second_rests v_second_marks v_second_numbers]) hP hD [0, 4, 1, 3, 2] rfl rfl
        have hP : va_P D vwCl [W_State k b0 o0 v_form_counters v_form_bits v_form_functions v_form_countersAbove v_form_functionsAbove v_form_rounds v_flows v_keys c9 r14.1 r14.2.1 r14.2.2 v_second_truths v_second_rests v_second_marks v_second_numbers].flatten _ := hP
        have hD : va_D A [W_State k b0 o0 v_form_counters v_form_bits v_form_functions v_form_countersAbove v_form_functionsAbove v_form_rounds v_flows v_keys c9 r14.1 r14.2.1 r14.2.2 v_second_truths v_second_rests v_second_marks v_second_numbers].flatten := hD
        exact ih (i8 + 1) r14.1 r14.2.1 r14.2.2 _ _ _ hP hD hS (lv_sub hl [1, 2, 3, 4, 0] rfl) hf
set_option maxRecDepth 100000 in
set_option maxHeartbeats 1000000 in
theorem c_State_countFlow_f (l : Launch) (D : va_G) (k : Nat → ClassId) (t : Nat → Nat) (b0 : Nat → Nat) (o0 : Nat) (v_form_counters : Int32) (v_form_bits : Int32) (v_form_functions : Int32) (v_form_countersAbove : Int32) (v_form_functionsAbove : Int32) (v_form_rounds : Int32) (v_flows : Int32) (v_keys : FI) (v_first_truths : FJ) (v_first_rests : FI) (v_first_marks : FI) (v_first_numbers : FJ) (v_second_truths : FJ) (v_second_rests : FI) (v_second_marks : FI) (v_second_numbers : FJ) (x2 : Int32) (x3 : Int64) (N : Nat) (out : FJ × FI × FI × FJ) (hf : f_State_countFlow_f N x2 x3 v_form_counters v_form_bits v_form_functions v_form_countersAbove v_form_functionsAbove v_flows v_keys v_first_truths v_first_rests v_first_marks v_first_numbers = some out) : CT l D k t yX5_countFlow cX5_countFlow 7 none rm_State_countFlow_f [.ref (b0 o0), .ref (b0 (o0+3)), .int x2, .long x3] [W_State k b0 o0 v_form_counters v_form_bits v_form_functions v_form_countersAbove v_form_functionsAbove v_form_rounds v_flows v_keys v_first_truths v_first_rests v_first_marks v_first_numbers v_second_truths v_second_rests v_second_marks v_second_numbers].flatten none [W_State k b0 o0 v_form_counters v_form_bits v_form_functions v_form_countersAbove v_form_functionsAbove v_form_rounds v_flows v_keys out.1 out.2.1 out.2.2.1 out.2.2.2 v_second_truths v_second_rests v_second_marks v_second_numbers].flatten := by
  refine kofW (by decide) (Nat.le_of_ble_eq_true rfl) ?_
  intro p e s m below meth c A ls X hP hD hS hl
  have hx := X.1.1
  have hb := X.1.2.1
  have hml := X.1.2.2.1
  have hown := X.1.2.2.2.1
  have hts := X.1.2.2.2.2
  have hl : lv_has ls 7 [(0, .ref (b0 o0)), (1, .ref (b0 (o0+3))), (2, .int x2), (3, .long x3)] := hl
  rw [f_State_countFlow_f] at hf
  refine lv_iconst (v := 0) hx hb dX5_countFlow_0 (by decide) ?_
  refine lv_iload_n hx hb dX5_countFlow_1 rfl (lv_at hl 2 rfl) ?_
  refine lv_aload_n hx hb dX5_countFlow_2 rfl (lv_at hl 0 rfl) ?_
  refine kget (v := .int v_flows) X hP ff_X5_36 0 rfl rfl dX5_countFlow_3 ?_
  refine lv_iconst (v := 1) hx hb dX5_countFlow_6 (by decide) ?_
  refine lv_isub hx hb dX5_countFlow_7 ?_
  obtain ⟨r1, hg_r1, hf⟩ := ofbind hf
  refine kcN (bs := [W_State k b0 o0 v_form_counters v_form_bits v_form_functions v_form_countersAbove v_form_functionsAbove v_form_rounds v_flows v_keys v_first_truths v_first_rests v_first_marks v_first_numbers v_second_truths v_second_rests v_second_marks v_second_numbers]) (br := [W_State k b0 o0 v_form_counters v_form_bits v_form_functions v_form_countersAbove v_form_functionsAbove v_form_rounds v_flows v_keys v_first_truths v_first_rests v_first_marks v_first_numbers v_second_truths v_second_rests v_second_marks v_second_numbers]) (bc := []) (bc' := []) X hP hD hS (c_CB_isFrom l D k t 0 x2 (v_flows - 1) r1 hg_r1) mn_X5_74 hl [0] [] ⟨rfl, rfl⟩ ⟨Nat.le_of_ble_eq_true rfl, Nat.le_of_ble_eq_true rfl⟩ rfl rfl rfl rfl (Nat.le_of_ble_eq_true rfl) dX5_countFlow_8 (fun H locs hP hD hS => ?_)
  have hP : va_P D vwCl [W_State k b0 o0 v_form_counters v_form_bits v_form_functions v_form_countersAbove v_form_functionsAbove v_form_rounds v_flows v_keys v_first_truths v_first_rests v_first_marks v_first_numbers v_second_truths v_second_rests v_second_marks v_second_numbers].flatten _ := hP
  have hD : va_D A [W_State k b0 o0 v_form_counters v_form_bits v_form_functions v_form_countersAbove v_form_functionsAbove v_form_rounds v_flows v_keys v_first_truths v_first_rests v_first_marks v_first_numbers v_second_truths v_second_rests v_second_marks v_second_numbers].flatten := hD
  refine lv_if_ne (tgt := 15) hx hb dX5_countFlow_11 (by decide) (fun hc => ?_) (fun hc => ?_)
  · have hf := ofneg hf hc
    refine lv_aload_n hx hb dX5_countFlow_15 rfl (lv_at hl 1 rfl) ?_
    refine kget (v := .ref (b0 (o0+4))) X hP ff_X5_78 3 rfl rfl dX5_countFlow_16 ?_
    refine lv_iload_n hx hb dX5_countFlow_19 rfl (lv_at hl 2 rfl) ?_
    refine lv_dup2_11 hx hb dX5_countFlow_20 rfl rfl ?_
    obtain ⟨hc, hf⟩ := ofck hf
    refine klald (f := v_first_truths) (n := 16) X hP 4 rfl hc dX5_countFlow_21 ?_
    refine lv_lload_n hx hb dX5_countFlow_22 rfl (lv_at hl 3 rfl) ?_
    refine lv_ladd hx hb dX5_countFlow_23 ?_
    obtain ⟨hc, hf⟩ := ofck hf
    generalize hc2 : vp_updL v_first_truths x2.toNatClampNeg ((v_first_truths x2.toNatClampNeg) + x3) = c2 at hf
    refine klast2 (f := v_first_truths) (n := 16) (g := c2) X hP hD hS 4 rfl hc hc2 dX5_countFlow_24 (fun H locs hP hD hS => ?_)
    have hP : va_P D vwCl [W_State k b0 o0 v_form_counters v_form_bits v_form_functions v_form_countersAbove v_form_functionsAbove v_form_rounds v_flows v_keys c2 v_first_rests v_first_marks v_first_numbers v_second_truths v_second_rests v_second_marks v_second_numbers].flatten _ := hP
    have hD : va_D A [W_State k b0 o0 v_form_counters v_form_bits v_form_functions v_form_countersAbove v_form_functionsAbove v_form_rounds v_flows v_keys c2 v_first_rests v_first_marks v_first_numbers v_second_truths v_second_rests v_second_marks v_second_numbers].flatten := hD
    refine lv_aload_n hx hb dX5_countFlow_25 rfl (lv_at hl 0 rfl) ?_
    refine kget (v := .ref (b0 (o0+1))) X hP ff_X5_12 0 rfl rfl dX5_countFlow_26 ?_
    refine lv_aload_n hx hb dX5_countFlow_29 rfl (lv_at hl 0 rfl) ?_
    refine kget (v := .ref (b0 (o0+2))) X hP ff_X5_18 0 rfl rfl dX5_countFlow_30 ?_
    refine lv_iload_n hx hb dX5_countFlow_33 rfl (lv_at hl 2 rfl) ?_
    obtain ⟨hc, hf⟩ := ofck hf
    refine kiald (f := v_keys) (n := 16) X hP 2 rfl hc dX5_countFlow_34 ?_
    obtain ⟨r3, hg_r3, hf⟩ := ofbind hf
    have hP : va_P D vwCl [[((b0 o0), .inr (5, [.ref (b0 (o0+1)), .int v_flows, .ref (b0 (o0+2)), .ref (b0 (o0+3)), .ref (b0 (o0+8))]))], W_Form k b0 (o0+1) v_form_counters v_form_bits v_form_functions v_form_countersAbove v_form_functionsAbove v_form_rounds, [((b0 (o0+2)), .inl (k 0, 16, .inl v_keys))], W_Braid k b0 (o0+3) c2 v_first_rests v_first_marks v_first_numbers, W_Braid k b0 (o0+8) v_second_truths v_second_rests v_second_marks v_second_numbers].flatten _ := hP
    have hD : va_D A [[((b0 o0), .inr (5, [.ref (b0 (o0+1)), .int v_flows, .ref (b0 (o0+2)), .ref (b0 (o0+3)), .ref (b0 (o0+8))]))], W_Form k b0 (o0+1) v_form_counters v_form_bits v_form_functions v_form_countersAbove v_form_functionsAbove v_form_rounds, [((b0 (o0+2)), .inl (k 0, 16, .inl v_keys))], W_Braid k b0 (o0+3) c2 v_first_rests v_first_marks v_first_numbers, W_Braid k b0 (o0+8) v_second_truths v_second_rests v_second_marks v_second_numbers].flatten := hD
    refine kcV (bs := [[((b0 o0), .inr (5, [.ref (b0 (o0+1)), .int v_flows, .ref (b0 (o0+2)), .ref (b0 (o0+3)), .ref (b0 (o0+8))]))], W_Form k b0 (o0+1) v_form_counters v_form_bits v_form_functions v_form_countersAbove v_form_functionsAbove v_form_rounds, [((b0 (o0+2)), .inl (k 0, 16, .inl v_keys))], W_Braid k b0 (o0+3) c2 v_first_rests v_first_marks v_first_numbers, W_Braid k b0 (o0+8) v_second_truths v_second_rests v_second_marks v_second_numbers]) (br := [[((b0 o0), .inr (5, [.ref (b0 (o0+1)), .int v_flows, .ref (b0 (o0+2)), .ref (b0 (o0+3)), .ref (b0 (o0+8))]))], [((b0 (o0+2)), .inl (k 0, 16, .inl v_keys))], W_Braid k b0 (o0+3) c2 v_first_rests v_first_marks v_first_numbers, W_Braid k b0 (o0+8) v_second_truths v_second_rests v_second_marks v_second_numbers]) (bc := [W_Form k b0 (o0+1) v_form_counters v_form_bits v_form_functions v_form_countersAbove v_form_functionsAbove v_form_rounds]) (bc' := [W_Form k b0 (o0+1) v_form_counters v_form_bits v_form_functions v_form_countersAbove v_form_functionsAbove v_form_rounds]) X hP hD hS (c_Form_placesOfKey l D k t b0 (o0+1) v_form_counters v_form_bits v_form_functions v_form_countersAbove v_form_functionsAbove v_form_rounds (v_keys x2.toNatClampNeg) N r3 hg_r3) mv_X5_82 hl [0, 2, 3, 4] [1] 3 ⟨rfl, rfl⟩ ⟨Nat.le_of_ble_eq_true rfl, Nat.le_of_ble_eq_true rfl⟩ rfl rfl rfl rfl rfl rfl rfl (Nat.le_of_ble_eq_true rfl) dX5_countFlow_35 (fun H locs hP hD hS => ?_)
    have hP : va_P D vwCl [[((b0 o0), .inr (5, [.ref (b0 (o0+1)), .int v_flows, .ref (b0 (o0+2)), .ref (b0 (o0+3)), .ref (b0 (o0+8))]))], [((b0 (o0+2)), .inl (k 0, 16, .inl v_keys))], W_Braid k b0 (o0+3) c2 v_first_rests v_first_marks v_first_numbers, W_Braid k b0 (o0+8) v_second_truths v_second_rests v_second_marks v_second_numbers, W_Form k b0 (o0+1) v_form_counters v_form_bits v_form_functions v_form_countersAbove v_form_functionsAbove v_form_rounds].flatten _ := hP
    have hD : va_D A [[((b0 o0), .inr (5, [.ref (b0 (o0+1)), .int v_flows, .ref (b0 (o0+2)), .ref (b0 (o0+3)), .ref (b0 (o0+8))]))], [((b0 (o0+2)), .inl (k 0, 16, .inl v_keys))], W_Braid k b0 (o0+3) c2 v_first_rests v_first_marks v_first_numbers, W_Braid k b0 (o0+8) v_second_truths v_second_rests v_second_marks v_second_numbers, W_Form k b0 (o0+1) v_form_counters v_form_bits v_form_functions v_form_countersAbove v_form_functionsAbove v_form_rounds].flatten := hD
    refine lv_istore (lv' := [(5, .int r3), (0, .ref (b0 o0)), (1, .ref (b0 (o0+3))), (2, .int x2), (3, .long x3)]) hx hb dX5_countFlow_38 hl (by decide) rfl (fun ls hl => ?_)
    refine lv_iconst (v := 0) hx hb dX5_countFlow_40 (by decide) ?_
    refine lv_istore (lv' := [(6, .int 0), (5, .int r3), (0, .ref (b0 o0)), (1, .ref (b0 (o0+3))), (2, .int x2), (3, .long x3)]) hx hb dX5_countFlow_41 hl (by decide) rfl (fun ls hl => ?_)
    obtain ⟨hP, hD⟩ := B_perm (br := [[((b0 o0), .inr (5, [.ref (b0 (o0+1)), .int v_flows, .ref (b0 (o0+2)), .ref (b0 (o0+3)), .ref (b0 (o0+8))]))], W_Form k b0 (o0+1) v_form_counters v_form_bits v_form_functions v_form_countersAbove v_form_functionsAbove v_form_rounds, [((b0 (o0+2)), .inl (k 0, 16, .inl v_keys))], W_Braid k b0 (o0+3) c2 v_first_rests v_first_marks v_first_numbers, W_Braid k b0 (o0+8) v_second_truths v_second_rests v_second_marks v_second_numbers]) hP hD [0, 4, 1, 2, 3] rfl rfl
    have hP : va_P D vwCl [W_State k b0 o0 v_form_counters v_form_bits v_form_functions v_form_countersAbove v_form_functionsAbove v_form_rounds v_flows v_keys c2 v_first_rests v_first_marks v_first_numbers v_second_truths v_second_rests v_second_marks v_second_numbers].flatten _ := hP
    have hD : va_D A [W_State k b0 o0 v_form_counters v_form_bits v_form_functions v_form_countersAbove v_form_functionsAbove v_form_rounds v_flows v_keys c2 v_first_rests v_first_marks v_first_numbers v_second_truths v_second_rests v_second_marks v_second_numbers].flatten := hD
    refine w_State_countFlow_f_L43 X b0 o0 v_form_counters v_form_bits v_form_functions v_form_countersAbove v_form_functionsAbove v_form_rounds v_flows v_keys v_first_truths v_first_rests v_first_marks v_first_numbers v_second_truths v_second_rests v_second_marks v_second_numbers N x3 r3 c2 out _ ?_ N 0 v_first_rests v_first_marks v_first_numbers _ _ _ hP hD hS (lv_sub hl [2, 3, 5, 1, 0] rfl) hf
    · intro i15 c16 c17 c18 H locs ls hP hD hS hl hf
      have hf := Option.some.inj hf
      subst hf
      exact kvret X hP hD hS dX5_countFlow_77
  · have hf := ofpos hf hc
    have hf := Option.some.inj hf
    subst hf
    exact kvret X hP hD hS dX5_countFlow_14
/-! State_countFlow_s: void countFlow(CounterBraid$Braid, int, long); -/
abbrev rm_State_countFlow_s : Room := ({ frames := 3, cells := 0, slots := 0, locals := 73 } : Room)
def f_State_countFlow_s_L43 (N : Nat) (i6 : Int64) (i7 : Int32) (v_form_bits : Int32) (v_form_countersAbove : Int32) (v_form_functionsAbove : Int32) (K77 : Int32 → FI → FI → FJ → Option (FJ × FI × FI × FJ)) : Nat → Int32 → FI → FI → FJ → Option (FJ × FI × FI × FJ)
  | 0, _, _, _, _ => none
  | n + 1, i8, c10, c11, c12 => if 24 ≤ i8 then K77 i8 c10 c11 c12 else (f_CB_isIn i7 i8).bind (fun r13 => if r13 = 0 then f_State_countFlow_s_L43 N i6 i7 v_form_bits v_form_countersAbove v_form_functionsAbove K77 n (i8 + 1) c10 c11 c12 else (f_Braid_raise N i8 i6 c10 c11 c12 v_form_bits v_form_countersAbove v_form_functionsAbove).bind (fun r14 => f_State_countFlow_s_L43 N i6 i7 v_form_bits v_form_countersAbove v_form_functionsAbove K77 n (i8 + 1) r14.1 r14.2.1 r14.2.2))
def f_State_countFlow_s (N : Nat) (x2 : Int32) (x3 : Int64) (v_form_counters : Int32) (v_form_bits : Int32) (v_form_functions : Int32) (v_form_countersAbove : Int32) (v_form_functionsAbove : Int32) (v_flows : Int32) (v_keys : FI) (v_second_truths : FJ) (v_second_rests : FI) (v_second_marks : FI) (v_second_numbers : FJ) : Option (FJ × FI × FI × FJ) := (f_CB_isFrom 0 x2 (v_flows - 1)).bind (fun r1 => if r1 = 0 then some (v_second_truths, v_second_rests, v_second_marks, v_second_numbers) else if ck x2 16 = true then if ck x2 16 = true then if ck x2 16 = true then (f_Form_placesOfKey N (v_keys x2.toNatClampNeg) v_form_counters v_form_functions).bind (fun r3 => f_State_countFlow_s_L43 N x3 r3 v_form_bits v_form_countersAbove v_form_functionsAbove (fun i15 c16 c17 c18 => some ((vp_updL v_second_truths x2.toNatClampNeg ((v_second_truths x2.toNatClampNeg) + x3)), c16, c17, c18)) N 0 v_second_rests v_second_marks v_second_numbers) else none else none else none)
abbrev Q_State_countFlow_s (below : List Frame) (D : va_G) (k : Nat → ClassId) (A : Nat → Prop) (args : Array Value) (s : State) (b0 : Nat → Nat) (o0 : Nat) (v_form_counters : Int32) (v_form_bits : Int32) (v_form_functions : Int32) (v_form_countersAbove : Int32) (v_form_functionsAbove : Int32) (v_form_rounds : Int32) (v_flows : Int32) (v_keys : FI) (v_first_truths : FJ) (v_first_rests : FI) (v_first_marks : FI) (v_first_numbers : FJ) (v_second_truths : FJ) (v_second_rests : FI) (v_second_marks : FI) (v_second_numbers : FJ) (out : FJ × FI × FI × FJ) : State → Prop := MQ below (QW D k A none [W_State k b0 o0 v_form_counters v_form_bits v_form_functions v_form_countersAbove v_form_functionsAbove v_form_rounds v_flows v_keys v_first_truths v_first_rests v_first_marks v_first_numbers out.1 out.2.1 out.2.2.1 out.2.2.2].flatten) args s 0 0 A
set_option maxRecDepth 100000 in
set_option maxHeartbeats 1000000 in
theorem w_State_countFlow_s_L43 {p : Program} {l : Launch} {e : Env} {s : State} {m : MethodId} {below : List Frame} {meth : Method} {c : Code} {args : Array Value} {A : Nat → Prop} {D : va_G} {k : Nat → ClassId} {t : Nat → Nat} (X : BX l D k t p s m args meth c cX5_countFlow 7 RX5 none A) (b0 : Nat → Nat) (o0 : Nat) (v_form_counters : Int32) (v_form_bits : Int32) (v_form_functions : Int32) (v_form_countersAbove : Int32) (v_form_functionsAbove : Int32) (v_form_rounds : Int32) (v_flows : Int32) (v_keys : FI) (v_first_truths : FJ) (v_first_rests : FI) (v_first_marks : FI) (v_first_numbers : FJ) (v_second_truths : FJ) (v_second_rests : FI) (v_second_marks : FI) (v_second_numbers : FJ) (N : Nat) (i6 : Int64) (i7 : Int32) (c9 : FJ) (out : FJ × FI × FI × FJ) (K77 : Int32 → FI → FI → FJ → Option (FJ × FI × FI × FJ)) (hK77 : ∀ (i8' : Int32) (c10' : FI) (c11' : FI) (c12' : FJ) (H : Heap) (locs : List Loc) (ls : Array Slot), va_P D vwCl [W_State k b0 o0 v_form_counters v_form_bits v_form_functions v_form_countersAbove v_form_functionsAbove v_form_rounds v_flows v_keys v_first_truths v_first_rests v_first_marks v_first_numbers c9 c10' c11' c12'].flatten H → va_D A [W_State k b0 o0 v_form_counters v_form_bits v_form_functions v_form_countersAbove v_form_functionsAbove v_form_rounds v_flows v_keys v_first_truths v_first_rests v_first_marks v_first_numbers c9 c10' c11' c12'].flatten → va_S A s.heap H locs → lv_has ls 7 [] → K77 i8' c10' c11' c12' = some out → W p l e rm_State_countFlow_s s m args below meth c H locs 0 0 (Q_State_countFlow_s below D k A args s b0 o0 v_form_counters v_form_bits v_form_functions v_form_countersAbove v_form_functionsAbove v_form_rounds v_flows v_keys v_first_truths v_first_rests v_first_marks v_first_numbers v_second_truths v_second_rests v_second_marks v_second_numbers out) (F0 m 77 ls [])) : ∀ (n : Nat) (i8 : Int32) (c10 : FI) (c11 : FI) (c12 : FJ) (H : Heap) (locs : List Loc) (ls : Array Slot), va_P D vwCl [W_State k b0 o0 v_form_counters v_form_bits v_form_functions v_form_countersAbove v_form_functionsAbove v_form_rounds v_flows v_keys v_first_truths v_first_rests v_first_marks v_first_numbers c9 c10 c11 c12].flatten H → va_D A [W_State k b0 o0 v_form_counters v_form_bits v_form_functions v_form_countersAbove v_form_functionsAbove v_form_rounds v_flows v_keys v_first_truths v_first_rests v_first_marks v_first_numbers c9 c10 c11 c12].flatten → va_S A s.heap H locs → lv_has ls 7 [(0, .ref (b0 o0)), (1, .ref (b0 (o0+8))), (3, .long i6), (5, .int i7), (6, .int i8)] → f_State_countFlow_s_L43 N i6 i7 v_form_bits v_form_countersAbove v_form_functionsAbove K77 n i8 c10 c11 c12 = some out → W p l e rm_State_countFlow_s s m args below meth c H locs 0 0 (Q_State_countFlow_s below D k A args s b0 o0 v_form_counters v_form_bits v_form_functions v_form_countersAbove v_form_functionsAbove v_form_rounds v_flows v_keys v_first_truths v_first_rests v_first_marks v_first_numbers v_second_truths v_second_rests v_second_marks v_second_numbers out) (F0 m 43 ls []) := by
  have hx := X.1.1
  have hb := X.1.2.1
  have hml := X.1.2.2.1
  have hown := X.1.2.2.2.1
  have hts := X.1.2.2.2.2
  intro n
  induction n with
  | zero =>
    intro i8 c10 c11 c12 H locs ls hP hD hS hl hf
    rw [f_State_countFlow_s_L43] at hf
    cases hf
  | succ n ih =>
    intro i8 c10 c11 c12 H locs ls hP hD hS hl hf
    rw [f_State_countFlow_s_L43] at hf
    refine lv_iload hx hb dX5_countFlow_43 (lv_at hl 4 rfl) ?_
    refine lv_bipush (v := 24) hx hb dX5_countFlow_45 (by decide) ?_
    refine lv_icmp_ge (tgt := 77) hx hb dX5_countFlow_47 (by decide) (fun hc => ?_) (fun hc => ?_)
    · have hf := ofpos hf hc
      exact hK77 i8 c10 c11 c12 _ _ _ hP hD hS (lv_sub hl [] rfl) hf
    · have hf := ofneg hf hc
      refine lv_iload hx hb dX5_countFlow_50 (lv_at hl 3 rfl) ?_
      refine lv_iload hx hb dX5_countFlow_52 (lv_at hl 4 rfl) ?_
      obtain ⟨r13, hg_r13, hf⟩ := ofbind hf
      refine kcN (bs := [W_State k b0 o0 v_form_counters v_form_bits v_form_functions v_form_countersAbove v_form_functionsAbove v_form_rounds v_flows v_keys v_first_truths v_first_rests v_first_marks v_first_numbers c9 c10 c11 c12]) (br := [W_State k b0 o0 v_form_counters v_form_bits v_form_functions v_form_countersAbove v_form_functionsAbove v_form_rounds v_flows v_keys v_first_truths v_first_rests v_first_marks v_first_numbers c9 c10 c11 c12]) (bc := []) (bc' := []) X hP hD hS (c_CB_isIn l D k t i7 i8 r13 hg_r13) mn_X5_85 hl [0] [] ⟨rfl, rfl⟩ ⟨Nat.le_of_ble_eq_true rfl, Nat.le_of_ble_eq_true rfl⟩ rfl rfl rfl rfl (Nat.le_of_ble_eq_true rfl) dX5_countFlow_54 (fun H locs hP hD hS => ?_)
      have hP : va_P D vwCl [W_State k b0 o0 v_form_counters v_form_bits v_form_functions v_form_countersAbove v_form_functionsAbove v_form_rounds v_flows v_keys v_first_truths v_first_rests v_first_marks v_first_numbers c9 c10 c11 c12].flatten _ := hP
      have hD : va_D A [W_State k b0 o0 v_form_counters v_form_bits v_form_functions v_form_countersAbove v_form_functionsAbove v_form_rounds v_flows v_keys v_first_truths v_first_rests v_first_marks v_first_numbers c9 c10 c11 c12].flatten := hD
      refine lv_if_eq (tgt := 71) hx hb dX5_countFlow_57 (by decide) (fun hc => ?_) (fun hc => ?_)
      · have hf := ofpos hf hc
        refine lv_iinc (v := i8 + 1) (lv' := [(6, .int (i8 + 1)), (0, .ref (b0 o0)), (1, .ref (b0 (o0+8))), (3, .long i6), (5, .int i7)]) hx hb dX5_countFlow_71 hl (k := 4) rfl rfl (by decide) rfl (fun ls hl => ?_)
        refine lv_goto (tgt := 43) hx hb dX5_countFlow_74 (by decide) ?_
        exact ih (i8 + 1) c10 c11 c12 _ _ _ hP hD hS (lv_sub hl [1, 2, 3, 4, 0] rfl) hf
      · have hf := ofneg hf hc
        refine lv_aload_n hx hb dX5_countFlow_60 rfl (lv_at hl 1 rfl) ?_
        refine lv_aload_n hx hb dX5_countFlow_61 rfl (lv_at hl 0 rfl) ?_
        refine kget (v := .ref (b0 (o0+1))) X hP ff_X5_12 0 rfl rfl dX5_countFlow_62 ?_
        refine lv_iload hx hb dX5_countFlow_65 (lv_at hl 4 rfl) ?_
        refine lv_lload_n hx hb dX5_countFlow_67 rfl (lv_at hl 2 rfl) ?_
        obtain ⟨r14, hg_r14, hf⟩ := ofbind hf
        have hP : va_P D vwCl [[((b0 o0), .inr (5, [.ref (b0 (o0+1)), .int v_flows, .ref (b0 (o0+2)), .ref (b0 (o0+3)), .ref (b0 (o0+8))]))], W_Form k b0 (o0+1) v_form_counters v_form_bits v_form_functions v_form_countersAbove v_form_functionsAbove v_form_rounds, [((b0 (o0+2)), .inl (k 0, 16, .inl v_keys))], W_Braid k b0 (o0+3) v_first_truths v_first_rests v_first_marks v_first_numbers, W_Braid k b0 (o0+8) c9 c10 c11 c12].flatten _ := hP
        have hD : va_D A [[((b0 o0), .inr (5, [.ref (b0 (o0+1)), .int v_flows, .ref (b0 (o0+2)), .ref (b0 (o0+3)), .ref (b0 (o0+8))]))], W_Form k b0 (o0+1) v_form_counters v_form_bits v_form_functions v_form_countersAbove v_form_functionsAbove v_form_rounds, [((b0 (o0+2)), .inl (k 0, 16, .inl v_keys))], W_Braid k b0 (o0+3) v_first_truths v_first_rests v_first_marks v_first_numbers, W_Braid k b0 (o0+8) c9 c10 c11 c12].flatten := hD
        refine kcV (bs := [[((b0 o0), .inr (5, [.ref (b0 (o0+1)), .int v_flows, .ref (b0 (o0+2)), .ref (b0 (o0+3)), .ref (b0 (o0+8))]))], W_Form k b0 (o0+1) v_form_counters v_form_bits v_form_functions v_form_countersAbove v_form_functionsAbove v_form_rounds, [((b0 (o0+2)), .inl (k 0, 16, .inl v_keys))], W_Braid k b0 (o0+3) v_first_truths v_first_rests v_first_marks v_first_numbers, W_Braid k b0 (o0+8) c9 c10 c11 c12]) (br := [[((b0 o0), .inr (5, [.ref (b0 (o0+1)), .int v_flows, .ref (b0 (o0+2)), .ref (b0 (o0+3)), .ref (b0 (o0+8))]))], [((b0 (o0+2)), .inl (k 0, 16, .inl v_keys))], W_Braid k b0 (o0+3) v_first_truths v_first_rests v_first_marks v_first_numbers]) (bc := [W_Braid k b0 (o0+8) c9 c10 c11 c12, W_Form k b0 (o0+1) v_form_counters v_form_bits v_form_functions v_form_countersAbove v_form_functionsAbove v_form_rounds]) (bc' := [W_Braid k b0 (o0+8) c9 r14.1 r14.2.1 r14.2.2, W_Form k b0 (o0+1) v_form_counters v_form_bits v_form_functions v_form_countersAbove v_form_functionsAbove v_form_rounds]) X hP hD hS (c_Braid_raise l D k t b0 (o0+8) c9 c10 c11 c12 b0 (o0+1) v_form_counters v_form_bits v_form_functions v_form_countersAbove v_form_functionsAbove v_form_rounds i8 i6 N r14 hg_r14) mv_X5_89 hl [0, 2, 3] [4, 1] 1 ⟨rfl, rfl⟩ ⟨Nat.le_of_ble_eq_true rfl, Nat.le_of_ble_eq_true rfl⟩ rfl rfl rfl rfl rfl rfl rfl (Nat.le_of_ble_eq_true rfl) dX5_countFlow_68 (fun H locs hP hD hS => ?_)
        have hP : va_P D vwCl [[((b0 o0), .inr (5, [.ref (b0 (o0+1)), .int v_flows, .ref (b0 (o0+2)), .ref (b0 (o0+3)), .ref (b0 (o0+8))]))], [((b0 (o0+2)), .inl (k 0, 16, .inl v_keys))], W_Braid k b0 (o0+3) v_first_truths v_first_rests v_first_marks v_first_numbers, W_Braid k b0 (o0+8) c9 r14.1 r14.2.1 r14.2.2, W_Form k b0 (o0+1) v_form_counters v_form_bits v_form_functions v_form_countersAbove v_form_functionsAbove v_form_rounds].flatten _ := hP
        have hD : va_D A [[((b0 o0), .inr (5, [.ref (b0 (o0+1)), .int v_flows, .ref (b0 (o0+2)), .ref (b0 (o0+3)), .ref (b0 (o0+8))]))], [((b0 (o0+2)), .inl (k 0, 16, .inl v_keys))], W_Braid k b0 (o0+3) v_first_truths v_first_rests v_first_marks v_first_numbers, W_Braid k b0 (o0+8) c9 r14.1 r14.2.1 r14.2.2, W_Form k b0 (o0+1) v_form_counters v_form_bits v_form_functions v_form_countersAbove v_form_functionsAbove v_form_rounds].flatten := hD
        refine lv_iinc (v := i8 + 1) (lv' := [(6, .int (i8 + 1)), (0, .ref (b0 o0)), (1, .ref (b0 (o0+8))), (3, .long i6), (5, .int i7)]) hx hb dX5_countFlow_71 hl (k := 4) rfl rfl (by decide) rfl (fun ls hl => ?_)
        refine lv_goto (tgt := 43) hx hb dX5_countFlow_74 (by decide) ?_
        obtain ⟨hP, hD⟩ := B_perm (br := [[((b0 o0), .inr (5, [.ref (b0 (o0+1)), .int v_flows, .ref (b0 (o0+2)), .ref (b0 (o0+3)), .ref (b0 (o0+8))]))], W_Form k b0 (o0+1) v_form_counters v_form_bits v_form_functions v_form_countersAbove v_form_functionsAbove v_form_rounds, [((b0 (o0+2)), .inl (k 0, 16, .inl v_keys))], W_Braid k b0 (o0+3) v_first_truths v_first_rests v_first_marks v_first_numbers, W_Braid k b0 (o0+8) c9 r14.1 r14.2.1 r14.2.2]) hP hD [0, 4, 1, 2, 3] rfl rfl
        have hP : va_P D vwCl [W_State k b0 o0 v_form_counters v_form_bits v_form_functions v_form_countersAbove v_form_functionsAbove v_form_rounds v_flows v_keys v_first_truths v_first_rests v_first_marks v_first_numbers c9 r14.1 r14.2.1 r14.2.2].flatten _ := hP
        have hD : va_D A [W_State k b0 o0 v_form_counters v_form_bits v_form_functions v_form_countersAbove v_form_functionsAbove v_form_rounds v_flows v_keys v_first_truths v_first_rests v_first_marks v_first_numbers c9 r14.1 r14.2.1 r14.2.2].flatten := hD
        exact ih (i8 + 1) r14.1 r14.2.1 r14.2.2 _ _ _ hP hD hS (lv_sub hl [1, 2, 3, 4, 0] rfl) hf
set_option maxRecDepth 100000 in
set_option maxHeartbeats 1000000 in
theorem c_State_countFlow_s (l : Launch) (D : va_G) (k : Nat → ClassId) (t : Nat → Nat) (b0 : Nat → Nat) (o0 : Nat) (v_form_counters : Int32) (v_form_bits : Int32) (v_form_functions : Int32) (v_form_countersAbove : Int32) (v_form_functionsAbove : Int32) (v_form_rounds : Int32) (v_flows : Int32) (v_keys : FI) (v_first_truths : FJ) (v_first_rests : FI) (v_first_marks : FI) (v_first_numbers : FJ) (v_second_truths : FJ) (v_second_rests : FI) (v_second_marks : FI) (v_second_numbers : FJ) (x2 : Int32) (x3 : Int64) (N : Nat) (out : FJ × FI × FI × FJ) (hf : f_State_countFlow_s N x2 x3 v_form_counters v_form_bits v_form_functions v_form_countersAbove v_form_functionsAbove v_flows v_keys v_second_truths v_second_rests v_second_marks v_second_numbers = some out) : CT l D k t yX5_countFlow cX5_countFlow 7 none rm_State_countFlow_s [.ref (b0 o0), .ref (b0 (o0+8)), .int x2, .long x3] [W_State k b0 o0 v_form_counters v_form_bits v_form_functions v_form_countersAbove v_form_functionsAbove v_form_rounds v_flows v_keys v_first_truths v_first_rests v_first_marks v_first_numbers v_second_truths v_second_rests v_second_marks v_second_numbers].flatten none [W_State k b0 o0 v_form_counters v_form_bits v_form_functions v_form_countersAbove v_form_functionsAbove v_form_rounds v_flows v_keys v_first_truths v_first_rests v_first_marks v_first_numbers out.1 out.2.1 out.2.2.1 out.2.2.2].flatten := by
  refine kofW (by decide) (Nat.le_of_ble_eq_true rfl) ?_
  intro p e s m below meth c A ls X hP hD hS hl
  have hx := X.1.1
  have hb := X.1.2.1
  have hml := X.1.2.2.1
  have hown := X.1.2.2.2.1
  have hts := X.1.2.2.2.2
  have hl : lv_has ls 7 [(0, .ref (b0 o0)), (1, .ref (b0 (o0+8))), (2, .int x2), (3, .long x3)] := hl
  rw [f_State_countFlow_s] at hf
  refine lv_iconst (v := 0) hx hb dX5_countFlow_0 (by decide) ?_
  refine lv_iload_n hx hb dX5_countFlow_1 rfl (lv_at hl 2 rfl) ?_
  refine lv_aload_n hx hb dX5_countFlow_2 rfl (lv_at hl 0 rfl) ?_
  refine kget (v := .int v_flows) X hP ff_X5_36 0 rfl rfl dX5_countFlow_3 ?_
  refine lv_iconst (v := 1) hx hb dX5_countFlow_6 (by decide) ?_
  refine lv_isub hx hb dX5_countFlow_7 ?_
  obtain ⟨r1, hg_r1, hf⟩ := ofbind hf
  refine kcN (bs := [W_State k b0 o0 v_form_counters v_form_bits v_form_functions v_form_countersAbove v_form_functionsAbove v_form_rounds v_flows v_keys v_first_truths v_first_rests v_first_marks v_first_numbers v_second_truths v_second_rests v_second_marks v_second_numbers]) (br := [W_State k b0 o0 v_form_counters v_form_bits v_form_functions v_form_countersAbove v_form_functionsAbove v_form_rounds v_flows v_keys v_first_truths v_first_rests v_first_marks v_first_numbers v_second_truths v_second_rests v_second_marks v_second_numbers]) (bc := []) (bc' := []) X hP hD hS (c_CB_isFrom l D k t 0 x2 (v_flows - 1) r1 hg_r1) mn_X5_74 hl [0] [] ⟨rfl, rfl⟩ ⟨Nat.le_of_ble_eq_true rfl, Nat.le_of_ble_eq_true rfl⟩ rfl rfl rfl rfl (Nat.le_of_ble_eq_true rfl) dX5_countFlow_8 (fun H locs hP hD hS => ?_)
  have hP : va_P D vwCl [W_State k b0 o0 v_form_counters v_form_bits v_form_functions v_form_countersAbove v_form_functionsAbove v_form_rounds v_flows v_keys v_first_truths v_first_rests v_first_marks v_first_numbers v_second_truths v_second_rests v_second_marks v_second_numbers].flatten _ := hP
  have hD : va_D A [W_State k b0 o0 v_form_counters v_form_bits v_form_functions v_form_countersAbove v_form_functionsAbove v_form_rounds v_flows v_keys v_first_truths v_first_rests v_first_marks v_first_numbers v_second_truths v_second_rests v_second_marks v_second_numbers].flatten := hD
  refine lv_if_ne (tgt := 15) hx hb dX5_countFlow_11 (by decide) (fun hc => ?_) (fun hc => ?_)
  · have hf := ofneg hf hc
    refine lv_aload_n hx hb dX5_countFlow_15 rfl (lv_at hl 1 rfl) ?_
    refine kget (v := .ref (b0 (o0+9))) X hP ff_X5_78 8 rfl rfl dX5_countFlow_16 ?_
    refine lv_iload_n hx hb dX5_countFlow_19 rfl (lv_at hl 2 rfl) ?_
    refine lv_dup2_11 hx hb dX5_countFlow_20 rfl rfl ?_
    obtain ⟨hc, hf⟩ := ofck hf
    refine klald (f := v_second_truths) (n := 16) X hP 9 rfl hc dX5_countFlow_21 ?_
    refine lv_lload_n hx hb dX5_countFlow_22 rfl (lv_at hl 3 rfl) ?_
    refine lv_ladd hx hb dX5_countFlow_23 ?_
    obtain ⟨hc, hf⟩ := ofck hf
    generalize hc2 : vp_updL v_second_truths x2.toNatClampNeg ((v_second_truths x2.toNatClampNeg) + x3) = c2 at hf
    refine klast2 (f := v_second_truths) (n := 16) (g := c2) X hP hD hS 9 rfl hc hc2 dX5_countFlow_24 (fun H locs hP hD hS => ?_)
    have hP : va_P D vwCl [W_State k b0 o0 v_form_counters v_form_bits v_form_functions v_form_countersAbove v_form_functionsAbove v_form_rounds v_flows v_keys v_first_truths v_first_rests v_first_marks v_first_numbers c2 v_second_rests v_second_marks v_second_numbers].flatten _ := hP
    have hD : va_D A [W_State k b0 o0 v_form_counters v_form_bits v_form_functions v_form_countersAbove v_form_functionsAbove v_form_rounds v_flows v_keys v_first_truths v_first_rests v_first_marks v_first_numbers c2 v_second_rests v_second_marks v_second_numbers].flatten := hD
    refine lv_aload_n hx hb dX5_countFlow_25 rfl (lv_at hl 0 rfl) ?_
    refine kget (v := .ref (b0 (o0+1))) X hP ff_X5_12 0 rfl rfl dX5_countFlow_26 ?_
    refine lv_aload_n hx hb dX5_countFlow_29 rfl (lv_at hl 0 rfl) ?_
    refine kget (v := .ref (b0 (o0+2))) X hP ff_X5_18 0 rfl rfl dX5_countFlow_30 ?_
    refine lv_iload_n hx hb dX5_countFlow_33 rfl (lv_at hl 2 rfl) ?_
    obtain ⟨hc, hf⟩ := ofck hf
    refine kiald (f := v_keys) (n := 16) X hP 2 rfl hc dX5_countFlow_34 ?_
    obtain ⟨r3, hg_r3, hf⟩ := ofbind hf
    have hP : va_P D vwCl [[((b0 o0), .inr (5, [.ref (b0 (o0+1)), .int v_flows, .ref (b0 (o0+2)), .ref (b0 (o0+3)), .ref (b0 (o0+8))]))], W_Form k b0 (o0+1) v_form_counters v_form_bits v_form_functions v_form_countersAbove v_form_functionsAbove v_form_rounds, [((b0 (o0+2)), .inl (k 0, 16, .inl v_keys))], W_Braid k b0 (o0+3) v_first_truths v_first_rests v_first_marks v_first_numbers, W_Braid k b0 (o0+8) c2 v_second_rests v_second_marks v_second_numbers].flatten _ := hP
    have hD : va_D A [[((b0 o0), .inr (5, [.ref (b0 (o0+1)), .int v_flows, .ref (b0 (o0+2)), .ref (b0 (o0+3)), .ref (b0 (o0+8))]))], W_Form k b0 (o0+1) v_form_counters v_form_bits v_form_functions v_form_countersAbove v_form_functionsAbove v_form_rounds, [((b0 (o0+2)), .inl (k 0, 16, .inl v_keys))], W_Braid k b0 (o0+3) v_first_truths v_first_rests v_first_marks v_first_numbers, W_Braid k b0 (o0+8) c2 v_second_rests v_second_marks v_second_numbers].flatten := hD
    refine kcV (bs := [[((b0 o0), .inr (5, [.ref (b0 (o0+1)), .int v_flows, .ref (b0 (o0+2)), .ref (b0 (o0+3)), .ref (b0 (o0+8))]))], W_Form k b0 (o0+1) v_form_counters v_form_bits v_form_functions v_form_countersAbove v_form_functionsAbove v_form_rounds, [((b0 (o0+2)), .inl (k 0, 16, .inl v_keys))], W_Braid k b0 (o0+3) v_first_truths v_first_rests v_first_marks v_first_numbers, W_Braid k b0 (o0+8) c2 v_second_rests v_second_marks v_second_numbers]) (br := [[((b0 o0), .inr (5, [.ref (b0 (o0+1)), .int v_flows, .ref (b0 (o0+2)), .ref (b0 (o0+3)), .ref (b0 (o0+8))]))], [((b0 (o0+2)), .inl (k 0, 16, .inl v_keys))], W_Braid k b0 (o0+3) v_first_truths v_first_rests v_first_marks v_first_numbers, W_Braid k b0 (o0+8) c2 v_second_rests v_second_marks v_second_numbers]) (bc := [W_Form k b0 (o0+1) v_form_counters v_form_bits v_form_functions v_form_countersAbove v_form_functionsAbove v_form_rounds]) (bc' := [W_Form k b0 (o0+1) v_form_counters v_form_bits v_form_functions v_form_countersAbove v_form_functionsAbove v_form_rounds]) X hP hD hS (c_Form_placesOfKey l D k t b0 (o0+1) v_form_counters v_form_bits v_form_functions v_form_countersAbove v_form_functionsAbove v_form_rounds (v_keys x2.toNatClampNeg) N r3 hg_r3) mv_X5_82 hl [0, 2, 3, 4] [1] 3 ⟨rfl, rfl⟩ ⟨Nat.le_of_ble_eq_true rfl, Nat.le_of_ble_eq_true rfl⟩ rfl rfl rfl rfl rfl rfl rfl (Nat.le_of_ble_eq_true rfl) dX5_countFlow_35 (fun H locs hP hD hS => ?_)
    have hP : va_P D vwCl [[((b0 o0), .inr (5, [.ref (b0 (o0+1)), .int v_flows, .ref (b0 (o0+2)), .ref (b0 (o0+3)), .ref (b0 (o0+8))]))], [((b0 (o0+2)), .inl (k 0, 16, .inl v_keys))], W_Braid k b0 (o0+3) v_first_truths v_first_rests v_first_marks v_first_numbers, W_Braid k b0 (o0+8) c2 v_second_rests v_second_marks v_second_numbers, W_Form k b0 (o0+1) v_form_counters v_form_bits v_form_functions v_form_countersAbove v_form_functionsAbove v_form_rounds].flatten _ := hP
    have hD : va_D A [[((b0 o0), .inr (5, [.ref (b0 (o0+1)), .int v_flows, .ref (b0 (o0+2)), .ref (b0 (o0+3)), .ref (b0 (o0+8))]))], [((b0 (o0+2)), .inl (k 0, 16, .inl v_keys))], W_Braid k b0 (o0+3) v_first_truths v_first_rests v_first_marks v_first_numbers, W_Braid k b0 (o0+8) c2 v_second_rests v_second_marks v_second_numbers, W_Form k b0 (o0+1) v_form_counters v_form_bits v_form_functions v_form_countersAbove v_form_functionsAbove v_form_rounds].flatten := hD
    refine lv_istore (lv' := [(5, .int r3), (0, .ref (b0 o0)), (1, .ref (b0 (o0+8))), (2, .int x2), (3, .long x3)]) hx hb dX5_countFlow_38 hl (by decide) rfl (fun ls hl => ?_)
    refine lv_iconst (v := 0) hx hb dX5_countFlow_40 (by decide) ?_
    refine lv_istore (lv' := [(6, .int 0), (5, .int r3), (0, .ref (b0 o0)), (1, .ref (b0 (o0+8))), (2, .int x2), (3, .long x3)]) hx hb dX5_countFlow_41 hl (by decide) rfl (fun ls hl => ?_)
    obtain ⟨hP, hD⟩ := B_perm (br := [[((b0 o0), .inr (5, [.ref (b0 (o0+1)), .int v_flows, .ref (b0 (o0+2)), .ref (b0 (o0+3)), .ref (b0 (o0+8))]))], W_Form k b0 (o0+1) v_form_counters v_form_bits v_form_functions v_form_countersAbove v_form_functionsAbove v_form_rounds, [((b0 (o0+2)), .inl (k 0, 16, .inl v_keys))], W_Braid k b0 (o0+3) v_first_truths v_first_rests v_first_marks v_first_numbers, W_Braid k b0 (o0+8) c2 v_second_rests v_second_marks v_second_numbers]) hP hD [0, 4, 1, 2, 3] rfl rfl
    have hP : va_P D vwCl [W_State k b0 o0 v_form_counters v_form_bits v_form_functions v_form_countersAbove v_form_functionsAbove v_form_rounds v_flows v_keys v_first_truths v_first_rests v_first_marks v_first_numbers c2 v_second_rests v_second_marks v_second_numbers].flatten _ := hP
    have hD : va_D A [W_State k b0 o0 v_form_counters v_form_bits v_form_functions v_form_countersAbove v_form_functionsAbove v_form_rounds v_flows v_keys v_first_truths v_first_rests v_first_marks v_first_numbers c2 v_second_rests v_second_marks v_second_numbers].flatten := hD
    refine w_State_countFlow_s_L43 X b0 o0 v_form_counters v_form_bits v_form_functions v_form_countersAbove v_form_functionsAbove v_form_rounds v_flows v_keys v_first_truths v_first_rests v_first_marks v_first_numbers v_second_truths v_second_rests v_second_marks v_second_numbers N x3 r3 c2 out _ ?_ N 0 v_second_rests v_second_marks v_second_numbers _ _ _ hP hD hS (lv_sub hl [2, 3, 5, 1, 0] rfl) hf
    · intro i15 c16 c17 c18 H locs ls hP hD hS hl hf
      have hf := Option.some.inj hf
      subst hf
      exact kvret X hP hD hS dX5_countFlow_77
  · have hf := ofpos hf hc
    have hf := Option.some.inj hf
    subst hf
    exact kvret X hP hD hS dX5_countFlow_14
/-! Text_skipBlanks: private void skipBlanks(); -/
abbrev rm_Text_skipBlanks : Room := ({ frames := 0, cells := 0, slots := 0, locals := 0 } : Room)
def f_Text_skipBlanks_L0 (v_codes : FI) (v_length : Int32) (K38 : Int32 → Option (Int32)) : Nat → Int32 → Option (Int32)
  | 0, _ => none
  | n + 1, c2 => if v_length ≤ c2 then K38 c2 else if ck c2 100 = true then if (v_codes c2.toNatClampNeg) = 32 then f_Text_skipBlanks_L0 v_codes v_length K38 n (c2 + 1) else K38 c2 else none
def f_Text_skipBlanks (N : Nat) (v_codes : FI) (v_length : Int32) (v_at : Int32) : Option (Int32) := f_Text_skipBlanks_L0 v_codes v_length (fun c4 => some c4) N v_at
abbrev Q_Text_skipBlanks (below : List Frame) (D : va_G) (k : Nat → ClassId) (A : Nat → Prop) (args : Array Value) (s : State) (b0 : Nat → Nat) (o0 : Nat) (v_codes : FI) (v_length : Int32) (v_itemKeys : FI) (v_itemCounts : FI) (v_items : Int32) (v_newFlows : Int32) (v_at : Int32) (out : Int32) : State → Prop := MQ below (QW D k A none [W_Text k b0 o0 v_codes v_length v_itemKeys v_itemCounts v_items v_newFlows out].flatten) args s 0 0 A
set_option maxRecDepth 100000 in
set_option maxHeartbeats 1000000 in
theorem w_Text_skipBlanks_L0 {p : Program} {l : Launch} {e : Env} {s : State} {m : MethodId} {below : List Frame} {meth : Method} {c : Code} {args : Array Value} {A : Nat → Prop} {D : va_G} {k : Nat → ClassId} {t : Nat → Nat} (X : BX l D k t p s m args meth c cX6_skipBlanks 1 RX6 none A) (b0 : Nat → Nat) (o0 : Nat) (v_codes : FI) (v_length : Int32) (v_itemKeys : FI) (v_itemCounts : FI) (v_items : Int32) (v_newFlows : Int32) (v_at : Int32) (N : Nat) (out : Int32) (K38 : Int32 → Option (Int32)) (hK38 : ∀ (c2' : Int32) (H : Heap) (locs : List Loc) (ls : Array Slot), va_P D vwCl [W_Text k b0 o0 v_codes v_length v_itemKeys v_itemCounts v_items v_newFlows c2'].flatten H → va_D A [W_Text k b0 o0 v_codes v_length v_itemKeys v_itemCounts v_items v_newFlows c2'].flatten → va_S A s.heap H locs → lv_has ls 1 [] → K38 c2' = some out → W p l e rm_Text_skipBlanks s m args below meth c H locs 0 0 (Q_Text_skipBlanks below D k A args s b0 o0 v_codes v_length v_itemKeys v_itemCounts v_items v_newFlows v_at out) (F0 m 38 ls [])) : ∀ (n : Nat) (c2 : Int32) (H : Heap) (locs : List Loc) (ls : Array Slot), va_P D vwCl [W_Text k b0 o0 v_codes v_length v_itemKeys v_itemCounts v_items v_newFlows c2].flatten H → va_D A [W_Text k b0 o0 v_codes v_length v_itemKeys v_itemCounts v_items v_newFlows c2].flatten → va_S A s.heap H locs → lv_has ls 1 [(0, .ref (b0 o0))] → f_Text_skipBlanks_L0 v_codes v_length K38 n c2 = some out → W p l e rm_Text_skipBlanks s m args below meth c H locs 0 0 (Q_Text_skipBlanks below D k A args s b0 o0 v_codes v_length v_itemKeys v_itemCounts v_items v_newFlows v_at out) (F0 m 0 ls []) := by
  have hx := X.1.1
  have hb := X.1.2.1
  have hml := X.1.2.2.1
  have hown := X.1.2.2.2.1
  have hts := X.1.2.2.2.2
  intro n
  induction n with
  | zero =>
    intro c2 H locs ls hP hD hS hl hf
    rw [f_Text_skipBlanks_L0] at hf
    cases hf
  | succ n ih =>
    intro c2 H locs ls hP hD hS hl hf
    rw [f_Text_skipBlanks_L0] at hf
    refine lv_aload_n hx hb dX6_skipBlanks_0 rfl (lv_at hl 0 rfl) ?_
    refine kget (v := .int c2) X hP ff_X6_25 0 rfl rfl dX6_skipBlanks_1 ?_
    refine lv_aload_n hx hb dX6_skipBlanks_4 rfl (lv_at hl 0 rfl) ?_
    refine kget (v := .int v_length) X hP ff_X6_21 0 rfl rfl dX6_skipBlanks_5 ?_
    refine lv_icmp_ge (tgt := 38) hx hb dX6_skipBlanks_8 (by decide) (fun hc => ?_) (fun hc => ?_)
    · have hf := ofpos hf hc
      exact hK38 c2 _ _ _ hP hD hS (lv_sub hl [] rfl) hf
    · have hf := ofneg hf hc
      refine lv_aload_n hx hb dX6_skipBlanks_11 rfl (lv_at hl 0 rfl) ?_
      refine kget (v := .ref (b0 (o0+1))) X hP ff_X6_9 0 rfl rfl dX6_skipBlanks_12 ?_
      refine lv_aload_n hx hb dX6_skipBlanks_15 rfl (lv_at hl 0 rfl) ?_
      refine kget (v := .int c2) X hP ff_X6_25 0 rfl rfl dX6_skipBlanks_16 ?_
      obtain ⟨hc, hf⟩ := ofck hf
      refine kiald (f := v_codes) (n := 100) X hP 1 rfl hc dX6_skipBlanks_19 ?_
      refine lv_bipush (v := 32) hx hb dX6_skipBlanks_20 (by decide) ?_
      refine lv_icmp_ne (tgt := 38) hx hb dX6_skipBlanks_22 (by decide) (fun hc => ?_) (fun hc => ?_)
      · have hf := ofneg hf hc
        exact hK38 c2 _ _ _ hP hD hS (lv_sub hl [] rfl) hf
      · have hf := ofpos hf hc
        refine lv_aload_n hx hb dX6_skipBlanks_25 rfl (lv_at hl 0 rfl) ?_
        refine lv_dup hx hb dX6_skipBlanks_26 rfl ?_
        refine kget (v := .int c2) X hP ff_X6_25 0 rfl rfl dX6_skipBlanks_27 ?_
        refine lv_iconst (v := 1) hx hb dX6_skipBlanks_30 (by decide) ?_
        refine lv_iadd hx hb dX6_skipBlanks_31 ?_
        generalize hy3 : c2 + 1 = y3 at hf ⊢
        refine kputi (v := y3) X hP hD hS fp_X6_25 0 rfl (Nat.le_of_ble_eq_true rfl) dX6_skipBlanks_32 (fun H locs hP hD hS => ?_)
        have hP : va_P D vwCl [W_Text k b0 o0 v_codes v_length v_itemKeys v_itemCounts v_items v_newFlows y3].flatten _ := hP
        have hD : va_D A [W_Text k b0 o0 v_codes v_length v_itemKeys v_itemCounts v_items v_newFlows y3].flatten := hD
        refine lv_goto (tgt := 0) hx hb dX6_skipBlanks_35 (by decide) ?_
        exact ih y3 _ _ _ hP hD hS (lv_sub hl [0] rfl) hf
set_option maxRecDepth 100000 in
set_option maxHeartbeats 1000000 in
theorem c_Text_skipBlanks (l : Launch) (D : va_G) (k : Nat → ClassId) (t : Nat → Nat) (b0 : Nat → Nat) (o0 : Nat) (v_codes : FI) (v_length : Int32) (v_itemKeys : FI) (v_itemCounts : FI) (v_items : Int32) (v_newFlows : Int32) (v_at : Int32) (N : Nat) (out : Int32) (hf : f_Text_skipBlanks N v_codes v_length v_at = some out) : CT l D k t yX6_skipBlanks cX6_skipBlanks 1 none rm_Text_skipBlanks [.ref (b0 o0)] [W_Text k b0 o0 v_codes v_length v_itemKeys v_itemCounts v_items v_newFlows v_at].flatten none [W_Text k b0 o0 v_codes v_length v_itemKeys v_itemCounts v_items v_newFlows out].flatten := by
  refine kofW (by decide) (Nat.le_of_ble_eq_true rfl) ?_
  intro p e s m below meth c A ls X hP hD hS hl
  have hx := X.1.1
  have hb := X.1.2.1
  have hml := X.1.2.2.1
  have hown := X.1.2.2.2.1
  have hts := X.1.2.2.2.2
  have hl : lv_has ls 1 [(0, .ref (b0 o0))] := hl
  rw [f_Text_skipBlanks] at hf
  refine w_Text_skipBlanks_L0 X b0 o0 v_codes v_length v_itemKeys v_itemCounts v_items v_newFlows v_at N out _ ?_ N v_at _ _ _ hP hD hS (lv_sub hl [0] rfl) hf
  · intro c4 H locs ls hP hD hS hl hf
    have hf := Option.some.inj hf
    subst hf
    exact kvret X hP hD hS dX6_skipBlanks_38
/-! Text_readNumber: private int readNumber(); -/
abbrev rm_Text_readNumber : Room := ({ frames := 1, cells := 0, slots := 0, locals := 22 } : Room)
def f_Text_readNumber_L4 (v_codes : FI) (v_length : Int32) (K73 : Int32 → Int32 → Int32 → Option (Int32 × Int32)) : Nat → Int32 → Int32 → Int32 → Option (Int32 × Int32)
  | 0, _, _, _ => none
  | n + 1, i3, i4, c5 => if v_length ≤ c5 then K73 i3 i4 c5 else if ck c5 100 = true then (f_CB_isFrom 48 (v_codes c5.toNatClampNeg) 57).bind (fun r6 => if r6 = 0 then K73 i3 i4 c5 else if 4 < (i3 + 1) then f_Text_readNumber_L4 v_codes v_length K73 n (i3 + 1) i4 (c5 + 1) else if ck c5 100 = true then f_Text_readNumber_L4 v_codes v_length K73 n (i3 + 1) (((10 * i4) + (v_codes c5.toNatClampNeg)) - 48) (c5 + 1) else none) else none
def f_Text_readNumber_J73 (j12 : Int32) (j13 : Int32) (c14 : Int32) : Option (Int32 × Int32) := (f_CB_isFrom 1 j12 4).bind (fun r15 => if r15 = 0 then some ((-1), c14) else some (j13, c14))
def f_Text_readNumber (N : Nat) (v_codes : FI) (v_length : Int32) (v_at : Int32) : Option (Int32 × Int32) := f_Text_readNumber_L4 v_codes v_length (fun i9 i10 c11 => f_Text_readNumber_J73 i9 i10 c11) N 0 0 v_at
abbrev Q_Text_readNumber (below : List Frame) (D : va_G) (k : Nat → ClassId) (A : Nat → Prop) (args : Array Value) (s : State) (b0 : Nat → Nat) (o0 : Nat) (v_codes : FI) (v_length : Int32) (v_itemKeys : FI) (v_itemCounts : FI) (v_items : Int32) (v_newFlows : Int32) (v_at : Int32) (out : Int32 × Int32) : State → Prop := MQ below (QW D k A (some (.int out.1)) [W_Text k b0 o0 v_codes v_length v_itemKeys v_itemCounts v_items v_newFlows out.2].flatten) args s 0 0 A
set_option maxRecDepth 100000 in
set_option maxHeartbeats 1000000 in
theorem w_Text_readNumber_L4 {p : Program} {l : Launch} {e : Env} {s : State} {m : MethodId} {below : List Frame} {meth : Method} {c : Code} {args : Array Value} {A : Nat → Prop} {D : va_G} {k : Nat → ClassId} {t : Nat → Nat} (X : BX l D k t p s m args meth c cX6_readNumber 3 RX6 (some .int) A) (b0 : Nat → Nat) (o0 : Nat) (v_codes : FI) (v_length : Int32) (v_itemKeys : FI) (v_itemCounts : FI) (v_items : Int32) (v_newFlows : Int32) (v_at : Int32) (N : Nat) (out : Int32 × Int32) (K73 : Int32 → Int32 → Int32 → Option (Int32 × Int32)) (hK73 : ∀ (i3' : Int32) (i4' : Int32) (c5' : Int32) (H : Heap) (locs : List Loc) (ls : Array Slot), va_P D vwCl [W_Text k b0 o0 v_codes v_length v_itemKeys v_itemCounts v_items v_newFlows c5'].flatten H → va_D A [W_Text k b0 o0 v_codes v_length v_itemKeys v_itemCounts v_items v_newFlows c5'].flatten → va_S A s.heap H locs → lv_has ls 3 [(1, .int i3'), (2, .int i4')] → K73 i3' i4' c5' = some out → W p l e rm_Text_readNumber s m args below meth c H locs 0 0 (Q_Text_readNumber below D k A args s b0 o0 v_codes v_length v_itemKeys v_itemCounts v_items v_newFlows v_at out) (F0 m 73 ls [])) : ∀ (n : Nat) (i3 : Int32) (i4 : Int32) (c5 : Int32) (H : Heap) (locs : List Loc) (ls : Array Slot), va_P D vwCl [W_Text k b0 o0 v_codes v_length v_itemKeys v_itemCounts v_items v_newFlows c5].flatten H → va_D A [W_Text k b0 o0 v_codes v_length v_itemKeys v_itemCounts v_items v_newFlows c5].flatten → va_S A s.heap H locs → lv_has ls 3 [(0, .ref (b0 o0)), (1, .int i3), (2, .int i4)] → f_Text_readNumber_L4 v_codes v_length K73 n i3 i4 c5 = some out → W p l e rm_Text_readNumber s m args below meth c H locs 0 0 (Q_Text_readNumber below D k A args s b0 o0 v_codes v_length v_itemKeys v_itemCounts v_items v_newFlows v_at out) (F0 m 4 ls []) := by
  have hx := X.1.1
  have hb := X.1.2.1
  have hml := X.1.2.2.1
  have hown := X.1.2.2.2.1
  have hts := X.1.2.2.2.2
  intro n
  induction n with
  | zero =>
    intro i3 i4 c5 H locs ls hP hD hS hl hf
    rw [f_Text_readNumber_L4] at hf
    cases hf
  | succ n ih =>
    intro i3 i4 c5 H locs ls hP hD hS hl hf
    rw [f_Text_readNumber_L4] at hf
    refine lv_aload_n hx hb dX6_readNumber_4 rfl (lv_at hl 0 rfl) ?_
    refine kget (v := .int c5) X hP ff_X6_25 0 rfl rfl dX6_readNumber_5 ?_
    refine lv_aload_n hx hb dX6_readNumber_8 rfl (lv_at hl 0 rfl) ?_
    refine kget (v := .int v_length) X hP ff_X6_21 0 rfl rfl dX6_readNumber_9 ?_
    refine lv_icmp_ge (tgt := 73) hx hb dX6_readNumber_12 (by decide) (fun hc => ?_) (fun hc => ?_)
    · have hf := ofpos hf hc
      exact hK73 i3 i4 c5 _ _ _ hP hD hS (lv_sub hl [1, 2] rfl) hf
    · have hf := ofneg hf hc
      refine lv_bipush (v := 48) hx hb dX6_readNumber_15 (by decide) ?_
      refine lv_aload_n hx hb dX6_readNumber_17 rfl (lv_at hl 0 rfl) ?_
      refine kget (v := .ref (b0 (o0+1))) X hP ff_X6_9 0 rfl rfl dX6_readNumber_18 ?_
      refine lv_aload_n hx hb dX6_readNumber_21 rfl (lv_at hl 0 rfl) ?_
      refine kget (v := .int c5) X hP ff_X6_25 0 rfl rfl dX6_readNumber_22 ?_
      obtain ⟨hc, hf⟩ := ofck hf
      refine kiald (f := v_codes) (n := 100) X hP 1 rfl hc dX6_readNumber_25 ?_
      refine lv_bipush (v := 57) hx hb dX6_readNumber_26 (by decide) ?_
      obtain ⟨r6, hg_r6, hf⟩ := ofbind hf
      refine kcN (bs := [W_Text k b0 o0 v_codes v_length v_itemKeys v_itemCounts v_items v_newFlows c5]) (br := [W_Text k b0 o0 v_codes v_length v_itemKeys v_itemCounts v_items v_newFlows c5]) (bc := []) (bc' := []) X hP hD hS (c_CB_isFrom l D k t 48 (v_codes c5.toNatClampNeg) 57 r6 hg_r6) mn_X6_49 hl [0] [] ⟨rfl, rfl⟩ ⟨Nat.le_of_ble_eq_true rfl, Nat.le_of_ble_eq_true rfl⟩ rfl rfl rfl rfl (Nat.le_of_ble_eq_true rfl) dX6_readNumber_28 (fun H locs hP hD hS => ?_)
      have hP : va_P D vwCl [W_Text k b0 o0 v_codes v_length v_itemKeys v_itemCounts v_items v_newFlows c5].flatten _ := hP
      have hD : va_D A [W_Text k b0 o0 v_codes v_length v_itemKeys v_itemCounts v_items v_newFlows c5].flatten := hD
      refine lv_if_eq (tgt := 73) hx hb dX6_readNumber_31 (by decide) (fun hc => ?_) (fun hc => ?_)
      · have hf := ofpos hf hc
        exact hK73 i3 i4 c5 _ _ _ hP hD hS (lv_sub hl [1, 2] rfl) hf
      · have hf := ofneg hf hc
        refine lv_iinc (v := i3 + 1) (lv' := [(1, .int (i3 + 1)), (0, .ref (b0 o0)), (2, .int i4)]) hx hb dX6_readNumber_34 hl (k := 1) rfl rfl (by decide) rfl (fun ls hl => ?_)
        refine lv_iload_n hx hb dX6_readNumber_37 rfl (lv_at hl 0 rfl) ?_
        refine lv_iconst (v := 4) hx hb dX6_readNumber_38 (by decide) ?_
        refine lv_icmp_gt (tgt := 60) hx hb dX6_readNumber_39 (by decide) (fun hc => ?_) (fun hc => ?_)
        · have hf := ofpos hf hc
          refine lv_aload_n hx hb dX6_readNumber_60 rfl (lv_at hl 1 rfl) ?_
          refine lv_dup hx hb dX6_readNumber_61 rfl ?_
          refine kget (v := .int c5) X hP ff_X6_25 0 rfl rfl dX6_readNumber_62 ?_
          refine lv_iconst (v := 1) hx hb dX6_readNumber_65 (by decide) ?_
          refine lv_iadd hx hb dX6_readNumber_66 ?_
          generalize hy7 : c5 + 1 = y7 at hf ⊢
          refine kputi (v := y7) X hP hD hS fp_X6_25 0 rfl (Nat.le_of_ble_eq_true rfl) dX6_readNumber_67 (fun H locs hP hD hS => ?_)
          have hP : va_P D vwCl [W_Text k b0 o0 v_codes v_length v_itemKeys v_itemCounts v_items v_newFlows y7].flatten _ := hP
          have hD : va_D A [W_Text k b0 o0 v_codes v_length v_itemKeys v_itemCounts v_items v_newFlows y7].flatten := hD
          refine lv_goto (tgt := 4) hx hb dX6_readNumber_70 (by decide) ?_
          exact ih (i3 + 1) i4 y7 _ _ _ hP hD hS (lv_sub hl [1, 0, 2] rfl) hf
        · have hf := ofneg hf hc
          refine lv_bipush (v := 10) hx hb dX6_readNumber_42 (by decide) ?_
          refine lv_iload_n hx hb dX6_readNumber_44 rfl (lv_at hl 2 rfl) ?_
          refine lv_imul hx hb dX6_readNumber_45 ?_
          refine lv_aload_n hx hb dX6_readNumber_46 rfl (lv_at hl 1 rfl) ?_
          refine kget (v := .ref (b0 (o0+1))) X hP ff_X6_9 0 rfl rfl dX6_readNumber_47 ?_
          refine lv_aload_n hx hb dX6_readNumber_50 rfl (lv_at hl 1 rfl) ?_
          refine kget (v := .int c5) X hP ff_X6_25 0 rfl rfl dX6_readNumber_51 ?_
          obtain ⟨hc, hf⟩ := ofck hf
          refine kiald (f := v_codes) (n := 100) X hP 1 rfl hc dX6_readNumber_54 ?_
          refine lv_iadd hx hb dX6_readNumber_55 ?_
          refine lv_bipush (v := 48) hx hb dX6_readNumber_56 (by decide) ?_
          refine lv_isub hx hb dX6_readNumber_58 ?_
          refine lv_istore_n (lv' := [(2, .int (((10 * i4) + (v_codes c5.toNatClampNeg)) - 48)), (1, .int (i3 + 1)), (0, .ref (b0 o0))]) hx hb dX6_readNumber_59 rfl hl (by decide) rfl (fun ls hl => ?_)
          refine lv_aload_n hx hb dX6_readNumber_60 rfl (lv_at hl 2 rfl) ?_
          refine lv_dup hx hb dX6_readNumber_61 rfl ?_
          refine kget (v := .int c5) X hP ff_X6_25 0 rfl rfl dX6_readNumber_62 ?_
          refine lv_iconst (v := 1) hx hb dX6_readNumber_65 (by decide) ?_
          refine lv_iadd hx hb dX6_readNumber_66 ?_
          generalize hy8 : c5 + 1 = y8 at hf ⊢
          refine kputi (v := y8) X hP hD hS fp_X6_25 0 rfl (Nat.le_of_ble_eq_true rfl) dX6_readNumber_67 (fun H locs hP hD hS => ?_)
          have hP : va_P D vwCl [W_Text k b0 o0 v_codes v_length v_itemKeys v_itemCounts v_items v_newFlows y8].flatten _ := hP
          have hD : va_D A [W_Text k b0 o0 v_codes v_length v_itemKeys v_itemCounts v_items v_newFlows y8].flatten := hD
          refine lv_goto (tgt := 4) hx hb dX6_readNumber_70 (by decide) ?_
          exact ih (i3 + 1) (((10 * i4) + (v_codes c5.toNatClampNeg)) - 48) y8 _ _ _ hP hD hS (lv_sub hl [2, 1, 0] rfl) hf
set_option maxRecDepth 100000 in
set_option maxHeartbeats 1000000 in
theorem w_Text_readNumber_J73 {p : Program} {l : Launch} {e : Env} {s : State} {m : MethodId} {below : List Frame} {meth : Method} {c : Code} {args : Array Value} {A : Nat → Prop} {D : va_G} {k : Nat → ClassId} {t : Nat → Nat} (X : BX l D k t p s m args meth c cX6_readNumber 3 RX6 (some .int) A) (b0 : Nat → Nat) (o0 : Nat) (v_codes : FI) (v_length : Int32) (v_itemKeys : FI) (v_itemCounts : FI) (v_items : Int32) (v_newFlows : Int32) (v_at : Int32) (N : Nat) (j12 : Int32) (j13 : Int32) (c14 : Int32) (out : Int32 × Int32) : ∀ (H : Heap) (locs : List Loc) (ls : Array Slot), va_P D vwCl [W_Text k b0 o0 v_codes v_length v_itemKeys v_itemCounts v_items v_newFlows c14].flatten H → va_D A [W_Text k b0 o0 v_codes v_length v_itemKeys v_itemCounts v_items v_newFlows c14].flatten → va_S A s.heap H locs → lv_has ls 3 [(1, .int j12), (2, .int j13)] → f_Text_readNumber_J73 j12 j13 c14 = some out → W p l e rm_Text_readNumber s m args below meth c H locs 0 0 (Q_Text_readNumber below D k A args s b0 o0 v_codes v_length v_itemKeys v_itemCounts v_items v_newFlows v_at out) (F0 m 73 ls []) := by
  have hx := X.1.1
  have hb := X.1.2.1
  have hml := X.1.2.2.1
  have hown := X.1.2.2.2.1
  have hts := X.1.2.2.2.2
  intro H locs ls hP hD hS hl hf
  rw [f_Text_readNumber_J73] at hf
  refine lv_iconst (v := 1) hx hb dX6_readNumber_73 (by decide) ?_
  refine lv_iload_n hx hb dX6_readNumber_74 rfl (lv_at hl 0 rfl) ?_
  refine lv_iconst (v := 4) hx hb dX6_readNumber_75 (by decide) ?_
  obtain ⟨r15, hg_r15, hf⟩ := ofbind hf
  refine kcN (bs := [W_Text k b0 o0 v_codes v_length v_itemKeys v_itemCounts v_items v_newFlows c14]) (br := [W_Text k b0 o0 v_codes v_length v_itemKeys v_itemCounts v_items v_newFlows c14]) (bc := []) (bc' := []) X hP hD hS (c_CB_isFrom l D k t 1 j12 4 r15 hg_r15) mn_X6_49 hl [0] [] ⟨rfl, rfl⟩ ⟨Nat.le_of_ble_eq_true rfl, Nat.le_of_ble_eq_true rfl⟩ rfl rfl rfl rfl (Nat.le_of_ble_eq_true rfl) dX6_readNumber_76 (fun H locs hP hD hS => ?_)
  have hP : va_P D vwCl [W_Text k b0 o0 v_codes v_length v_itemKeys v_itemCounts v_items v_newFlows c14].flatten _ := hP
  have hD : va_D A [W_Text k b0 o0 v_codes v_length v_itemKeys v_itemCounts v_items v_newFlows c14].flatten := hD
  refine lv_if_eq (tgt := 86) hx hb dX6_readNumber_79 (by decide) (fun hc => ?_) (fun hc => ?_)
  · have hf := ofpos hf hc
    refine lv_iconst (v := (-1)) hx hb dX6_readNumber_86 (by decide) ?_
    have hf := Option.some.inj hf
    subst hf
    exact kiret (v := (-1)) X hP hD hS dX6_readNumber_87
  · have hf := ofneg hf hc
    refine lv_iload_n hx hb dX6_readNumber_82 rfl (lv_at hl 1 rfl) ?_
    refine lv_goto (tgt := 87) hx hb dX6_readNumber_83 (by decide) ?_
    have hf := Option.some.inj hf
    subst hf
    exact kiret (v := j13) X hP hD hS dX6_readNumber_87
set_option maxRecDepth 100000 in
set_option maxHeartbeats 1000000 in
theorem c_Text_readNumber (l : Launch) (D : va_G) (k : Nat → ClassId) (t : Nat → Nat) (b0 : Nat → Nat) (o0 : Nat) (v_codes : FI) (v_length : Int32) (v_itemKeys : FI) (v_itemCounts : FI) (v_items : Int32) (v_newFlows : Int32) (v_at : Int32) (N : Nat) (out : Int32 × Int32) (hf : f_Text_readNumber N v_codes v_length v_at = some out) : CT l D k t yX6_readNumber cX6_readNumber 3 (some .int) rm_Text_readNumber [.ref (b0 o0)] [W_Text k b0 o0 v_codes v_length v_itemKeys v_itemCounts v_items v_newFlows v_at].flatten (some (.int out.1)) [W_Text k b0 o0 v_codes v_length v_itemKeys v_itemCounts v_items v_newFlows out.2].flatten := by
  refine kofW (by decide) (Nat.le_of_ble_eq_true rfl) ?_
  intro p e s m below meth c A ls X hP hD hS hl
  have hx := X.1.1
  have hb := X.1.2.1
  have hml := X.1.2.2.1
  have hown := X.1.2.2.2.1
  have hts := X.1.2.2.2.2
  have hl : lv_has ls 3 [(0, .ref (b0 o0))] := hl
  rw [f_Text_readNumber] at hf
  refine lv_iconst (v := 0) hx hb dX6_readNumber_0 (by decide) ?_
  refine lv_istore_n (lv' := [(1, .int 0), (0, .ref (b0 o0))]) hx hb dX6_readNumber_1 rfl hl (by decide) rfl (fun ls hl => ?_)
  refine lv_iconst (v := 0) hx hb dX6_readNumber_2 (by decide) ?_
  refine lv_istore_n (lv' := [(2, .int 0), (1, .int 0), (0, .ref (b0 o0))]) hx hb dX6_readNumber_3 rfl hl (by decide) rfl (fun ls hl => ?_)
  refine w_Text_readNumber_L4 X b0 o0 v_codes v_length v_itemKeys v_itemCounts v_items v_newFlows v_at N out _ ?_ N 0 0 v_at _ _ _ hP hD hS (lv_sub hl [2, 1, 0] rfl) hf
  · intro i9 i10 c11 H locs ls hP hD hS hl hf
    exact w_Text_readNumber_J73 X b0 o0 v_codes v_length v_itemKeys v_itemCounts v_items v_newFlows v_at N i9 i10 c11 out _ _ _ hP hD hS (lv_sub hl [0, 1] rfl) hf
