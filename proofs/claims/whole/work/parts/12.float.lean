/-! floats: isNaN, floatToIntBits of the JDK; bitsOfFloat, bitsForEach on both sides -/
theorem ms_Jxf58ca_59 : MS RJxf58ca 59 1 yJxf58ca_isNaN_12338 cJxf58ca_isNaN_12338 1 (some .boolean) := ⟨⟨(wm_r29 (List.mem_of_getElem? (i := 20) rfl)), (wm_r29 (List.mem_of_getElem? (i := 21) rfl)), (wm_r29 (List.mem_of_getElem? (i := 13) rfl)), (wm_r29 (List.mem_of_getElem? (i := 22) rfl))⟩, by decide +kernel, by decide +kernel, by decide +kernel⟩
def nn32 (x : UInt32) : Bool := decide (x &&& 0x7fffffff ≤ 0x7f800000)
theorem nn_v {x : UInt32} (h : nn32 x = true) : vf_n32 x := by
  have h2 : x &&& 0x7fffffff ≤ 0x7f800000 := of_decide_eq_true h
  exact h2
theorem kofF {l : Launch} {D : va_G} {k : Nat → ClassId} {t : Nat → Nat} {y : MethodName} {cc : ByteArray} {maxL : Nat} {ret : Option FieldType} {rm : Room} {av : List Value} {ws : va_W} {rv : Option Value} {ws' : va_W} (hy : plainFor y = true) (hav : (lg_sl av).length ≤ maxL)
    (body : ∀ (p : Program) (e : Env) (s : State) (m : MethodId) (below : List Frame) (meth : Method) (c : Code) (A : Nat → Prop) (ls : Array Slot), BX l D k t p s m av.toArray meth c cc maxL y.cls ret A → va_P D vwCl ws s.heap → va_D A ws → va_S A s.heap s.heap [] → lv_has ls maxL (lv_args 0 av) →
      W p l e rm s m av.toArray below meth c s.heap [] 0 0 (MQ below (QW D k A rv ws') av.toArray s 0 0 A) (F0 m 0 ls [])) : CT l D k t y cc maxL ret rm av ws rv ws' := by
  intro sz
  refine va_MetF (cc := cc) (maxL := maxL) (ret := ret) hy rfl ?_
  intro p e s m args below meth c s₁ B hml hv
  obtain ⟨rfl, hsz, hP, hK, hD0, hE⟩ := hv
  subst hsz
  have hts := atoms_spec (ws := .code y cc maxL ret :: ALL) B.pre
  have hl := lv_entry av (n := maxL) hav
  rw [lg_entry_eq]
  exact body p e s m below meth c _ _ ⟨⟨B.exec, B.bytes, hml, findClass_of_methodNamed B.named, fun w hw => hts w (List.mem_cons_of_mem _ hw)⟩, B.returns, B.notSynchronized, hK, fun q h => Or.inr h, hE⟩ hP hD0.self va_S.rf hl
def f_isNaN (x : UInt32) : Int32 := if Op.cmpValue (FP.fcmp x x) .l = 0 then 0 else 1
def f_fbits (x : UInt32) : Option Int32 := if f_isNaN x = 0 then some x.toInt32 else some 2143289344
abbrev rm_isNaN : Room := ({ frames := 0, cells := 0, slots := 0, locals := 0 } : Room)
abbrev rm_fbits : Room := ({ frames := 1, cells := 0, slots := 0, locals := 40 } : Room)
set_option maxRecDepth 100000 in
set_option maxHeartbeats 1000000 in
theorem c_isNaN (l : Launch) (D : va_G) (k : Nat → ClassId) (t : Nat → Nat) (x : UInt32) : CT l D k t yJxf58ca_isNaN_12338 cJxf58ca_isNaN_12338 1 (some .boolean) rm_isNaN [.float x] [].flatten (some (.int (f_isNaN x))) [].flatten := by
  refine kofF (by decide +kernel) (Nat.le_of_ble_eq_true rfl) ?_
  intro p e s m below meth c A ls X hP hD hS hl
  have hx := X.1.1
  have hb := X.1.2.1
  have hl : lv_has ls 1 [(0, .float x)] := hl
  refine lv_fload_n hx hb dJxf58ca_isNaN_12338_0 rfl (lv_at hl 0 rfl) ?_
  refine lv_fload_n hx hb dJxf58ca_isNaN_12338_1 rfl (lv_at hl 0 rfl) ?_
  refine lv_fcmp hx hb dJxf58ca_isNaN_12338_2 ?_
  refine lv_if_eq (tgt := 10) hx hb dJxf58ca_isNaN_12338_3 (by decide) (fun hc => ?_) (fun hc => ?_)
  · have e0 : f_isNaN x = 0 := if_pos hc
    rw [e0]
    refine lv_iconst (v := 0) hx hb dJxf58ca_isNaN_12338_10 (by decide) ?_
    exact kzret (v := 0) X hP hD hS rfl dJxf58ca_isNaN_12338_11
  · have e0 : f_isNaN x = 1 := if_neg hc
    rw [e0]
    refine lv_iconst (v := 1) hx hb dJxf58ca_isNaN_12338_6 (by decide) ?_
    refine lv_goto (tgt := 11) hx hb dJxf58ca_isNaN_12338_7 (by decide) ?_
    exact kzret (v := 1) X hP hD hS rfl dJxf58ca_isNaN_12338_11
set_option maxRecDepth 100000 in
set_option maxHeartbeats 1000000 in
theorem c_fbits (l : Launch) (D : va_G) (k : Nat → ClassId) (t : Nat → Nat) (x : UInt32) (out : Int32) (hf : f_fbits x = some out) : CT l D k t yJxf58ca_floatToIntBits_5c35a cJxf58ca_floatToIntBits_5c35a 1 (some .int) rm_fbits [.float x] [].flatten (some (.int out)) [].flatten := by
  refine kofF (by decide +kernel) (Nat.le_of_ble_eq_true rfl) ?_
  intro p e s m below meth c A ls X hP hD hS hl
  have hx := X.1.1
  have hb := X.1.2.1
  have hml := X.1.2.2.1
  have hown := X.1.2.2.2.1
  have hts := X.1.2.2.2.2
  have hl : lv_has ls 1 [(0, .float x)] := hl
  unfold f_fbits at hf
  refine lv_fload_n hx hb dJxf58ca_floatToIntBits_5c35a_0 rfl (lv_at hl 0 rfl) ?_
  refine kcS (bs := []) (br := []) (bc := []) (bc' := []) X hP hD hS (c_isNaN l D k t x) ms_Jxf58ca_59 hl [] [] ⟨rfl, rfl⟩ ⟨Nat.le_of_ble_eq_true rfl, Nat.le_of_ble_eq_true rfl⟩ rfl rfl rfl rfl (Nat.le_of_ble_eq_true rfl) dJxf58ca_floatToIntBits_5c35a_1 (fun H locs hP hD hS => ?_)
  refine lv_if_ne (tgt := 12) hx hb dJxf58ca_floatToIntBits_5c35a_4 (by decide) (fun hc => ?_) (fun hc => ?_)
  · have hf := Option.some.inj (ofneg hf hc)
    subst hf
    refine lv_ldc (v := 2143289344) hx hb hown (hts _ (wm_r29 (List.mem_of_getElem? (i := 19) rfl))) dJxf58ca_floatToIntBits_5c35a_12 ?_
    exact kiret (v := 2143289344) X hP hD hS dJxf58ca_floatToIntBits_5c35a_14
  · have hf := Option.some.inj (ofpos hf hc)
    subst hf
    refine lv_fload_n hx hb dJxf58ca_floatToIntBits_5c35a_7 rfl (lv_at hl 0 rfl) ?_
    refine vn_f2i hx hb (hml.trans hl.1.symm) hown (hts _ (wm_r29 (List.mem_of_getElem? (i := 15) rfl))) (hts _ (wm_r29 (List.mem_of_getElem? (i := 16) rfl))) (hts _ (wm_r29 (List.mem_of_getElem? (i := 17) rfl))) (hts _ (wm_r29 (List.mem_of_getElem? (i := 18) rfl))) (Nat.le_of_ble_eq_true rfl) (Nat.le_of_ble_eq_true rfl) dJxf58ca_floatToIntBits_5c35a_8 ?_
    exact kiret X hP hD hS dJxf58ca_floatToIntBits_5c35a_11
theorem kc_X7_241 : Cond.constant RX7 241 (8388608) ∈ ALL := (wm_r29 (List.mem_of_getElem? (i := 5) rfl))
theorem mv_X7_201 : MV RX7 201 0 yX7_bits cX7_bits 1 (some .int) := ⟨⟨(wm_r29 (List.mem_of_getElem? (i := 1) rfl)), (wm_r28 (List.mem_of_getElem? (i := 14) rfl)), (wm_r28 (List.mem_of_getElem? (i := 15) rfl)), (wm_r1 (List.mem_of_getElem? (i := 2) rfl)), (wm_r28 (List.mem_of_getElem? (i := 16) rfl))⟩, by decide +kernel, by decide +kernel, by decide +kernel⟩
theorem ms_X7_203 : MS RX7 203 1 yX7_bitsOfFloat cX7_bitsOfFloat 4 (some .int) := ⟨⟨(wm_r29 (List.mem_of_getElem? (i := 2) rfl)), (wm_r29 (List.mem_of_getElem? (i := 3) rfl)), (wm_r1 (List.mem_of_getElem? (i := 2) rfl)), (wm_r29 (List.mem_of_getElem? (i := 4) rfl))⟩, by decide +kernel, by decide +kernel, by decide +kernel⟩
theorem mv_X8_165 : MV RX8 165 0 yX8_bits cX8_bits 1 (some .int) := ⟨⟨(wm_r29 (List.mem_of_getElem? (i := 10) rfl)), (wm_r28 (List.mem_of_getElem? (i := 18) rfl)), (wm_r28 (List.mem_of_getElem? (i := 19) rfl)), (wm_r1 (List.mem_of_getElem? (i := 5) rfl)), (wm_r28 (List.mem_of_getElem? (i := 20) rfl))⟩, by decide +kernel, by decide +kernel, by decide +kernel⟩
theorem ms_X8_169 : MS RX8 169 1 yJxf58ca_floatToIntBits_5c35a cJxf58ca_floatToIntBits_5c35a 1 (some .int) := ⟨⟨(wm_r29 (List.mem_of_getElem? (i := 11) rfl)), (wm_r29 (List.mem_of_getElem? (i := 12) rfl)), (wm_r29 (List.mem_of_getElem? (i := 13) rfl)), (wm_r29 (List.mem_of_getElem? (i := 14) rfl))⟩, by decide +kernel, by decide +kernel, by decide +kernel⟩
/-! CB_bitsOfFloat: private static int bitsOfFloat(float); -/
abbrev rm_CB_bitsOfFloat : Room := ({ frames := 0, cells := 0, slots := 0, locals := 0 } : Room)
def f_CB_bitsOfFloat_L5 (K28 : UInt32 → Int32 → Option (Int32)) : Nat → UInt32 → Int32 → Option (Int32)
  | 0, _, _ => none
  | n + 1, i1, i2 => if (Op.cmpValue (FP.fcmp i1 FP.fconst2) .l) < 0 then K28 i1 i2 else if 254 ≤ i2 then K28 i1 i2 else if nn32 (FP.fdiv i1 FP.fconst2) = true then f_CB_bitsOfFloat_L5 K28 n (FP.fdiv i1 FP.fconst2) (i2 + 1) else none
def f_CB_bitsOfFloat_J28 (j5 : UInt32) (j6 : Int32) : Option (Int32) := if nn32 (FP.fsub j5 FP.fconst1) = true then if nn32 (FP.fmul (FP.fsub j5 FP.fconst1) (FP.i2f 8388608)) = true then some ((j6 <<< (23 &&& 31)) + (FP.f2i (FP.fmul (FP.fsub j5 FP.fconst1) (FP.i2f 8388608)))) else none else none
def f_CB_bitsOfFloat (N : Nat) (x0 : UInt32) : Option (Int32) := f_CB_bitsOfFloat_L5 (fun i3 i4 => f_CB_bitsOfFloat_J28 i3 i4) N x0 127
abbrev Q_CB_bitsOfFloat (below : List Frame) (D : va_G) (k : Nat → ClassId) (A : Nat → Prop) (args : Array Value) (s : State) (out : Int32) : State → Prop := MQ below (QW D k A (some (.int out)) [].flatten) args s 0 0 A
set_option maxRecDepth 100000 in
set_option maxHeartbeats 8000000 in
theorem w_CB_bitsOfFloat_L5 {p : Program} {l : Launch} {e : Env} {s : State} {m : MethodId} {below : List Frame} {meth : Method} {c : Code} {args : Array Value} {A : Nat → Prop} {D : va_G} {k : Nat → ClassId} {t : Nat → Nat} (X : BX l D k t p s m args meth c cX7_bitsOfFloat 4 RX7 (some .int) A) (N : Nat) (out : Int32) (K28 : UInt32 → Int32 → Option (Int32)) (hK28 : ∀ (i1' : UInt32) (i2' : Int32) (H : Heap) (locs : List Loc) (ls : Array Slot), va_P D vwCl [].flatten H → va_D A [].flatten → va_S A s.heap H locs → lv_has ls 4 [(1, .float i1'), (2, .int i2')] → K28 i1' i2' = some out → W p l e rm_CB_bitsOfFloat s m args below meth c H locs 0 0 (Q_CB_bitsOfFloat below D k A args s out) (F0 m 28 ls [])) : ∀ (n : Nat) (i1 : UInt32) (i2 : Int32) (H : Heap) (locs : List Loc) (ls : Array Slot), va_P D vwCl [].flatten H → va_D A [].flatten → va_S A s.heap H locs → lv_has ls 4 [(1, .float i1), (2, .int i2)] → f_CB_bitsOfFloat_L5 K28 n i1 i2 = some out → W p l e rm_CB_bitsOfFloat s m args below meth c H locs 0 0 (Q_CB_bitsOfFloat below D k A args s out) (F0 m 5 ls []) := by
  have hx := X.1.1
  have hb := X.1.2.1
  have hml := X.1.2.2.1
  have hown := X.1.2.2.2.1
  have hts := X.1.2.2.2.2
  intro n
  induction n with
  | zero =>
    intro i1 i2 H locs ls hP hD hS hl hf
    rw [f_CB_bitsOfFloat_L5] at hf
    cases hf
  | succ n ih =>
    intro i1 i2 H locs ls hP hD hS hl hf
    rw [f_CB_bitsOfFloat_L5] at hf
    refine lv_fload_n hx hb dX7_bitsOfFloat_5 rfl (lv_at hl 0 rfl) ?_
    refine lv_fconst2 hx hb dX7_bitsOfFloat_6 ?_
    refine lv_fcmp hx hb dX7_bitsOfFloat_7 ?_
    refine lv_if_lt (tgt := 28) hx hb dX7_bitsOfFloat_8 (by decide) (fun hc => ?_) (fun hc => ?_)
    · have hf := ofpos hf hc
      exact hK28 i1 i2 _ _ _ hP hD hS (lv_sub hl [0, 1] rfl) hf
    · have hf := ofneg hf hc
      refine lv_iload_n hx hb dX7_bitsOfFloat_11 rfl (lv_at hl 1 rfl) ?_
      refine lv_sipush (v := 254) hx hb dX7_bitsOfFloat_12 (by decide) ?_
      refine lv_icmp_ge (tgt := 28) hx hb dX7_bitsOfFloat_15 (by decide) (fun hc => ?_) (fun hc => ?_)
      · have hf := ofpos hf hc
        exact hK28 i1 i2 _ _ _ hP hD hS (lv_sub hl [0, 1] rfl) hf
      · have hf := ofneg hf hc
        refine lv_fload_n hx hb dX7_bitsOfFloat_18 rfl (lv_at hl 0 rfl) ?_
        refine lv_fconst2 hx hb dX7_bitsOfFloat_19 ?_
        obtain ⟨hz, hf⟩ := ofif hf
        refine lv_fdiv hx hb dX7_bitsOfFloat_20 (nn_v hz) ?_
        refine lv_fstore_n (lv' := [(1, .float (FP.fdiv i1 FP.fconst2)), (2, .int i2)]) hx hb dX7_bitsOfFloat_21 rfl hl (by decide) rfl (fun ls hl => ?_)
        refine lv_iinc (v := i2 + 1) (lv' := [(2, .int (i2 + 1)), (1, .float (FP.fdiv i1 FP.fconst2))]) hx hb dX7_bitsOfFloat_22 hl (k := 1) rfl rfl (by decide) rfl (fun ls hl => ?_)
        refine lv_goto (tgt := 5) hx hb dX7_bitsOfFloat_25 (by decide) ?_
        exact ih (FP.fdiv i1 FP.fconst2) (i2 + 1) _ _ _ hP hD hS (lv_sub hl [1, 0] rfl) hf
set_option maxRecDepth 100000 in
set_option maxHeartbeats 8000000 in
theorem w_CB_bitsOfFloat_J28 {p : Program} {l : Launch} {e : Env} {s : State} {m : MethodId} {below : List Frame} {meth : Method} {c : Code} {args : Array Value} {A : Nat → Prop} {D : va_G} {k : Nat → ClassId} {t : Nat → Nat} (X : BX l D k t p s m args meth c cX7_bitsOfFloat 4 RX7 (some .int) A) (N : Nat) (j5 : UInt32) (j6 : Int32) (out : Int32) : ∀ (H : Heap) (locs : List Loc) (ls : Array Slot), va_P D vwCl [].flatten H → va_D A [].flatten → va_S A s.heap H locs → lv_has ls 4 [(1, .float j5), (2, .int j6)] → f_CB_bitsOfFloat_J28 j5 j6 = some out → W p l e rm_CB_bitsOfFloat s m args below meth c H locs 0 0 (Q_CB_bitsOfFloat below D k A args s out) (F0 m 28 ls []) := by
  have hx := X.1.1
  have hb := X.1.2.1
  have hml := X.1.2.2.1
  have hown := X.1.2.2.2.1
  have hts := X.1.2.2.2.2
  intro H locs ls hP hD hS hl hf
  rw [f_CB_bitsOfFloat_J28] at hf
  refine lv_ldc (v := 8388608) hx hb hown (hts _ kc_X7_241) dX7_bitsOfFloat_28 ?_
  refine lv_istore_n (lv' := [(3, .int 8388608), (1, .float j5), (2, .int j6)]) hx hb dX7_bitsOfFloat_30 rfl hl (by decide) rfl (fun ls hl => ?_)
  refine lv_iload_n hx hb dX7_bitsOfFloat_31 rfl (lv_at hl 2 rfl) ?_
  refine lv_bipush (v := 23) hx hb dX7_bitsOfFloat_32 (by decide) ?_
  refine lv_ishl hx hb dX7_bitsOfFloat_34 ?_
  refine lv_fload_n hx hb dX7_bitsOfFloat_35 rfl (lv_at hl 1 rfl) ?_
  refine lv_fconst1 hx hb dX7_bitsOfFloat_36 ?_
  obtain ⟨hz, hf⟩ := ofif hf
  refine lv_fsub hx hb dX7_bitsOfFloat_37 (nn_v hz) ?_
  refine lv_iload_n hx hb dX7_bitsOfFloat_38 rfl (lv_at hl 0 rfl) ?_
  refine lv_i2f hx hb dX7_bitsOfFloat_39 ?_
  obtain ⟨hz, hf⟩ := ofif hf
  refine lv_fmul hx hb dX7_bitsOfFloat_40 (nn_v hz) ?_
  refine lv_f2i hx hb dX7_bitsOfFloat_41 ?_
  refine lv_iadd hx hb dX7_bitsOfFloat_42 ?_
  have hf := Option.some.inj hf
  subst hf
  exact kiret (v := (j6 <<< (23 &&& 31)) + (FP.f2i (FP.fmul (FP.fsub j5 FP.fconst1) (FP.i2f 8388608)))) X hP hD hS dX7_bitsOfFloat_43
set_option maxRecDepth 100000 in
set_option maxHeartbeats 8000000 in
theorem c_CB_bitsOfFloat (l : Launch) (D : va_G) (k : Nat → ClassId) (t : Nat → Nat) (x0 : UInt32) (N : Nat) (out : Int32) (hf : f_CB_bitsOfFloat N x0 = some out) : CT l D k t yX7_bitsOfFloat cX7_bitsOfFloat 4 (some .int) rm_CB_bitsOfFloat [.float x0] [].flatten (some (.int out)) [].flatten := by
  refine kofW (by decide) (Nat.le_of_ble_eq_true rfl) ?_
  intro p e s m below meth c A ls X hP hD hS hl
  have hx := X.1.1
  have hb := X.1.2.1
  have hml := X.1.2.2.1
  have hown := X.1.2.2.2.1
  have hts := X.1.2.2.2.2
  have hl : lv_has ls 4 [(0, .float x0)] := hl
  rw [f_CB_bitsOfFloat] at hf
  refine lv_fload_n hx hb dX7_bitsOfFloat_0 rfl (lv_at hl 0 rfl) ?_
  refine lv_fstore_n (lv' := [(1, .float x0), (0, .float x0)]) hx hb dX7_bitsOfFloat_1 rfl hl (by decide) rfl (fun ls hl => ?_)
  refine lv_bipush (v := 127) hx hb dX7_bitsOfFloat_2 (by decide) ?_
  refine lv_istore_n (lv' := [(2, .int 127), (1, .float x0), (0, .float x0)]) hx hb dX7_bitsOfFloat_4 rfl hl (by decide) rfl (fun ls hl => ?_)
  refine w_CB_bitsOfFloat_L5 X N out _ ?_ N x0 127 _ _ _ hP hD hS (lv_sub hl [1, 0] rfl) hf
  · intro i3 i4 H locs ls hP hD hS hl hf
    exact w_CB_bitsOfFloat_J28 X N i3 i4 out _ _ _ hP hD hS (lv_sub hl [0, 1] rfl) hf
/-! CB_bitsForEach: public int bitsForEach(); -/
abbrev rm_CB_bitsForEach : Room := ({ frames := 1, cells := 0, slots := 0, locals := 23 } : Room)
def f_CB_bitsForEach (N : Nat) (v_now_form_counters : Int32) (v_now_form_bits : Int32) (v_now_form_countersAbove : Int32) (v_now_flows : Int32) : Option (Int32) := if v_now_flows ≤ 0 then some (-1) else (f_CB_bits v_now_form_counters v_now_form_bits v_now_form_countersAbove).bind (fun r1 => if nn32 (FP.fdiv (FP.i2f r1) (FP.i2f v_now_flows)) = true then (f_CB_bitsOfFloat N (FP.fdiv (FP.i2f r1) (FP.i2f v_now_flows))).bind (fun r2 => some r2) else none)
abbrev Q_CB_bitsForEach (below : List Frame) (D : va_G) (k : Nat → ClassId) (A : Nat → Prop) (args : Array Value) (s : State) (b0 : Nat → Nat) (o0 : Nat) (v_now_form_counters : Int32) (v_now_form_bits : Int32) (v_now_form_functions : Int32) (v_now_form_countersAbove : Int32) (v_now_form_functionsAbove : Int32) (v_now_form_rounds : Int32) (v_now_flows : Int32) (v_now_keys : FI) (v_now_first_truths : FJ) (v_now_first_rests : FI) (v_now_first_marks : FI) (v_now_first_numbers : FJ) (v_now_second_truths : FJ) (v_now_second_rests : FI) (v_now_second_marks : FI) (v_now_second_numbers : FJ) (v_history : HistoryS) (v_text_codes : FI) (v_text_length : Int32) (v_text_itemKeys : FI) (v_text_itemCounts : FI) (v_text_items : Int32) (v_text_newFlows : Int32) (v_text_at : Int32) (v_decoder_overflows_least : FJ) (v_decoder_overflows_greatest : FJ) (v_decoder_overflows_lowerSums : FJ) (v_decoder_overflows_upperSums : FJ) (v_decoder_overflows_lower : FJ) (v_decoder_overflows_upper : FJ) (v_decoder_overflows_places : (Nat → FI)) (v_decoder_overflows_placeCounts : FI) (v_decoder_overflows_things : Int32) (v_decoder_amounts_least : FJ) (v_decoder_amounts_greatest : FJ) (v_decoder_amounts_lowerSums : FJ) (v_decoder_amounts_upperSums : FJ) (v_decoder_amounts_lower : FJ) (v_decoder_amounts_upper : FJ) (v_decoder_amounts_places : (Nat → FI)) (v_decoder_amounts_placeCounts : FI) (v_decoder_amounts_things : Int32) (v_trial_form_counters : Int32) (v_trial_form_bits : Int32) (v_trial_form_functions : Int32) (v_trial_form_countersAbove : Int32) (v_trial_form_functionsAbove : Int32) (v_trial_form_rounds : Int32) (v_trial_flows : Int32) (v_trial_keys : FI) (v_trial_first_truths : FJ) (v_trial_first_rests : FI) (v_trial_first_marks : FI) (v_trial_first_numbers : FJ) (v_trial_second_truths : FJ) (v_trial_second_rests : FI) (v_trial_second_marks : FI) (v_trial_second_numbers : FJ) (out : Int32) : State → Prop := MQ below (QW D k A (some (.int out)) [W_CB k b0 o0 v_now_form_counters v_now_form_bits v_now_form_functions v_now_form_countersAbove v_now_form_functionsAbove v_now_form_rounds v_now_flows v_now_keys v_now_first_truths v_now_first_rests v_now_first_marks v_now_first_numbers v_now_second_truths v_now_second_rests v_now_second_marks v_now_second_numbers v_history v_text_codes v_text_length v_text_itemKeys v_text_itemCounts v_text_items v_text_newFlows v_text_at v_decoder_overflows_least v_decoder_overflows_greatest v_decoder_overflows_lowerSums v_decoder_overflows_upperSums v_decoder_overflows_lower v_decoder_overflows_upper v_decoder_overflows_places v_decoder_overflows_placeCounts v_decoder_overflows_things v_decoder_amounts_least v_decoder_amounts_greatest v_decoder_amounts_lowerSums v_decoder_amounts_upperSums v_decoder_amounts_lower v_decoder_amounts_upper v_decoder_amounts_places v_decoder_amounts_placeCounts v_decoder_amounts_things v_trial_form_counters v_trial_form_bits v_trial_form_functions v_trial_form_countersAbove v_trial_form_functionsAbove v_trial_form_rounds v_trial_flows v_trial_keys v_trial_first_truths v_trial_first_rests v_trial_first_marks v_trial_first_numbers v_trial_second_truths v_trial_second_rests v_trial_second_marks v_trial_second_numbers].flatten) args s 0 0 A
set_option maxRecDepth 100000 in
set_option maxHeartbeats 8000000 in
theorem c_CB_bitsForEach (l : Launch) (D : va_G) (k : Nat → ClassId) (t : Nat → Nat) (b0 : Nat → Nat) (o0 : Nat) (v_now_form_counters : Int32) (v_now_form_bits : Int32) (v_now_form_functions : Int32) (v_now_form_countersAbove : Int32) (v_now_form_functionsAbove : Int32) (v_now_form_rounds : Int32) (v_now_flows : Int32) (v_now_keys : FI) (v_now_first_truths : FJ) (v_now_first_rests : FI) (v_now_first_marks : FI) (v_now_first_numbers : FJ) (v_now_second_truths : FJ) (v_now_second_rests : FI) (v_now_second_marks : FI) (v_now_second_numbers : FJ) (v_history : HistoryS) (v_text_codes : FI) (v_text_length : Int32) (v_text_itemKeys : FI) (v_text_itemCounts : FI) (v_text_items : Int32) (v_text_newFlows : Int32) (v_text_at : Int32) (v_decoder_overflows_least : FJ) (v_decoder_overflows_greatest : FJ) (v_decoder_overflows_lowerSums : FJ) (v_decoder_overflows_upperSums : FJ) (v_decoder_overflows_lower : FJ) (v_decoder_overflows_upper : FJ) (v_decoder_overflows_places : (Nat → FI)) (v_decoder_overflows_placeCounts : FI) (v_decoder_overflows_things : Int32) (v_decoder_amounts_least : FJ) (v_decoder_amounts_greatest : FJ) (v_decoder_amounts_lowerSums : FJ) (v_decoder_amounts_upperSums : FJ) (v_decoder_amounts_lower : FJ) (v_decoder_amounts_upper : FJ) (v_decoder_amounts_places : (Nat → FI)) (v_decoder_amounts_placeCounts : FI) (v_decoder_amounts_things : Int32) (v_trial_form_counters : Int32) (v_trial_form_bits : Int32) (v_trial_form_functions : Int32) (v_trial_form_countersAbove : Int32) (v_trial_form_functionsAbove : Int32) (v_trial_form_rounds : Int32) (v_trial_flows : Int32) (v_trial_keys : FI) (v_trial_first_truths : FJ) (v_trial_first_rests : FI) (v_trial_first_marks : FI) (v_trial_first_numbers : FJ) (v_trial_second_truths : FJ) (v_trial_second_rests : FI) (v_trial_second_marks : FI) (v_trial_second_numbers : FJ) (N : Nat) (out : Int32) (hf : f_CB_bitsForEach N v_now_form_counters v_now_form_bits v_now_form_countersAbove v_now_flows = some out) : CT l D k t yX7_bitsForEach cX7_bitsForEach 2 (some .int) rm_CB_bitsForEach [.ref (b0 o0)] [W_CB k b0 o0 v_now_form_counters v_now_form_bits v_now_form_functions v_now_form_countersAbove v_now_form_functionsAbove v_now_form_rounds v_now_flows v_now_keys v_now_first_truths v_now_first_rests v_now_first_marks v_now_first_numbers v_now_second_truths v_now_second_rests v_now_second_marks v_now_second_numbers v_history v_text_codes v_text_length v_text_itemKeys v_text_itemCounts v_text_items v_text_newFlows v_text_at v_decoder_overflows_least v_decoder_overflows_greatest v_decoder_overflows_lowerSums v_decoder_overflows_upperSums v_decoder_overflows_lower v_decoder_overflows_upper v_decoder_overflows_places v_decoder_overflows_placeCounts v_decoder_overflows_things v_decoder_amounts_least v_decoder_amounts_greatest v_decoder_amounts_lowerSums v_decoder_amounts_upperSums v_decoder_amounts_lower v_decoder_amounts_upper v_decoder_amounts_places v_decoder_amounts_placeCounts v_decoder_amounts_things v_trial_form_counters v_trial_form_bits v_trial_form_functions v_trial_form_countersAbove v_trial_form_functionsAbove v_trial_form_rounds v_trial_flows v_trial_keys v_trial_first_truths v_trial_first_rests v_trial_first_marks v_trial_first_numbers v_trial_second_truths v_trial_second_rests v_trial_second_marks v_trial_second_numbers].flatten (some (.int out)) [W_CB k b0 o0 v_now_form_counters v_now_form_bits v_now_form_functions v_now_form_countersAbove v_now_form_functionsAbove v_now_form_rounds v_now_flows v_now_keys v_now_first_truths v_now_first_rests v_now_first_marks v_now_first_numbers v_now_second_truths v_now_second_rests v_now_second_marks v_now_second_numbers v_history v_text_codes v_text_length v_text_itemKeys v_text_itemCounts v_text_items v_text_newFlows v_text_at v_decoder_overflows_least v_decoder_overflows_greatest v_decoder_overflows_lowerSums v_decoder_overflows_upperSums v_decoder_overflows_lower v_decoder_overflows_upper v_decoder_overflows_places v_decoder_overflows_placeCounts v_decoder_overflows_things v_decoder_amounts_least v_decoder_amounts_greatest v_decoder_amounts_lowerSums v_decoder_amounts_upperSums v_decoder_amounts_lower v_decoder_amounts_upper v_decoder_amounts_places v_decoder_amounts_placeCounts v_decoder_amounts_things v_trial_form_counters v_trial_form_bits v_trial_form_functions v_trial_form_countersAbove v_trial_form_functionsAbove v_trial_form_rounds v_trial_flows v_trial_keys v_trial_first_truths v_trial_first_rests v_trial_first_marks v_trial_first_numbers v_trial_second_truths v_trial_second_rests v_trial_second_marks v_trial_second_numbers].flatten := by
  refine kofW (by decide) (Nat.le_of_ble_eq_true rfl) ?_
  intro p e s m below meth c A ls X hP hD hS hl
  have hx := X.1.1
  have hb := X.1.2.1
  have hml := X.1.2.2.1
  have hown := X.1.2.2.2.1
  have hts := X.1.2.2.2.2
  have hl : lv_has ls 2 [(0, .ref (b0 o0))] := hl
  rw [f_CB_bitsForEach] at hf
  refine lv_aload_n hx hb dX7_bitsForEach_0 rfl (lv_at hl 0 rfl) ?_
  refine kget (v := .ref (b0 (o0+1))) X hP ff_X7_12 0 rfl rfl dX7_bitsForEach_1 ?_
  refine kget (v := .int v_now_flows) X hP ff_X7_83 1 rfl rfl dX7_bitsForEach_4 ?_
  refine lv_istore_n (lv' := [(1, .int v_now_flows), (0, .ref (b0 o0))]) hx hb dX7_bitsForEach_7 rfl hl (by decide) rfl (fun ls hl => ?_)
  refine lv_iload_n hx hb dX7_bitsForEach_8 rfl (lv_at hl 0 rfl) ?_
  refine lv_if_le (tgt := 26) hx hb dX7_bitsForEach_9 (by decide) (fun hc => ?_) (fun hc => ?_)
  · have hf := ofpos hf hc
    refine lv_iconst (v := (-1)) hx hb dX7_bitsForEach_26 (by decide) ?_
    have hf := Option.some.inj hf
    subst hf
    exact kiret (v := (-1)) X hP hD hS dX7_bitsForEach_27
  · have hf := ofneg hf hc
    refine lv_aload_n hx hb dX7_bitsForEach_12 rfl (lv_at hl 1 rfl) ?_
    obtain ⟨r1, hg_r1, hf⟩ := ofbind hf
    refine kcV (bs := [W_CB k b0 o0 v_now_form_counters v_now_form_bits v_now_form_functions v_now_form_countersAbove v_now_form_functionsAbove v_now_form_rounds v_now_flows v_now_keys v_now_first_truths v_now_first_rests v_now_first_marks v_now_first_numbers v_now_second_truths v_now_second_rests v_now_second_marks v_now_second_numbers v_history v_text_codes v_text_length v_text_itemKeys v_text_itemCounts v_text_items v_text_newFlows v_text_at v_decoder_overflows_least v_decoder_overflows_greatest v_decoder_overflows_lowerSums v_decoder_overflows_upperSums v_decoder_overflows_lower v_decoder_overflows_upper v_decoder_overflows_places v_decoder_overflows_placeCounts v_decoder_overflows_things v_decoder_amounts_least v_decoder_amounts_greatest v_decoder_amounts_lowerSums v_decoder_amounts_upperSums v_decoder_amounts_lower v_decoder_amounts_upper v_decoder_amounts_places v_decoder_amounts_placeCounts v_decoder_amounts_things v_trial_form_counters v_trial_form_bits v_trial_form_functions v_trial_form_countersAbove v_trial_form_functionsAbove v_trial_form_rounds v_trial_flows v_trial_keys v_trial_first_truths v_trial_first_rests v_trial_first_marks v_trial_first_numbers v_trial_second_truths v_trial_second_rests v_trial_second_marks v_trial_second_numbers]) (br := []) (bc := [W_CB k b0 o0 v_now_form_counters v_now_form_bits v_now_form_functions v_now_form_countersAbove v_now_form_functionsAbove v_now_form_rounds v_now_flows v_now_keys v_now_first_truths v_now_first_rests v_now_first_marks v_now_first_numbers v_now_second_truths v_now_second_rests v_now_second_marks v_now_second_numbers v_history v_text_codes v_text_length v_text_itemKeys v_text_itemCounts v_text_items v_text_newFlows v_text_at v_decoder_overflows_least v_decoder_overflows_greatest v_decoder_overflows_lowerSums v_decoder_overflows_upperSums v_decoder_overflows_lower v_decoder_overflows_upper v_decoder_overflows_places v_decoder_overflows_placeCounts v_decoder_overflows_things v_decoder_amounts_least v_decoder_amounts_greatest v_decoder_amounts_lowerSums v_decoder_amounts_upperSums v_decoder_amounts_lower v_decoder_amounts_upper v_decoder_amounts_places v_decoder_amounts_placeCounts v_decoder_amounts_things v_trial_form_counters v_trial_form_bits v_trial_form_functions v_trial_form_countersAbove v_trial_form_functionsAbove v_trial_form_rounds v_trial_flows v_trial_keys v_trial_first_truths v_trial_first_rests v_trial_first_marks v_trial_first_numbers v_trial_second_truths v_trial_second_rests v_trial_second_marks v_trial_second_numbers]) (bc' := [W_CB k b0 o0 v_now_form_counters v_now_form_bits v_now_form_functions v_now_form_countersAbove v_now_form_functionsAbove v_now_form_rounds v_now_flows v_now_keys v_now_first_truths v_now_first_rests v_now_first_marks v_now_first_numbers v_now_second_truths v_now_second_rests v_now_second_marks v_now_second_numbers v_history v_text_codes v_text_length v_text_itemKeys v_text_itemCounts v_text_items v_text_newFlows v_text_at v_decoder_overflows_least v_decoder_overflows_greatest v_decoder_overflows_lowerSums v_decoder_overflows_upperSums v_decoder_overflows_lower v_decoder_overflows_upper v_decoder_overflows_places v_decoder_overflows_placeCounts v_decoder_overflows_things v_decoder_amounts_least v_decoder_amounts_greatest v_decoder_amounts_lowerSums v_decoder_amounts_upperSums v_decoder_amounts_lower v_decoder_amounts_upper v_decoder_amounts_places v_decoder_amounts_placeCounts v_decoder_amounts_things v_trial_form_counters v_trial_form_bits v_trial_form_functions v_trial_form_countersAbove v_trial_form_functionsAbove v_trial_form_rounds v_trial_flows v_trial_keys v_trial_first_truths v_trial_first_rests v_trial_first_marks v_trial_first_numbers v_trial_second_truths v_trial_second_rests v_trial_second_marks v_trial_second_numbers]) X hP hD hS (c_CB_bits l D k t b0 o0 v_now_form_counters v_now_form_bits v_now_form_functions v_now_form_countersAbove v_now_form_functionsAbove v_now_form_rounds v_now_flows v_now_keys v_now_first_truths v_now_first_rests v_now_first_marks v_now_first_numbers v_now_second_truths v_now_second_rests v_now_second_marks v_now_second_numbers v_history v_text_codes v_text_length v_text_itemKeys v_text_itemCounts v_text_items v_text_newFlows v_text_at v_decoder_overflows_least v_decoder_overflows_greatest v_decoder_overflows_lowerSums v_decoder_overflows_upperSums v_decoder_overflows_lower v_decoder_overflows_upper v_decoder_overflows_places v_decoder_overflows_placeCounts v_decoder_overflows_things v_decoder_amounts_least v_decoder_amounts_greatest v_decoder_amounts_lowerSums v_decoder_amounts_upperSums v_decoder_amounts_lower v_decoder_amounts_upper v_decoder_amounts_places v_decoder_amounts_placeCounts v_decoder_amounts_things v_trial_form_counters v_trial_form_bits v_trial_form_functions v_trial_form_countersAbove v_trial_form_functionsAbove v_trial_form_rounds v_trial_flows v_trial_keys v_trial_first_truths v_trial_first_rests v_trial_first_marks v_trial_first_numbers v_trial_second_truths v_trial_second_rests v_trial_second_marks v_trial_second_numbers r1 hg_r1) mv_X7_201 hl [] [0] 7 ⟨rfl, rfl⟩ ⟨Nat.le_of_ble_eq_true rfl, Nat.le_of_ble_eq_true rfl⟩ rfl rfl rfl rfl rfl rfl rfl (Nat.le_of_ble_eq_true rfl) dX7_bitsForEach_13 (fun H locs hP hD hS => ?_)
    have hP : va_P D vwCl [W_CB k b0 o0 v_now_form_counters v_now_form_bits v_now_form_functions v_now_form_countersAbove v_now_form_functionsAbove v_now_form_rounds v_now_flows v_now_keys v_now_first_truths v_now_first_rests v_now_first_marks v_now_first_numbers v_now_second_truths v_now_second_rests v_now_second_marks v_now_second_numbers v_history v_text_codes v_text_length v_text_itemKeys v_text_itemCounts v_text_items v_text_newFlows v_text_at v_decoder_overflows_least v_decoder_overflows_greatest v_decoder_overflows_lowerSums v_decoder_overflows_upperSums v_decoder_overflows_lower v_decoder_overflows_upper v_decoder_overflows_places v_decoder_overflows_placeCounts v_decoder_overflows_things v_decoder_amounts_least v_decoder_amounts_greatest v_decoder_amounts_lowerSums v_decoder_amounts_upperSums v_decoder_amounts_lower v_decoder_amounts_upper v_decoder_amounts_places v_decoder_amounts_placeCounts v_decoder_amounts_things v_trial_form_counters v_trial_form_bits v_trial_form_functions v_trial_form_countersAbove v_trial_form_functionsAbove v_trial_form_rounds v_trial_flows v_trial_keys v_trial_first_truths v_trial_first_rests v_trial_first_marks v_trial_first_numbers v_trial_second_truths v_trial_second_rests v_trial_second_marks v_trial_second_numbers].flatten _ := hP
    have hD : va_D A [W_CB k b0 o0 v_now_form_counters v_now_form_bits v_now_form_functions v_now_form_countersAbove v_now_form_functionsAbove v_now_form_rounds v_now_flows v_now_keys v_now_first_truths v_now_first_rests v_now_first_marks v_now_first_numbers v_now_second_truths v_now_second_rests v_now_second_marks v_now_second_numbers v_history v_text_codes v_text_length v_text_itemKeys v_text_itemCounts v_text_items v_text_newFlows v_text_at v_decoder_overflows_least v_decoder_overflows_greatest v_decoder_overflows_lowerSums v_decoder_overflows_upperSums v_decoder_overflows_lower v_decoder_overflows_upper v_decoder_overflows_places v_decoder_overflows_placeCounts v_decoder_overflows_things v_decoder_amounts_least v_decoder_amounts_greatest v_decoder_amounts_lowerSums v_decoder_amounts_upperSums v_decoder_amounts_lower v_decoder_amounts_upper v_decoder_amounts_places v_decoder_amounts_placeCounts v_decoder_amounts_things v_trial_form_counters v_trial_form_bits v_trial_form_functions v_trial_form_countersAbove v_trial_form_functionsAbove v_trial_form_rounds v_trial_flows v_trial_keys v_trial_first_truths v_trial_first_rests v_trial_first_marks v_trial_first_numbers v_trial_second_truths v_trial_second_rests v_trial_second_marks v_trial_second_numbers].flatten := hD
    refine lv_i2f hx hb dX7_bitsForEach_16 ?_
    refine lv_iload_n hx hb dX7_bitsForEach_17 rfl (lv_at hl 0 rfl) ?_
    refine lv_i2f hx hb dX7_bitsForEach_18 ?_
    obtain ⟨hz, hf⟩ := ofif hf
    refine lv_fdiv hx hb dX7_bitsForEach_19 (nn_v hz) ?_
    obtain ⟨r2, hg_r2, hf⟩ := ofbind hf
    refine kcS (bs := [W_CB k b0 o0 v_now_form_counters v_now_form_bits v_now_form_functions v_now_form_countersAbove v_now_form_functionsAbove v_now_form_rounds v_now_flows v_now_keys v_now_first_truths v_now_first_rests v_now_first_marks v_now_first_numbers v_now_second_truths v_now_second_rests v_now_second_marks v_now_second_numbers v_history v_text_codes v_text_length v_text_itemKeys v_text_itemCounts v_text_items v_text_newFlows v_text_at v_decoder_overflows_least v_decoder_overflows_greatest v_decoder_overflows_lowerSums v_decoder_overflows_upperSums v_decoder_overflows_lower v_decoder_overflows_upper v_decoder_overflows_places v_decoder_overflows_placeCounts v_decoder_overflows_things v_decoder_amounts_least v_decoder_amounts_greatest v_decoder_amounts_lowerSums v_decoder_amounts_upperSums v_decoder_amounts_lower v_decoder_amounts_upper v_decoder_amounts_places v_decoder_amounts_placeCounts v_decoder_amounts_things v_trial_form_counters v_trial_form_bits v_trial_form_functions v_trial_form_countersAbove v_trial_form_functionsAbove v_trial_form_rounds v_trial_flows v_trial_keys v_trial_first_truths v_trial_first_rests v_trial_first_marks v_trial_first_numbers v_trial_second_truths v_trial_second_rests v_trial_second_marks v_trial_second_numbers]) (br := [W_CB k b0 o0 v_now_form_counters v_now_form_bits v_now_form_functions v_now_form_countersAbove v_now_form_functionsAbove v_now_form_rounds v_now_flows v_now_keys v_now_first_truths v_now_first_rests v_now_first_marks v_now_first_numbers v_now_second_truths v_now_second_rests v_now_second_marks v_now_second_numbers v_history v_text_codes v_text_length v_text_itemKeys v_text_itemCounts v_text_items v_text_newFlows v_text_at v_decoder_overflows_least v_decoder_overflows_greatest v_decoder_overflows_lowerSums v_decoder_overflows_upperSums v_decoder_overflows_lower v_decoder_overflows_upper v_decoder_overflows_places v_decoder_overflows_placeCounts v_decoder_overflows_things v_decoder_amounts_least v_decoder_amounts_greatest v_decoder_amounts_lowerSums v_decoder_amounts_upperSums v_decoder_amounts_lower v_decoder_amounts_upper v_decoder_amounts_places v_decoder_amounts_placeCounts v_decoder_amounts_things v_trial_form_counters v_trial_form_bits v_trial_form_functions v_trial_form_countersAbove v_trial_form_functionsAbove v_trial_form_rounds v_trial_flows v_trial_keys v_trial_first_truths v_trial_first_rests v_trial_first_marks v_trial_first_numbers v_trial_second_truths v_trial_second_rests v_trial_second_marks v_trial_second_numbers]) (bc := []) (bc' := []) X hP hD hS (c_CB_bitsOfFloat l D k t (FP.fdiv (FP.i2f r1) (FP.i2f v_now_flows)) N r2 hg_r2) ms_X7_203 hl [0] [] ⟨rfl, rfl⟩ ⟨Nat.le_of_ble_eq_true rfl, Nat.le_of_ble_eq_true rfl⟩ rfl rfl rfl rfl (Nat.le_of_ble_eq_true rfl) dX7_bitsForEach_20 (fun H locs hP hD hS => ?_)
    have hP : va_P D vwCl [W_CB k b0 o0 v_now_form_counters v_now_form_bits v_now_form_functions v_now_form_countersAbove v_now_form_functionsAbove v_now_form_rounds v_now_flows v_now_keys v_now_first_truths v_now_first_rests v_now_first_marks v_now_first_numbers v_now_second_truths v_now_second_rests v_now_second_marks v_now_second_numbers v_history v_text_codes v_text_length v_text_itemKeys v_text_itemCounts v_text_items v_text_newFlows v_text_at v_decoder_overflows_least v_decoder_overflows_greatest v_decoder_overflows_lowerSums v_decoder_overflows_upperSums v_decoder_overflows_lower v_decoder_overflows_upper v_decoder_overflows_places v_decoder_overflows_placeCounts v_decoder_overflows_things v_decoder_amounts_least v_decoder_amounts_greatest v_decoder_amounts_lowerSums v_decoder_amounts_upperSums v_decoder_amounts_lower v_decoder_amounts_upper v_decoder_amounts_places v_decoder_amounts_placeCounts v_decoder_amounts_things v_trial_form_counters v_trial_form_bits v_trial_form_functions v_trial_form_countersAbove v_trial_form_functionsAbove v_trial_form_rounds v_trial_flows v_trial_keys v_trial_first_truths v_trial_first_rests v_trial_first_marks v_trial_first_numbers v_trial_second_truths v_trial_second_rests v_trial_second_marks v_trial_second_numbers].flatten _ := hP
    have hD : va_D A [W_CB k b0 o0 v_now_form_counters v_now_form_bits v_now_form_functions v_now_form_countersAbove v_now_form_functionsAbove v_now_form_rounds v_now_flows v_now_keys v_now_first_truths v_now_first_rests v_now_first_marks v_now_first_numbers v_now_second_truths v_now_second_rests v_now_second_marks v_now_second_numbers v_history v_text_codes v_text_length v_text_itemKeys v_text_itemCounts v_text_items v_text_newFlows v_text_at v_decoder_overflows_least v_decoder_overflows_greatest v_decoder_overflows_lowerSums v_decoder_overflows_upperSums v_decoder_overflows_lower v_decoder_overflows_upper v_decoder_overflows_places v_decoder_overflows_placeCounts v_decoder_overflows_things v_decoder_amounts_least v_decoder_amounts_greatest v_decoder_amounts_lowerSums v_decoder_amounts_upperSums v_decoder_amounts_lower v_decoder_amounts_upper v_decoder_amounts_places v_decoder_amounts_placeCounts v_decoder_amounts_things v_trial_form_counters v_trial_form_bits v_trial_form_functions v_trial_form_countersAbove v_trial_form_functionsAbove v_trial_form_rounds v_trial_flows v_trial_keys v_trial_first_truths v_trial_first_rests v_trial_first_marks v_trial_first_numbers v_trial_second_truths v_trial_second_rests v_trial_second_marks v_trial_second_numbers].flatten := hD
    refine lv_goto (tgt := 27) hx hb dX7_bitsForEach_23 (by decide) ?_
    have hf := Option.some.inj hf
    subst hf
    exact kiret (v := r2) X hP hD hS dX7_bitsForEach_27
/-! Model_bitsForEach: public int bitsForEach(); -/
abbrev rm_Model_bitsForEach : Room := ({ frames := 3, cells := 0, slots := 0, locals := 80 } : Room)
def f_Model_bitsForEach (v_row : FI) : Option (Int32) := if ck 6 1002 = true then if (v_row (6 : Int32).toNatClampNeg) = 0 then some (-1) else (f_Model_bits v_row).bind (fun r1 => if ck 6 1002 = true then if nn32 (FP.fdiv (FP.i2f r1) (FP.i2f (v_row (6 : Int32).toNatClampNeg))) = true then (f_fbits (FP.fdiv (FP.i2f r1) (FP.i2f (v_row (6 : Int32).toNatClampNeg)))).bind (fun r2 => some r2) else none else none) else none
abbrev Q_Model_bitsForEach (below : List Frame) (D : va_G) (k : Nat → ClassId) (A : Nat → Prop) (args : Array Value) (s : State) (b0 : Nat → Nat) (o0 : Nat) (v_row : FI) (v_number : FJ) (v_saved : Int32) (v_place : FI) (v_low : FJ) (v_high : FJ) (v_lowBefore : FJ) (v_highBefore : FJ) (v_least : FJ) (v_greatest : FJ) (v_things : Int32) (v_changing : Int32) (v_overLow : FJ) (v_overHigh : FJ) (v_text : FI) (v_length : Int32) (v_at : Int32) (v_readKey : FI) (v_readCount : FJ) (v_keys : Int32) (v_h : Int64) (out : Int32) : State → Prop := MQ below (QW D k A (some (.int out)) [W_Model k b0 o0 v_row v_number v_saved v_place v_low v_high v_lowBefore v_highBefore v_least v_greatest v_things v_changing v_overLow v_overHigh v_text v_length v_at v_readKey v_readCount v_keys v_h].flatten) args s 0 0 A
set_option maxRecDepth 100000 in
set_option maxHeartbeats 8000000 in
theorem c_Model_bitsForEach (l : Launch) (D : va_G) (k : Nat → ClassId) (t : Nat → Nat) (b0 : Nat → Nat) (o0 : Nat) (v_row : FI) (v_number : FJ) (v_saved : Int32) (v_place : FI) (v_low : FJ) (v_high : FJ) (v_lowBefore : FJ) (v_highBefore : FJ) (v_least : FJ) (v_greatest : FJ) (v_things : Int32) (v_changing : Int32) (v_overLow : FJ) (v_overHigh : FJ) (v_text : FI) (v_length : Int32) (v_at : Int32) (v_readKey : FI) (v_readCount : FJ) (v_keys : Int32) (v_h : Int64) (out : Int32) (hf : f_Model_bitsForEach v_row = some out) : CT l D k t yX8_bitsForEach cX8_bitsForEach 1 (some .int) rm_Model_bitsForEach [.ref (b0 o0)] [W_Model k b0 o0 v_row v_number v_saved v_place v_low v_high v_lowBefore v_highBefore v_least v_greatest v_things v_changing v_overLow v_overHigh v_text v_length v_at v_readKey v_readCount v_keys v_h].flatten (some (.int out)) [W_Model k b0 o0 v_row v_number v_saved v_place v_low v_high v_lowBefore v_highBefore v_least v_greatest v_things v_changing v_overLow v_overHigh v_text v_length v_at v_readKey v_readCount v_keys v_h].flatten := by
  refine kofW (by decide) (Nat.le_of_ble_eq_true rfl) ?_
  intro p e s m below meth c A ls X hP hD hS hl
  have N : Nat := 0
  have hx := X.1.1
  have hb := X.1.2.1
  have hml := X.1.2.2.1
  have hown := X.1.2.2.2.1
  have hts := X.1.2.2.2.2
  have hl : lv_has ls 1 [(0, .ref (b0 o0))] := hl
  rw [f_Model_bitsForEach] at hf
  refine lv_aload_n hx hb dX8_bitsForEach_0 rfl (lv_at hl 0 rfl) ?_
  refine kget (v := .ref (b0 (o0+1))) X hP ff_X8_7 0 rfl rfl dX8_bitsForEach_1 ?_
  refine lv_bipush (v := 6) hx hb dX8_bitsForEach_4 (by decide) ?_
  obtain ⟨hc, hf⟩ := ofck hf
  refine kiald (f := v_row) (n := 1002) X hP 1 rfl hc dX8_bitsForEach_6 ?_
  refine lv_if_ne (tgt := 14) hx hb dX8_bitsForEach_7 (by decide) (fun hc => ?_) (fun hc => ?_)
  · have hf := ofneg hf hc
    refine lv_aload_n hx hb dX8_bitsForEach_14 rfl (lv_at hl 0 rfl) ?_
    obtain ⟨r1, hg_r1, hf⟩ := ofbind hf
    refine kcV (bs := [W_Model k b0 o0 v_row v_number v_saved v_place v_low v_high v_lowBefore v_highBefore v_least v_greatest v_things v_changing v_overLow v_overHigh v_text v_length v_at v_readKey v_readCount v_keys v_h]) (br := []) (bc := [W_Model k b0 o0 v_row v_number v_saved v_place v_low v_high v_lowBefore v_highBefore v_least v_greatest v_things v_changing v_overLow v_overHigh v_text v_length v_at v_readKey v_readCount v_keys v_h]) (bc' := [W_Model k b0 o0 v_row v_number v_saved v_place v_low v_high v_lowBefore v_highBefore v_least v_greatest v_things v_changing v_overLow v_overHigh v_text v_length v_at v_readKey v_readCount v_keys v_h]) X hP hD hS (c_Model_bits l D k t b0 o0 v_row v_number v_saved v_place v_low v_high v_lowBefore v_highBefore v_least v_greatest v_things v_changing v_overLow v_overHigh v_text v_length v_at v_readKey v_readCount v_keys v_h r1 hg_r1) mv_X8_165 hl [] [0] 8 ⟨rfl, rfl⟩ ⟨Nat.le_of_ble_eq_true rfl, Nat.le_of_ble_eq_true rfl⟩ rfl rfl rfl rfl rfl rfl rfl (Nat.le_of_ble_eq_true rfl) dX8_bitsForEach_15 (fun H locs hP hD hS => ?_)
    have hP : va_P D vwCl [W_Model k b0 o0 v_row v_number v_saved v_place v_low v_high v_lowBefore v_highBefore v_least v_greatest v_things v_changing v_overLow v_overHigh v_text v_length v_at v_readKey v_readCount v_keys v_h].flatten _ := hP
    have hD : va_D A [W_Model k b0 o0 v_row v_number v_saved v_place v_low v_high v_lowBefore v_highBefore v_least v_greatest v_things v_changing v_overLow v_overHigh v_text v_length v_at v_readKey v_readCount v_keys v_h].flatten := hD
    refine lv_i2f hx hb dX8_bitsForEach_18 ?_
    refine lv_aload_n hx hb dX8_bitsForEach_19 rfl (lv_at hl 0 rfl) ?_
    refine kget (v := .ref (b0 (o0+1))) X hP ff_X8_7 0 rfl rfl dX8_bitsForEach_20 ?_
    refine lv_bipush (v := 6) hx hb dX8_bitsForEach_23 (by decide) ?_
    obtain ⟨hc, hf⟩ := ofck hf
    refine kiald (f := v_row) (n := 1002) X hP 1 rfl hc dX8_bitsForEach_25 ?_
    refine lv_i2f hx hb dX8_bitsForEach_26 ?_
    obtain ⟨hz, hf⟩ := ofif hf
    refine lv_fdiv hx hb dX8_bitsForEach_27 (nn_v hz) ?_
    obtain ⟨r2, hg_r2, hf⟩ := ofbind hf
    refine kcS (bs := [W_Model k b0 o0 v_row v_number v_saved v_place v_low v_high v_lowBefore v_highBefore v_least v_greatest v_things v_changing v_overLow v_overHigh v_text v_length v_at v_readKey v_readCount v_keys v_h]) (br := [W_Model k b0 o0 v_row v_number v_saved v_place v_low v_high v_lowBefore v_highBefore v_least v_greatest v_things v_changing v_overLow v_overHigh v_text v_length v_at v_readKey v_readCount v_keys v_h]) (bc := []) (bc' := []) X hP hD hS (c_fbits l D k t (FP.fdiv (FP.i2f r1) (FP.i2f (v_row (6 : Int32).toNatClampNeg))) r2 hg_r2) ms_X8_169 hl [0] [] ⟨rfl, rfl⟩ ⟨Nat.le_of_ble_eq_true rfl, Nat.le_of_ble_eq_true rfl⟩ rfl rfl rfl rfl (Nat.le_of_ble_eq_true rfl) dX8_bitsForEach_28 (fun H locs hP hD hS => ?_)
    have hP : va_P D vwCl [W_Model k b0 o0 v_row v_number v_saved v_place v_low v_high v_lowBefore v_highBefore v_least v_greatest v_things v_changing v_overLow v_overHigh v_text v_length v_at v_readKey v_readCount v_keys v_h].flatten _ := hP
    have hD : va_D A [W_Model k b0 o0 v_row v_number v_saved v_place v_low v_high v_lowBefore v_highBefore v_least v_greatest v_things v_changing v_overLow v_overHigh v_text v_length v_at v_readKey v_readCount v_keys v_h].flatten := hD
    have hf := Option.some.inj hf
    subst hf
    exact kiret (v := r2) X hP hD hS dX8_bitsForEach_31
  · have hf := ofpos hf hc
    refine lv_iconst (v := (-1)) hx hb dX8_bitsForEach_10 (by decide) ?_
    refine lv_goto (tgt := 31) hx hb dX8_bitsForEach_11 (by decide) ?_
    have hf := Option.some.inj hf
    subst hf
    exact kiret (v := (-1)) X hP hD hS dX8_bitsForEach_31
