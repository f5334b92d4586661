/-! Bounds_narrow: int narrow(int); -/
abbrev rm_Bounds_narrow : Room := ({ frames := 3, cells := 0, slots := 0, locals := 68 } : Room)
def f_Bounds_narrow_L2 (N : Nat) (i2 : Int32) (v_least : FJ) (v_greatest : FJ) (v_places : (Nat → FI)) (v_placeCounts : FI) (v_things : Int32) (K24 : Int32 → FJ → FJ → FJ → FJ → Option (Int32 × FJ × FJ × FJ × FJ)) : Nat → Int32 → FJ → FJ → FJ → FJ → Option (Int32 × FJ × FJ × FJ × FJ)
  | 0, _, _, _, _, _ => none
  | n + 1, i3, c4, c5, c6, c7 => if i2 < i3 then K24 i3 c4 c5 c6 c7 else (f_Bounds_narrowOnce N v_least v_greatest c4 c5 c6 c7 v_places v_placeCounts v_things).bind (fun r8 => if r8.1 = 0 then some (i3 - 1, r8.2.1, r8.2.2.1, r8.2.2.2.1, r8.2.2.2.2) else f_Bounds_narrow_L2 N i2 v_least v_greatest v_places v_placeCounts v_things K24 n (i3 + 1) r8.2.1 r8.2.2.1 r8.2.2.2.1 r8.2.2.2.2)
def f_Bounds_narrow (N : Nat) (x1 : Int32) (v_least : FJ) (v_greatest : FJ) (v_lowerSums : FJ) (v_upperSums : FJ) (v_lower : FJ) (v_upper : FJ) (v_places : (Nat → FI)) (v_placeCounts : FI) (v_things : Int32) : Option (Int32 × FJ × FJ × FJ × FJ) := f_Bounds_narrow_L2 N x1 v_least v_greatest v_places v_placeCounts v_things (fun i9 c10 c11 c12 c13 => some (x1, c10, c11, c12, c13)) N 1 v_lowerSums v_upperSums v_lower v_upper
abbrev Q_Bounds_narrow (below : List Frame) (D : va_G) (k : Nat → ClassId) (A : Nat → Prop) (args : Array Value) (s : State) (b0 : Nat → Nat) (o0 : Nat) (v_least : FJ) (v_greatest : FJ) (v_lowerSums : FJ) (v_upperSums : FJ) (v_lower : FJ) (v_upper : FJ) (v_places : (Nat → FI)) (v_placeCounts : FI) (v_things : Int32) (out : Int32 × FJ × FJ × FJ × FJ) : State → Prop := MQ below (QW D k A (some (.int out.1)) [W_Bounds k b0 o0 v_least v_greatest out.2.1 out.2.2.1 out.2.2.2.1 out.2.2.2.2 v_places v_placeCounts v_things].flatten) args s 0 0 A
set_option maxRecDepth 100000 in
set_option maxHeartbeats 1000000 in
theorem w_Bounds_narrow_L2 {p : Program} {l : Launch} {e : Env} {s : State} {m : MethodId} {below : List Frame} {meth : Method} {c : Code} {args : Array Value} {A : Nat → Prop} {D : va_G} {k : Nat → ClassId} {t : Nat → Nat} (X : BX l D k t p s m args meth c cX0_narrow 3 RX0 (some .int) A) (b0 : Nat → Nat) (o0 : Nat) (v_least : FJ) (v_greatest : FJ) (v_lowerSums : FJ) (v_upperSums : FJ) (v_lower : FJ) (v_upper : FJ) (v_places : (Nat → FI)) (v_placeCounts : FI) (v_things : Int32) (N : Nat) (i2 : Int32) (out : Int32 × FJ × FJ × FJ × FJ) (K24 : Int32 → FJ → FJ → FJ → FJ → Option (Int32 × FJ × FJ × FJ × FJ)) (hK24 : ∀ (i3' : Int32) (c4' : FJ) (c5' : FJ) (c6' : FJ) (c7' : FJ) (H : Heap) (locs : List Loc) (ls : Array Slot), va_P D vwCl [W_Bounds k b0 o0 v_least v_greatest c4' c5' c6' c7' v_places v_placeCounts v_things].flatten H → va_D A [W_Bounds k b0 o0 v_least v_greatest c4' c5' c6' c7' v_places v_placeCounts v_things].flatten → va_S A s.heap H locs → lv_has ls 3 [(1, .int i2)] → K24 i3' c4' c5' c6' c7' = some out → W p l e rm_Bounds_narrow s m args below meth c H locs 0 0 (Q_Bounds_narrow below D k A args s b0 o0 v_least v_greatest v_lowerSums v_upperSums v_lower v_upper v_places v_placeCounts v_things out) (F0 m 24 ls [])) : ∀ (n : Nat) (i3 : Int32) (c4 : FJ) (c5 : FJ) (c6 : FJ) (c7 : FJ) (H : Heap) (locs : List Loc) (ls : Array Slot), va_P D vwCl [W_Bounds k b0 o0 v_least v_greatest c4 c5 c6 c7 v_places v_placeCounts v_things].flatten H → va_D A [W_Bounds k b0 o0 v_least v_greatest c4 c5 c6 c7 v_places v_placeCounts v_things].flatten → va_S A s.heap H locs → lv_has ls 3 [(0, .ref (b0 o0)), (1, .int i2), (2, .int i3)] → f_Bounds_narrow_L2 N i2 v_least v_greatest v_places v_placeCounts v_things K24 n i3 c4 c5 c6 c7 = some out → W p l e rm_Bounds_narrow s m args below meth c H locs 0 0 (Q_Bounds_narrow below D k A args s b0 o0 v_least v_greatest v_lowerSums v_upperSums v_lower v_upper v_places v_placeCounts v_things out) (F0 m 2 ls []) := by
  have hx := X.1.1
  have hb := X.1.2.1
  have hml := X.1.2.2.1
  have hown := X.1.2.2.2.1
  have hts := X.1.2.2.2.2
  intro n
  induction n with
  | zero =>
    intro i3 c4 c5 c6 c7 H locs ls hP hD hS hl hf
    rw [f_Bounds_narrow_L2] at hf
    cases hf
  | succ n ih =>
    intro i3 c4 c5 c6 c7 H locs ls hP hD hS hl hf
    rw [f_Bounds_narrow_L2] at hf
    refine lv_iload_n hx hb dX0_narrow_2 rfl (lv_at hl 2 rfl) ?_
    refine lv_iload_n hx hb dX0_narrow_3 rfl (lv_at hl 1 rfl) ?_
    refine lv_icmp_gt (tgt := 24) hx hb dX0_narrow_4 (by decide) (fun hc => ?_) (fun hc => ?_)
    · have hf := ofpos hf hc
      exact hK24 i3 c4 c5 c6 c7 _ _ _ hP hD hS (lv_sub hl [1] rfl) hf
    · have hf := ofneg hf hc
      refine lv_aload_n hx hb dX0_narrow_7 rfl (lv_at hl 0 rfl) ?_
      obtain ⟨r8, hg_r8, hf⟩ := ofbind hf
      refine kcV (bs := [W_Bounds k b0 o0 v_least v_greatest c4 c5 c6 c7 v_places v_placeCounts v_things]) (br := []) (bc := [W_Bounds k b0 o0 v_least v_greatest c4 c5 c6 c7 v_places v_placeCounts v_things]) (bc' := [W_Bounds k b0 o0 v_least v_greatest r8.2.1 r8.2.2.1 r8.2.2.2.1 r8.2.2.2.2 v_places v_placeCounts v_things]) X hP hD hS (c_Bounds_narrowOnce l D k t b0 o0 v_least v_greatest c4 c5 c6 c7 v_places v_placeCounts v_things N r8 hg_r8) mv_X0_53 hl [] [0] 0 ⟨rfl, rfl⟩ ⟨Nat.le_of_ble_eq_true rfl, Nat.le_of_ble_eq_true rfl⟩ rfl rfl rfl rfl rfl rfl rfl (Nat.le_of_ble_eq_true rfl) dX0_narrow_8 (fun H locs hP hD hS => ?_)
      have hP : va_P D vwCl [W_Bounds k b0 o0 v_least v_greatest r8.2.1 r8.2.2.1 r8.2.2.2.1 r8.2.2.2.2 v_places v_placeCounts v_things].flatten _ := hP
      have hD : va_D A [W_Bounds k b0 o0 v_least v_greatest r8.2.1 r8.2.2.1 r8.2.2.2.1 r8.2.2.2.2 v_places v_placeCounts v_things].flatten := hD
      refine lv_if_ne (tgt := 18) hx hb dX0_narrow_11 (by decide) (fun hc => ?_) (fun hc => ?_)
      · have hf := ofneg hf hc
        refine lv_iinc (v := i3 + 1) (lv' := [(2, .int (i3 + 1)), (0, .ref (b0 o0)), (1, .int i2)]) hx hb dX0_narrow_18 hl (k := 2) rfl rfl (by decide) rfl (fun ls hl => ?_)
        refine lv_goto (tgt := 2) hx hb dX0_narrow_21 (by decide) ?_
        exact ih (i3 + 1) r8.2.1 r8.2.2.1 r8.2.2.2.1 r8.2.2.2.2 _ _ _ hP hD hS (lv_sub hl [1, 2, 0] rfl) hf
      · have hf := ofpos hf hc
        refine lv_iload_n hx hb dX0_narrow_14 rfl (lv_at hl 2 rfl) ?_
        refine lv_iconst (v := 1) hx hb dX0_narrow_15 (by decide) ?_
        refine lv_isub hx hb dX0_narrow_16 ?_
        have hf := Option.some.inj hf
        subst hf
        exact kiret (v := i3 - 1) X hP hD hS dX0_narrow_17
set_option maxRecDepth 100000 in
set_option maxHeartbeats 1000000 in
theorem c_Bounds_narrow (l : Launch) (D : va_G) (k : Nat → ClassId) (t : Nat → Nat) (b0 : Nat → Nat) (o0 : Nat) (v_least : FJ) (v_greatest : FJ) (v_lowerSums : FJ) (v_upperSums : FJ) (v_lower : FJ) (v_upper : FJ) (v_places : (Nat → FI)) (v_placeCounts : FI) (v_things : Int32) (x1 : Int32) (N : Nat) (out : Int32 × FJ × FJ × FJ × FJ) (hf : f_Bounds_narrow N x1 v_least v_greatest v_lowerSums v_upperSums v_lower v_upper v_places v_placeCounts v_things = some out) : CT l D k t yX0_narrow cX0_narrow 3 (some .int) rm_Bounds_narrow [.ref (b0 o0), .int x1] [W_Bounds k b0 o0 v_least v_greatest v_lowerSums v_upperSums v_lower v_upper v_places v_placeCounts v_things].flatten (some (.int out.1)) [W_Bounds k b0 o0 v_least v_greatest out.2.1 out.2.2.1 out.2.2.2.1 out.2.2.2.2 v_places v_placeCounts v_things].flatten := by
  refine kofW (by decide) (Nat.le_of_ble_eq_true rfl) ?_
  intro p e s m below meth c A ls X hP hD hS hl
  have hx := X.1.1
  have hb := X.1.2.1
  have hml := X.1.2.2.1
  have hown := X.1.2.2.2.1
  have hts := X.1.2.2.2.2
  have hl : lv_has ls 3 [(0, .ref (b0 o0)), (1, .int x1)] := hl
  rw [f_Bounds_narrow] at hf
  refine lv_iconst (v := 1) hx hb dX0_narrow_0 (by decide) ?_
  refine lv_istore_n (lv' := [(2, .int 1), (0, .ref (b0 o0)), (1, .int x1)]) hx hb dX0_narrow_1 rfl hl (by decide) rfl (fun ls hl => ?_)
  refine w_Bounds_narrow_L2 X b0 o0 v_least v_greatest v_lowerSums v_upperSums v_lower v_upper v_places v_placeCounts v_things N x1 out _ ?_ N 1 v_lowerSums v_upperSums v_lower v_upper _ _ _ hP hD hS (lv_sub hl [1, 2, 0] rfl) hf
  · intro i9 c10 c11 c12 c13 H locs ls hP hD hS hl hf
    refine lv_iload_n hx hb dX0_narrow_24 rfl (lv_at hl 0 rfl) ?_
    have hf := Option.some.inj hf
    subst hf
    exact kiret (v := x1) X hP hD hS dX0_narrow_25
/-! Bounds_boundOf: long boundOf(int, boolean); -/
abbrev rm_Bounds_boundOf : Room := ({ frames := 0, cells := 0, slots := 0, locals := 0 } : Room)
def f_Bounds_boundOf (x1 : Int32) (x2 : Int32) (v_lower : FJ) (v_upper : FJ) : Option (Int64) := if x2 = 0 then if ck x1 24 = true then some (v_lower x1.toNatClampNeg) else none else if ck x1 24 = true then some (v_upper x1.toNatClampNeg) else none
abbrev Q_Bounds_boundOf (below : List Frame) (D : va_G) (k : Nat → ClassId) (A : Nat → Prop) (args : Array Value) (s : State) (b0 : Nat → Nat) (o0 : Nat) (v_least : FJ) (v_greatest : FJ) (v_lowerSums : FJ) (v_upperSums : FJ) (v_lower : FJ) (v_upper : FJ) (v_places : (Nat → FI)) (v_placeCounts : FI) (v_things : Int32) (out : Int64) : State → Prop := MQ below (QW D k A (some (.long out)) [W_Bounds k b0 o0 v_least v_greatest v_lowerSums v_upperSums v_lower v_upper v_places v_placeCounts v_things].flatten) args s 0 0 A
set_option maxRecDepth 100000 in
set_option maxHeartbeats 1000000 in
theorem c_Bounds_boundOf (l : Launch) (D : va_G) (k : Nat → ClassId) (t : Nat → Nat) (b0 : Nat → Nat) (o0 : Nat) (v_least : FJ) (v_greatest : FJ) (v_lowerSums : FJ) (v_upperSums : FJ) (v_lower : FJ) (v_upper : FJ) (v_places : (Nat → FI)) (v_placeCounts : FI) (v_things : Int32) (x1 : Int32) (x2 : Int32) (out : Int64) (hf : f_Bounds_boundOf x1 x2 v_lower v_upper = some out) : CT l D k t yX0_boundOf cX0_boundOf 3 (some .long) rm_Bounds_boundOf [.ref (b0 o0), .int x1, .int x2] [W_Bounds k b0 o0 v_least v_greatest v_lowerSums v_upperSums v_lower v_upper v_places v_placeCounts v_things].flatten (some (.long out)) [W_Bounds k b0 o0 v_least v_greatest v_lowerSums v_upperSums v_lower v_upper v_places v_placeCounts v_things].flatten := by
  refine kofW (by decide) (Nat.le_of_ble_eq_true rfl) ?_
  intro p e s m below meth c A ls X hP hD hS hl
  have N : Nat := 0
  have hx := X.1.1
  have hb := X.1.2.1
  have hml := X.1.2.2.1
  have hown := X.1.2.2.2.1
  have hts := X.1.2.2.2.2
  have hl : lv_has ls 3 [(0, .ref (b0 o0)), (1, .int x1), (2, .int x2)] := hl
  rw [f_Bounds_boundOf] at hf
  refine lv_iload_n hx hb dX0_boundOf_0 rfl (lv_at hl 2 rfl) ?_
  refine lv_if_eq (tgt := 13) hx hb dX0_boundOf_1 (by decide) (fun hc => ?_) (fun hc => ?_)
  · have hf := ofpos hf hc
    refine lv_aload_n hx hb dX0_boundOf_13 rfl (lv_at hl 0 rfl) ?_
    refine kget (v := .ref (b0 (o0+5))) X hP ff_X0_24 0 rfl rfl dX0_boundOf_14 ?_
    refine lv_iload_n hx hb dX0_boundOf_17 rfl (lv_at hl 1 rfl) ?_
    obtain ⟨hc, hf⟩ := ofck hf
    refine klald (f := v_lower) (n := 24) X hP 5 rfl hc dX0_boundOf_18 ?_
    have hf := Option.some.inj hf
    subst hf
    exact klret (v := v_lower x1.toNatClampNeg) X hP hD hS dX0_boundOf_19
  · have hf := ofneg hf hc
    refine lv_aload_n hx hb dX0_boundOf_4 rfl (lv_at hl 0 rfl) ?_
    refine kget (v := .ref (b0 (o0+6))) X hP ff_X0_27 0 rfl rfl dX0_boundOf_5 ?_
    refine lv_iload_n hx hb dX0_boundOf_8 rfl (lv_at hl 1 rfl) ?_
    obtain ⟨hc, hf⟩ := ofck hf
    refine klald (f := v_upper) (n := 24) X hP 6 rfl hc dX0_boundOf_9 ?_
    refine lv_goto (tgt := 19) hx hb dX0_boundOf_10 (by decide) ?_
    have hf := Option.some.inj hf
    subst hf
    exact klret (v := v_upper x1.toNatClampNeg) X hP hD hS dX0_boundOf_19
/-! Bounds_certainThings: int certainThings(); -/
abbrev rm_Bounds_certainThings : Room := ({ frames := 0, cells := 0, slots := 0, locals := 0 } : Room)
def f_Bounds_certainThings_L4 (v_lower : FJ) (v_upper : FJ) (v_things : Int32) (K40 : Int32 → Int32 → Option (Int32)) : Nat → Int32 → Int32 → Option (Int32)
  | 0, _, _ => none
  | n + 1, i1, i2 => if v_things ≤ i2 then K40 i1 i2 else if ck i2 24 = true then if ck i2 24 = true then if (v_lower i2.toNatClampNeg) = (v_upper i2.toNatClampNeg) then f_Bounds_certainThings_L4 v_lower v_upper v_things K40 n (i1 ||| (1 <<< (i2 &&& 31))) (i2 + 1) else f_Bounds_certainThings_L4 v_lower v_upper v_things K40 n i1 (i2 + 1) else none else none
def f_Bounds_certainThings (N : Nat) (v_lower : FJ) (v_upper : FJ) (v_things : Int32) : Option (Int32) := f_Bounds_certainThings_L4 v_lower v_upper v_things (fun i3 i4 => some i3) N 0 0
abbrev Q_Bounds_certainThings (below : List Frame) (D : va_G) (k : Nat → ClassId) (A : Nat → Prop) (args : Array Value) (s : State) (b0 : Nat → Nat) (o0 : Nat) (v_least : FJ) (v_greatest : FJ) (v_lowerSums : FJ) (v_upperSums : FJ) (v_lower : FJ) (v_upper : FJ) (v_places : (Nat → FI)) (v_placeCounts : FI) (v_things : Int32) (out : Int32) : State → Prop := MQ below (QW D k A (some (.int out)) [W_Bounds k b0 o0 v_least v_greatest v_lowerSums v_upperSums v_lower v_upper v_places v_placeCounts v_things].flatten) args s 0 0 A
set_option maxRecDepth 100000 in
set_option maxHeartbeats 1000000 in
theorem w_Bounds_certainThings_L4 {p : Program} {l : Launch} {e : Env} {s : State} {m : MethodId} {below : List Frame} {meth : Method} {c : Code} {args : Array Value} {A : Nat → Prop} {D : va_G} {k : Nat → ClassId} {t : Nat → Nat} (X : BX l D k t p s m args meth c cX0_certainThings 3 RX0 (some .int) A) (b0 : Nat → Nat) (o0 : Nat) (v_least : FJ) (v_greatest : FJ) (v_lowerSums : FJ) (v_upperSums : FJ) (v_lower : FJ) (v_upper : FJ) (v_places : (Nat → FI)) (v_placeCounts : FI) (v_things : Int32) (N : Nat) (out : Int32) (K40 : Int32 → Int32 → Option (Int32)) (hK40 : ∀ (i1' : Int32) (i2' : Int32) (H : Heap) (locs : List Loc) (ls : Array Slot), va_P D vwCl [W_Bounds k b0 o0 v_least v_greatest v_lowerSums v_upperSums v_lower v_upper v_places v_placeCounts v_things].flatten H → va_D A [W_Bounds k b0 o0 v_least v_greatest v_lowerSums v_upperSums v_lower v_upper v_places v_placeCounts v_things].flatten → va_S A s.heap H locs → lv_has ls 3 [(1, .int i1')] → K40 i1' i2' = some out → W p l e rm_Bounds_certainThings s m args below meth c H locs 0 0 (Q_Bounds_certainThings below D k A args s b0 o0 v_least v_greatest v_lowerSums v_upperSums v_lower v_upper v_places v_placeCounts v_things out) (F0 m 40 ls [])) : ∀ (n : Nat) (i1 : Int32) (i2 : Int32) (H : Heap) (locs : List Loc) (ls : Array Slot), va_P D vwCl [W_Bounds k b0 o0 v_least v_greatest v_lowerSums v_upperSums v_lower v_upper v_places v_placeCounts v_things].flatten H → va_D A [W_Bounds k b0 o0 v_least v_greatest v_lowerSums v_upperSums v_lower v_upper v_places v_placeCounts v_things].flatten → va_S A s.heap H locs → lv_has ls 3 [(0, .ref (b0 o0)), (1, .int i1), (2, .int i2)] → f_Bounds_certainThings_L4 v_lower v_upper v_things K40 n i1 i2 = some out → W p l e rm_Bounds_certainThings s m args below meth c H locs 0 0 (Q_Bounds_certainThings below D k A args s b0 o0 v_least v_greatest v_lowerSums v_upperSums v_lower v_upper v_places v_placeCounts v_things out) (F0 m 4 ls []) := by
  have hx := X.1.1
  have hb := X.1.2.1
  have hml := X.1.2.2.1
  have hown := X.1.2.2.2.1
  have hts := X.1.2.2.2.2
  intro n
  induction n with
  | zero =>
    intro i1 i2 H locs ls hP hD hS hl hf
    rw [f_Bounds_certainThings_L4] at hf
    cases hf
  | succ n ih =>
    intro i1 i2 H locs ls hP hD hS hl hf
    rw [f_Bounds_certainThings_L4] at hf
    refine lv_iload_n hx hb dX0_certainThings_4 rfl (lv_at hl 2 rfl) ?_
    refine lv_aload_n hx hb dX0_certainThings_5 rfl (lv_at hl 0 rfl) ?_
    refine kget (v := .int v_things) X hP ff_X0_39 0 rfl rfl dX0_certainThings_6 ?_
    refine lv_icmp_ge (tgt := 40) hx hb dX0_certainThings_9 (by decide) (fun hc => ?_) (fun hc => ?_)
    · have hf := ofpos hf hc
      exact hK40 i1 i2 _ _ _ hP hD hS (lv_sub hl [1] rfl) hf
    · have hf := ofneg hf hc
      refine lv_aload_n hx hb dX0_certainThings_12 rfl (lv_at hl 0 rfl) ?_
      refine kget (v := .ref (b0 (o0+5))) X hP ff_X0_24 0 rfl rfl dX0_certainThings_13 ?_
      refine lv_iload_n hx hb dX0_certainThings_16 rfl (lv_at hl 2 rfl) ?_
      obtain ⟨hc, hf⟩ := ofck hf
      refine klald (f := v_lower) (n := 24) X hP 5 rfl hc dX0_certainThings_17 ?_
      refine lv_aload_n hx hb dX0_certainThings_18 rfl (lv_at hl 0 rfl) ?_
      refine kget (v := .ref (b0 (o0+6))) X hP ff_X0_27 0 rfl rfl dX0_certainThings_19 ?_
      refine lv_iload_n hx hb dX0_certainThings_22 rfl (lv_at hl 2 rfl) ?_
      obtain ⟨hc, hf⟩ := ofck hf
      refine klald (f := v_upper) (n := 24) X hP 6 rfl hc dX0_certainThings_23 ?_
      refine W.lcmp hx hb dX0_certainThings_24 ?_
      refine lv_if_ne (tgt := 34) hx hb dX0_certainThings_25 (by decide) (fun hc => ?_) (fun hc => ?_)
      · have hc := fun z => hc (lgq.mpr z)
        have hf := ofneg hf hc
        refine lv_iinc (v := i2 + 1) (lv' := [(2, .int (i2 + 1)), (0, .ref (b0 o0)), (1, .int i1)]) hx hb dX0_certainThings_34 hl (k := 2) rfl rfl (by decide) rfl (fun ls hl => ?_)
        refine lv_goto (tgt := 4) hx hb dX0_certainThings_37 (by decide) ?_
        exact ih i1 (i2 + 1) _ _ _ hP hD hS (lv_sub hl [1, 2, 0] rfl) hf
      · have hc := lgq.mp hc
        have hf := ofpos hf hc
        refine lv_iload_n hx hb dX0_certainThings_28 rfl (lv_at hl 1 rfl) ?_
        refine lv_iconst (v := 1) hx hb dX0_certainThings_29 (by decide) ?_
        refine lv_iload_n hx hb dX0_certainThings_30 rfl (lv_at hl 2 rfl) ?_
        refine lv_ishl hx hb dX0_certainThings_31 ?_
        refine lv_ior hx hb dX0_certainThings_32 ?_
        refine lv_istore_n (lv' := [(1, .int (i1 ||| (1 <<< (i2 &&& 31)))), (0, .ref (b0 o0)), (2, .int i2)]) hx hb dX0_certainThings_33 rfl hl (by decide) rfl (fun ls hl => ?_)
        refine lv_iinc (v := i2 + 1) (lv' := [(2, .int (i2 + 1)), (1, .int (i1 ||| (1 <<< (i2 &&& 31)))), (0, .ref (b0 o0))]) hx hb dX0_certainThings_34 hl (k := 2) rfl rfl (by decide) rfl (fun ls hl => ?_)
        refine lv_goto (tgt := 4) hx hb dX0_certainThings_37 (by decide) ?_
        exact ih (i1 ||| (1 <<< (i2 &&& 31))) (i2 + 1) _ _ _ hP hD hS (lv_sub hl [2, 1, 0] rfl) hf
set_option maxRecDepth 100000 in
set_option maxHeartbeats 1000000 in
theorem c_Bounds_certainThings (l : Launch) (D : va_G) (k : Nat → ClassId) (t : Nat → Nat) (b0 : Nat → Nat) (o0 : Nat) (v_least : FJ) (v_greatest : FJ) (v_lowerSums : FJ) (v_upperSums : FJ) (v_lower : FJ) (v_upper : FJ) (v_places : (Nat → FI)) (v_placeCounts : FI) (v_things : Int32) (N : Nat) (out : Int32) (hf : f_Bounds_certainThings N v_lower v_upper v_things = some out) : CT l D k t yX0_certainThings cX0_certainThings 3 (some .int) rm_Bounds_certainThings [.ref (b0 o0)] [W_Bounds k b0 o0 v_least v_greatest v_lowerSums v_upperSums v_lower v_upper v_places v_placeCounts v_things].flatten (some (.int out)) [W_Bounds k b0 o0 v_least v_greatest v_lowerSums v_upperSums v_lower v_upper v_places v_placeCounts v_things].flatten := by
  refine kofW (by decide) (Nat.le_of_ble_eq_true rfl) ?_
  intro p e s m below meth c A ls X hP hD hS hl
  have hx := X.1.1
  have hb := X.1.2.1
  have hml := X.1.2.2.1
  have hown := X.1.2.2.2.1
  have hts := X.1.2.2.2.2
  have hl : lv_has ls 3 [(0, .ref (b0 o0))] := hl
  rw [f_Bounds_certainThings] at hf
  refine lv_iconst (v := 0) hx hb dX0_certainThings_0 (by decide) ?_
  refine lv_istore_n (lv' := [(1, .int 0), (0, .ref (b0 o0))]) hx hb dX0_certainThings_1 rfl hl (by decide) rfl (fun ls hl => ?_)
  refine lv_iconst (v := 0) hx hb dX0_certainThings_2 (by decide) ?_
  refine lv_istore_n (lv' := [(2, .int 0), (1, .int 0), (0, .ref (b0 o0))]) hx hb dX0_certainThings_3 rfl hl (by decide) rfl (fun ls hl => ?_)
  refine w_Bounds_certainThings_L4 X b0 o0 v_least v_greatest v_lowerSums v_upperSums v_lower v_upper v_places v_placeCounts v_things N out _ ?_ N 0 0 _ _ _ hP hD hS (lv_sub hl [2, 1, 0] rfl) hf
  · intro i3 i4 H locs ls hP hD hS hl hf
    refine lv_iload_n hx hb dX0_certainThings_40 rfl (lv_at hl 0 rfl) ?_
    have hf := Option.some.inj hf
    subst hf
    exact kiret (v := i3) X hP hD hS dX0_certainThings_41
/-! Bounds_sumOfBounds: long sumOfBounds(boolean); -/
abbrev rm_Bounds_sumOfBounds : Room := ({ frames := 1, cells := 0, slots := 0, locals := 22 } : Room)
def f_Bounds_sumOfBounds_L5 (i2 : Int32) (v_lower : FJ) (v_upper : FJ) (v_things : Int32) (K30 : Int64 → Int32 → Option (Int64)) : Nat → Int64 → Int32 → Option (Int64)
  | 0, _, _ => none
  | n + 1, i3, i4 => if v_things ≤ i4 then K30 i3 i4 else (f_Bounds_boundOf i4 i2 v_lower v_upper).bind (fun r5 => f_Bounds_sumOfBounds_L5 i2 v_lower v_upper v_things K30 n (i3 + r5) (i4 + 1))
def f_Bounds_sumOfBounds (N : Nat) (x1 : Int32) (v_lower : FJ) (v_upper : FJ) (v_things : Int32) : Option (Int64) := f_Bounds_sumOfBounds_L5 x1 v_lower v_upper v_things (fun i6 i7 => some i6) N 0 0
abbrev Q_Bounds_sumOfBounds (below : List Frame) (D : va_G) (k : Nat → ClassId) (A : Nat → Prop) (args : Array Value) (s : State) (b0 : Nat → Nat) (o0 : Nat) (v_least : FJ) (v_greatest : FJ) (v_lowerSums : FJ) (v_upperSums : FJ) (v_lower : FJ) (v_upper : FJ) (v_places : (Nat → FI)) (v_placeCounts : FI) (v_things : Int32) (out : Int64) : State → Prop := MQ below (QW D k A (some (.long out)) [W_Bounds k b0 o0 v_least v_greatest v_lowerSums v_upperSums v_lower v_upper v_places v_placeCounts v_things].flatten) args s 0 0 A
set_option maxRecDepth 100000 in
set_option maxHeartbeats 1000000 in
theorem w_Bounds_sumOfBounds_L5 {p : Program} {l : Launch} {e : Env} {s : State} {m : MethodId} {below : List Frame} {meth : Method} {c : Code} {args : Array Value} {A : Nat → Prop} {D : va_G} {k : Nat → ClassId} {t : Nat → Nat} (X : BX l D k t p s m args meth c cX0_sumOfBounds 5 RX0 (some .long) A) (b0 : Nat → Nat) (o0 : Nat) (v_least : FJ) (v_greatest : FJ) (v_lowerSums : FJ) (v_upperSums : FJ) (v_lower : FJ) (v_upper : FJ) (v_places : (Nat → FI)) (v_placeCounts : FI) (v_things : Int32) (N : Nat) (i2 : Int32) (out : Int64) (K30 : Int64 → Int32 → Option (Int64)) (hK30 : ∀ (i3' : Int64) (i4' : Int32) (H : Heap) (locs : List Loc) (ls : Array Slot), va_P D vwCl [W_Bounds k b0 o0 v_least v_greatest v_lowerSums v_upperSums v_lower v_upper v_places v_placeCounts v_things].flatten H → va_D A [W_Bounds k b0 o0 v_least v_greatest v_lowerSums v_upperSums v_lower v_upper v_places v_placeCounts v_things].flatten → va_S A s.heap H locs → lv_has ls 5 [(2, .long i3')] → K30 i3' i4' = some out → W p l e rm_Bounds_sumOfBounds s m args below meth c H locs 0 0 (Q_Bounds_sumOfBounds below D k A args s b0 o0 v_least v_greatest v_lowerSums v_upperSums v_lower v_upper v_places v_placeCounts v_things out) (F0 m 30 ls [])) : ∀ (n : Nat) (i3 : Int64) (i4 : Int32) (H : Heap) (locs : List Loc) (ls : Array Slot), va_P D vwCl [W_Bounds k b0 o0 v_least v_greatest v_lowerSums v_upperSums v_lower v_upper v_places v_placeCounts v_things].flatten H → va_D A [W_Bounds k b0 o0 v_least v_greatest v_lowerSums v_upperSums v_lower v_upper v_places v_placeCounts v_things].flatten → va_S A s.heap H locs → lv_has ls 5 [(0, .ref (b0 o0)), (1, .int i2), (2, .long i3), (4, .int i4)] → f_Bounds_sumOfBounds_L5 i2 v_lower v_upper v_things K30 n i3 i4 = some out → W p l e rm_Bounds_sumOfBounds s m args below meth c H locs 0 0 (Q_Bounds_sumOfBounds below D k A args s b0 o0 v_least v_greatest v_lowerSums v_upperSums v_lower v_upper v_places v_placeCounts v_things out) (F0 m 5 ls []) := by
  have hx := X.1.1
  have hb := X.1.2.1
  have hml := X.1.2.2.1
  have hown := X.1.2.2.2.1
  have hts := X.1.2.2.2.2
  intro n
  induction n with
  | zero =>
    intro i3 i4 H locs ls hP hD hS hl hf
    rw [f_Bounds_sumOfBounds_L5] at hf
    cases hf
  | succ n ih =>
    intro i3 i4 H locs ls hP hD hS hl hf
    rw [f_Bounds_sumOfBounds_L5] at hf
    refine lv_iload hx hb dX0_sumOfBounds_5 (lv_at hl 3 rfl) ?_
    refine lv_aload_n hx hb dX0_sumOfBounds_7 rfl (lv_at hl 0 rfl) ?_
    refine kget (v := .int v_things) X hP ff_X0_39 0 rfl rfl dX0_sumOfBounds_8 ?_
    refine lv_icmp_ge (tgt := 30) hx hb dX0_sumOfBounds_11 (by decide) (fun hc => ?_) (fun hc => ?_)
    · have hf := ofpos hf hc
      exact hK30 i3 i4 _ _ _ hP hD hS (lv_sub hl [2] rfl) hf
    · have hf := ofneg hf hc
      refine lv_lload_n hx hb dX0_sumOfBounds_14 rfl (lv_at hl 2 rfl) ?_
      refine lv_aload_n hx hb dX0_sumOfBounds_15 rfl (lv_at hl 0 rfl) ?_
      refine lv_iload hx hb dX0_sumOfBounds_16 (lv_at hl 3 rfl) ?_
      refine lv_iload_n hx hb dX0_sumOfBounds_18 rfl (lv_at hl 1 rfl) ?_
      obtain ⟨r5, hg_r5, hf⟩ := ofbind hf
      refine kcV (bs := [W_Bounds k b0 o0 v_least v_greatest v_lowerSums v_upperSums v_lower v_upper v_places v_placeCounts v_things]) (br := []) (bc := [W_Bounds k b0 o0 v_least v_greatest v_lowerSums v_upperSums v_lower v_upper v_places v_placeCounts v_things]) (bc' := [W_Bounds k b0 o0 v_least v_greatest v_lowerSums v_upperSums v_lower v_upper v_places v_placeCounts v_things]) X hP hD hS (c_Bounds_boundOf l D k t b0 o0 v_least v_greatest v_lowerSums v_upperSums v_lower v_upper v_places v_placeCounts v_things i4 i2 r5 hg_r5) mv_X0_70 hl [] [0] 0 ⟨rfl, rfl⟩ ⟨Nat.le_of_ble_eq_true rfl, Nat.le_of_ble_eq_true rfl⟩ rfl rfl rfl rfl rfl rfl rfl (Nat.le_of_ble_eq_true rfl) dX0_sumOfBounds_19 (fun H locs hP hD hS => ?_)
      have hP : va_P D vwCl [W_Bounds k b0 o0 v_least v_greatest v_lowerSums v_upperSums v_lower v_upper v_places v_placeCounts v_things].flatten _ := hP
      have hD : va_D A [W_Bounds k b0 o0 v_least v_greatest v_lowerSums v_upperSums v_lower v_upper v_places v_placeCounts v_things].flatten := hD
      refine lv_ladd hx hb dX0_sumOfBounds_22 ?_
      refine lv_lstore_n (lv' := [(2, .long (i3 + r5)), (0, .ref (b0 o0)), (1, .int i2), (4, .int i4)]) hx hb dX0_sumOfBounds_23 rfl hl (by decide) rfl (fun ls hl => ?_)
      refine lv_iinc (v := i4 + 1) (lv' := [(4, .int (i4 + 1)), (2, .long (i3 + r5)), (0, .ref (b0 o0)), (1, .int i2)]) hx hb dX0_sumOfBounds_24 hl (k := 3) rfl rfl (by decide) rfl (fun ls hl => ?_)
      refine lv_goto (tgt := 5) hx hb dX0_sumOfBounds_27 (by decide) ?_
      exact ih (i3 + r5) (i4 + 1) _ _ _ hP hD hS (lv_sub hl [2, 3, 1, 0] rfl) hf
set_option maxRecDepth 100000 in
set_option maxHeartbeats 1000000 in
theorem c_Bounds_sumOfBounds (l : Launch) (D : va_G) (k : Nat → ClassId) (t : Nat → Nat) (b0 : Nat → Nat) (o0 : Nat) (v_least : FJ) (v_greatest : FJ) (v_lowerSums : FJ) (v_upperSums : FJ) (v_lower : FJ) (v_upper : FJ) (v_places : (Nat → FI)) (v_placeCounts : FI) (v_things : Int32) (x1 : Int32) (N : Nat) (out : Int64) (hf : f_Bounds_sumOfBounds N x1 v_lower v_upper v_things = some out) : CT l D k t yX0_sumOfBounds cX0_sumOfBounds 5 (some .long) rm_Bounds_sumOfBounds [.ref (b0 o0), .int x1] [W_Bounds k b0 o0 v_least v_greatest v_lowerSums v_upperSums v_lower v_upper v_places v_placeCounts v_things].flatten (some (.long out)) [W_Bounds k b0 o0 v_least v_greatest v_lowerSums v_upperSums v_lower v_upper v_places v_placeCounts v_things].flatten := by
  refine kofW (by decide) (Nat.le_of_ble_eq_true rfl) ?_
  intro p e s m below meth c A ls X hP hD hS hl
  have hx := X.1.1
  have hb := X.1.2.1
  have hml := X.1.2.2.1
  have hown := X.1.2.2.2.1
  have hts := X.1.2.2.2.2
  have hl : lv_has ls 5 [(0, .ref (b0 o0)), (1, .int x1)] := hl
  rw [f_Bounds_sumOfBounds] at hf
  refine lv_lconst (v := 0) hx hb dX0_sumOfBounds_0 (by decide) ?_
  refine lv_lstore_n (lv' := [(2, .long 0), (0, .ref (b0 o0)), (1, .int x1)]) hx hb dX0_sumOfBounds_1 rfl hl (by decide) rfl (fun ls hl => ?_)
  refine lv_iconst (v := 0) hx hb dX0_sumOfBounds_2 (by decide) ?_
  refine lv_istore (lv' := [(4, .int 0), (2, .long 0), (0, .ref (b0 o0)), (1, .int x1)]) hx hb dX0_sumOfBounds_3 hl (by decide) rfl (fun ls hl => ?_)
  refine w_Bounds_sumOfBounds_L5 X b0 o0 v_least v_greatest v_lowerSums v_upperSums v_lower v_upper v_places v_placeCounts v_things N x1 out _ ?_ N 0 0 _ _ _ hP hD hS (lv_sub hl [2, 3, 1, 0] rfl) hf
  · intro i6 i7 H locs ls hP hD hS hl hf
    refine lv_lload_n hx hb dX0_sumOfBounds_30 rfl (lv_at hl 0 rfl) ?_
    have hf := Option.some.inj hf
    subst hf
    exact klret (v := i6) X hP hD hS dX0_sumOfBounds_31
/-! Bounds_widestThing: int widestThing(); -/
abbrev rm_Bounds_widestThing : Room := ({ frames := 0, cells := 0, slots := 0, locals := 0 } : Room)
def f_Bounds_widestThing_L7 (v_lower : FJ) (v_upper : FJ) (v_things : Int32) (K61 : Int32 → Int64 → Int32 → Option (Int32)) : Nat → Int32 → Int64 → Int32 → Option (Int32)
  | 0, _, _, _ => none
  | n + 1, i1, i2, i3 => if v_things ≤ i3 then K61 i1 i2 i3 else if ck i3 24 = true then if ck i3 24 = true then if ((v_upper i3.toNatClampNeg) - (v_lower i3.toNatClampNeg)) ≤ i2 then f_Bounds_widestThing_L7 v_lower v_upper v_things K61 n i1 i2 (i3 + 1) else if ck i3 24 = true then if ck i3 24 = true then f_Bounds_widestThing_L7 v_lower v_upper v_things K61 n i3 ((v_upper i3.toNatClampNeg) - (v_lower i3.toNatClampNeg)) (i3 + 1) else none else none else none else none
def f_Bounds_widestThing (N : Nat) (v_lower : FJ) (v_upper : FJ) (v_things : Int32) : Option (Int32) := f_Bounds_widestThing_L7 v_lower v_upper v_things (fun i4 i5 i6 => some i4) N (-1) 0 0
abbrev Q_Bounds_widestThing (below : List Frame) (D : va_G) (k : Nat → ClassId) (A : Nat → Prop) (args : Array Value) (s : State) (b0 : Nat → Nat) (o0 : Nat) (v_least : FJ) (v_greatest : FJ) (v_lowerSums : FJ) (v_upperSums : FJ) (v_lower : FJ) (v_upper : FJ) (v_places : (Nat → FI)) (v_placeCounts : FI) (v_things : Int32) (out : Int32) : State → Prop := MQ below (QW D k A (some (.int out)) [W_Bounds k b0 o0 v_least v_greatest v_lowerSums v_upperSums v_lower v_upper v_places v_placeCounts v_things].flatten) args s 0 0 A
set_option maxRecDepth 100000 in
set_option maxHeartbeats 1000000 in
theorem w_Bounds_widestThing_L7 {p : Program} {l : Launch} {e : Env} {s : State} {m : MethodId} {below : List Frame} {meth : Method} {c : Code} {args : Array Value} {A : Nat → Prop} {D : va_G} {k : Nat → ClassId} {t : Nat → Nat} (X : BX l D k t p s m args meth c cX0_widestThing 5 RX0 (some .int) A) (b0 : Nat → Nat) (o0 : Nat) (v_least : FJ) (v_greatest : FJ) (v_lowerSums : FJ) (v_upperSums : FJ) (v_lower : FJ) (v_upper : FJ) (v_places : (Nat → FI)) (v_placeCounts : FI) (v_things : Int32) (N : Nat) (out : Int32) (K61 : Int32 → Int64 → Int32 → Option (Int32)) (hK61 : ∀ (i1' : Int32) (i2' : Int64) (i3' : Int32) (H : Heap) (locs : List Loc) (ls : Array Slot), va_P D vwCl [W_Bounds k b0 o0 v_least v_greatest v_lowerSums v_upperSums v_lower v_upper v_places v_placeCounts v_things].flatten H → va_D A [W_Bounds k b0 o0 v_least v_greatest v_lowerSums v_upperSums v_lower v_upper v_places v_placeCounts v_things].flatten → va_S A s.heap H locs → lv_has ls 5 [(1, .int i1')] → K61 i1' i2' i3' = some out → W p l e rm_Bounds_widestThing s m args below meth c H locs 0 0 (Q_Bounds_widestThing below D k A args s b0 o0 v_least v_greatest v_lowerSums v_upperSums v_lower v_upper v_places v_placeCounts v_things out) (F0 m 61 ls [])) : ∀ (n : Nat) (i1 : Int32) (i2 : Int64) (i3 : Int32) (H : Heap) (locs : List Loc) (ls : Array Slot), va_P D vwCl [W_Bounds k b0 o0 v_least v_greatest v_lowerSums v_upperSums v_lower v_upper v_places v_placeCounts v_things].flatten H → va_D A [W_Bounds k b0 o0 v_least v_greatest v_lowerSums v_upperSums v_lower v_upper v_places v_placeCounts v_things].flatten → va_S A s.heap H locs → lv_has ls 5 [(0, .ref (b0 o0)), (1, .int i1), (2, .long i2), (4, .int i3)] → f_Bounds_widestThing_L7 v_lower v_upper v_things K61 n i1 i2 i3 = some out → W p l e rm_Bounds_widestThing s m args below meth c H locs 0 0 (Q_Bounds_widestThing below D k A args s b0 o0 v_least v_greatest v_lowerSums v_upperSums v_lower v_upper v_places v_placeCounts v_things out) (F0 m 7 ls []) := by
  have hx := X.1.1
  have hb := X.1.2.1
  have hml := X.1.2.2.1
  have hown := X.1.2.2.2.1
  have hts := X.1.2.2.2.2
  intro n
  induction n with
  | zero =>
    intro i1 i2 i3 H locs ls hP hD hS hl hf
    rw [f_Bounds_widestThing_L7] at hf
    cases hf
  | succ n ih =>
    intro i1 i2 i3 H locs ls hP hD hS hl hf
    rw [f_Bounds_widestThing_L7] at hf
    refine lv_iload hx hb dX0_widestThing_7 (lv_at hl 3 rfl) ?_
    refine lv_aload_n hx hb dX0_widestThing_9 rfl (lv_at hl 0 rfl) ?_
    refine kget (v := .int v_things) X hP ff_X0_39 0 rfl rfl dX0_widestThing_10 ?_
    refine lv_icmp_ge (tgt := 61) hx hb dX0_widestThing_13 (by decide) (fun hc => ?_) (fun hc => ?_)
    · have hf := ofpos hf hc
      exact hK61 i1 i2 i3 _ _ _ hP hD hS (lv_sub hl [1] rfl) hf
    · have hf := ofneg hf hc
      refine lv_aload_n hx hb dX0_widestThing_16 rfl (lv_at hl 0 rfl) ?_
      refine kget (v := .ref (b0 (o0+6))) X hP ff_X0_27 0 rfl rfl dX0_widestThing_17 ?_
      refine lv_iload hx hb dX0_widestThing_20 (lv_at hl 3 rfl) ?_
      obtain ⟨hc, hf⟩ := ofck hf
      refine klald (f := v_upper) (n := 24) X hP 6 rfl hc dX0_widestThing_22 ?_
      refine lv_aload_n hx hb dX0_widestThing_23 rfl (lv_at hl 0 rfl) ?_
      refine kget (v := .ref (b0 (o0+5))) X hP ff_X0_24 0 rfl rfl dX0_widestThing_24 ?_
      refine lv_iload hx hb dX0_widestThing_27 (lv_at hl 3 rfl) ?_
      obtain ⟨hc, hf⟩ := ofck hf
      refine klald (f := v_lower) (n := 24) X hP 5 rfl hc dX0_widestThing_29 ?_
      refine lv_lsub hx hb dX0_widestThing_30 ?_
      refine lv_lload_n hx hb dX0_widestThing_31 rfl (lv_at hl 2 rfl) ?_
      refine W.lcmp hx hb dX0_widestThing_32 ?_
      refine lv_if_le (tgt := 55) hx hb dX0_widestThing_33 (by decide) (fun hc => ?_) (fun hc => ?_)
      · have hc := lgm.mp hc
        have hf := ofpos hf hc
        refine lv_iinc (v := i3 + 1) (lv' := [(4, .int (i3 + 1)), (0, .ref (b0 o0)), (1, .int i1), (2, .long i2)]) hx hb dX0_widestThing_55 hl (k := 3) rfl rfl (by decide) rfl (fun ls hl => ?_)
        refine lv_goto (tgt := 7) hx hb dX0_widestThing_58 (by decide) ?_
        exact ih i1 i2 (i3 + 1) _ _ _ hP hD hS (lv_sub hl [1, 2, 3, 0] rfl) hf
      · have hc := fun z => hc (lgm.mpr z)
        have hf := ofneg hf hc
        refine lv_aload_n hx hb dX0_widestThing_36 rfl (lv_at hl 0 rfl) ?_
        refine kget (v := .ref (b0 (o0+6))) X hP ff_X0_27 0 rfl rfl dX0_widestThing_37 ?_
        refine lv_iload hx hb dX0_widestThing_40 (lv_at hl 3 rfl) ?_
        obtain ⟨hc, hf⟩ := ofck hf
        refine klald (f := v_upper) (n := 24) X hP 6 rfl hc dX0_widestThing_42 ?_
        refine lv_aload_n hx hb dX0_widestThing_43 rfl (lv_at hl 0 rfl) ?_
        refine kget (v := .ref (b0 (o0+5))) X hP ff_X0_24 0 rfl rfl dX0_widestThing_44 ?_
        refine lv_iload hx hb dX0_widestThing_47 (lv_at hl 3 rfl) ?_
        obtain ⟨hc, hf⟩ := ofck hf
        refine klald (f := v_lower) (n := 24) X hP 5 rfl hc dX0_widestThing_49 ?_
        refine lv_lsub hx hb dX0_widestThing_50 ?_
        refine lv_lstore_n (lv' := [(2, .long ((v_upper i3.toNatClampNeg) - (v_lower i3.toNatClampNeg))), (0, .ref (b0 o0)), (1, .int i1), (4, .int i3)]) hx hb dX0_widestThing_51 rfl hl (by decide) rfl (fun ls hl => ?_)
        refine lv_iload hx hb dX0_widestThing_52 (lv_at hl 3 rfl) ?_
        refine lv_istore_n (lv' := [(1, .int i3), (2, .long ((v_upper i3.toNatClampNeg) - (v_lower i3.toNatClampNeg))), (0, .ref (b0 o0)), (4, .int i3)]) hx hb dX0_widestThing_54 rfl hl (by decide) rfl (fun ls hl => ?_)
        refine lv_iinc (v := i3 + 1) (lv' := [(4, .int (i3 + 1)), (1, .int i3), (2, .long ((v_upper i3.toNatClampNeg) - (v_lower i3.toNatClampNeg))), (0, .ref (b0 o0))]) hx hb dX0_widestThing_55 hl (k := 3) rfl rfl (by decide) rfl (fun ls hl => ?_)
        refine lv_goto (tgt := 7) hx hb dX0_widestThing_58 (by decide) ?_
        exact ih i3 ((v_upper i3.toNatClampNeg) - (v_lower i3.toNatClampNeg)) (i3 + 1) _ _ _ hP hD hS (lv_sub hl [3, 1, 2, 0] rfl) hf
set_option maxRecDepth 100000 in
set_option maxHeartbeats 1000000 in
theorem c_Bounds_widestThing (l : Launch) (D : va_G) (k : Nat → ClassId) (t : Nat → Nat) (b0 : Nat → Nat) (o0 : Nat) (v_least : FJ) (v_greatest : FJ) (v_lowerSums : FJ) (v_upperSums : FJ) (v_lower : FJ) (v_upper : FJ) (v_places : (Nat → FI)) (v_placeCounts : FI) (v_things : Int32) (N : Nat) (out : Int32) (hf : f_Bounds_widestThing N v_lower v_upper v_things = some out) : CT l D k t yX0_widestThing cX0_widestThing 5 (some .int) rm_Bounds_widestThing [.ref (b0 o0)] [W_Bounds k b0 o0 v_least v_greatest v_lowerSums v_upperSums v_lower v_upper v_places v_placeCounts v_things].flatten (some (.int out)) [W_Bounds k b0 o0 v_least v_greatest v_lowerSums v_upperSums v_lower v_upper v_places v_placeCounts v_things].flatten := by
  refine kofW (by decide) (Nat.le_of_ble_eq_true rfl) ?_
  intro p e s m below meth c A ls X hP hD hS hl
  have hx := X.1.1
  have hb := X.1.2.1
  have hml := X.1.2.2.1
  have hown := X.1.2.2.2.1
  have hts := X.1.2.2.2.2
  have hl : lv_has ls 5 [(0, .ref (b0 o0))] := hl
  rw [f_Bounds_widestThing] at hf
  refine lv_iconst (v := (-1)) hx hb dX0_widestThing_0 (by decide) ?_
  refine lv_istore_n (lv' := [(1, .int (-1)), (0, .ref (b0 o0))]) hx hb dX0_widestThing_1 rfl hl (by decide) rfl (fun ls hl => ?_)
  refine lv_lconst (v := 0) hx hb dX0_widestThing_2 (by decide) ?_
  refine lv_lstore_n (lv' := [(2, .long 0), (1, .int (-1)), (0, .ref (b0 o0))]) hx hb dX0_widestThing_3 rfl hl (by decide) rfl (fun ls hl => ?_)
  refine lv_iconst (v := 0) hx hb dX0_widestThing_4 (by decide) ?_
  refine lv_istore (lv' := [(4, .int 0), (2, .long 0), (1, .int (-1)), (0, .ref (b0 o0))]) hx hb dX0_widestThing_5 hl (by decide) rfl (fun ls hl => ?_)
  refine w_Bounds_widestThing_L7 X b0 o0 v_least v_greatest v_lowerSums v_upperSums v_lower v_upper v_places v_placeCounts v_things N out _ ?_ N (-1) 0 0 _ _ _ hP hD hS (lv_sub hl [3, 2, 1, 0] rfl) hf
  · intro i4 i5 i6 H locs ls hP hD hS hl hf
    refine lv_iload_n hx hb dX0_widestThing_61 rfl (lv_at hl 0 rfl) ?_
    have hf := Option.some.inj hf
    subst hf
    exact kiret (v := i4) X hP hD hS dX0_widestThing_62
/-! Braid_copyFrom: void copyFrom(CounterBraid$Braid); -/
abbrev rm_Braid_copyFrom : Room := ({ frames := 1, cells := 0, slots := 0, locals := 60 } : Room)
set_option maxRecDepth 100000 in
set_option maxHeartbeats 1000000 in
theorem c_Braid_copyFrom (l : Launch) (D : va_G) (k : Nat → ClassId) (t : Nat → Nat) (b0 : Nat → Nat) (o0 : Nat) (v0_truths : FJ) (v0_rests : FI) (v0_marks : FI) (v0_numbers : FJ) (b1 : Nat → Nat) (o1 : Nat) (v1_truths : FJ) (v1_rests : FI) (v1_marks : FI) (v1_numbers : FJ) : CT l D k t yX1_copyFrom cX1_copyFrom 2 none rm_Braid_copyFrom [.ref (b0 o0), .ref (b1 o1)] [W_Braid k b0 o0 v0_truths v0_rests v0_marks v0_numbers, W_Braid k b1 o1 v1_truths v1_rests v1_marks v1_numbers].flatten none [W_Braid k b0 o0 v1_truths v1_rests v1_marks v1_numbers, W_Braid k b1 o1 v1_truths v1_rests v1_marks v1_numbers].flatten := by
  refine kofW (by decide) (Nat.le_of_ble_eq_true rfl) ?_
  intro p e s m below meth c A ls X hP hD hS hl
  have hx := X.1.1
  have hb := X.1.2.1
  have hml := X.1.2.2.1
  have hown := X.1.2.2.2.1
  have hts := X.1.2.2.2.2
  have hl : lv_has ls 2 [(0, .ref (b0 o0)), (1, .ref (b1 o1))] := hl
  refine lv_aload_n hx hb dX1_copyFrom_0 rfl (lv_at hl 1 rfl) ?_
  refine kget (v := .ref (b1 (o1+1))) X hP ff_X1_9 5 rfl rfl dX1_copyFrom_1 ?_
  refine lv_iconst (v := 0) hx hb dX1_copyFrom_4 (by decide) ?_
  refine lv_aload_n hx hb dX1_copyFrom_5 rfl (lv_at hl 0 rfl) ?_
  refine kget (v := .ref (b0 (o0+1))) X hP ff_X1_9 0 rfl rfl dX1_copyFrom_6 ?_
  refine lv_iconst (v := 0) hx hb dX1_copyFrom_9 (by decide) ?_
  refine lv_bipush (v := 16) hx hb dX1_copyFrom_10 (by decide) ?_
  refine kcpyl (f := v1_truths) (g := v0_truths) X hl hP hD hS mj_X1_25 6 1 rfl rfl rfl (Nat.le_of_ble_eq_true rfl) (Nat.le_of_ble_eq_true rfl) dX1_copyFrom_12 (fun H locs hP hD hS => ?_)
  have hP : va_P D vwCl [W_Braid k b0 o0 v1_truths v0_rests v0_marks v0_numbers, W_Braid k b1 o1 v1_truths v1_rests v1_marks v1_numbers].flatten _ := hP
  have hD : va_D A [W_Braid k b0 o0 v1_truths v0_rests v0_marks v0_numbers, W_Braid k b1 o1 v1_truths v1_rests v1_marks v1_numbers].flatten := hD
  refine lv_aload_n hx hb dX1_copyFrom_15 rfl (lv_at hl 1 rfl) ?_
  refine kget (v := .ref (b1 (o1+2))) X hP ff_X1_15 5 rfl rfl dX1_copyFrom_16 ?_
  refine lv_iconst (v := 0) hx hb dX1_copyFrom_19 (by decide) ?_
  refine lv_aload_n hx hb dX1_copyFrom_20 rfl (lv_at hl 0 rfl) ?_
  refine kget (v := .ref (b0 (o0+2))) X hP ff_X1_15 0 rfl rfl dX1_copyFrom_21 ?_
  refine lv_iconst (v := 0) hx hb dX1_copyFrom_24 (by decide) ?_
  refine lv_bipush (v := 24) hx hb dX1_copyFrom_25 (by decide) ?_
  refine kcpyi (f := v1_rests) (g := v0_rests) X hl hP hD hS mj_X1_25 7 2 rfl rfl rfl (Nat.le_of_ble_eq_true rfl) (Nat.le_of_ble_eq_true rfl) dX1_copyFrom_27 (fun H locs hP hD hS => ?_)
  have hP : va_P D vwCl [W_Braid k b0 o0 v1_truths v1_rests v0_marks v0_numbers, W_Braid k b1 o1 v1_truths v1_rests v1_marks v1_numbers].flatten _ := hP
  have hD : va_D A [W_Braid k b0 o0 v1_truths v1_rests v0_marks v0_numbers, W_Braid k b1 o1 v1_truths v1_rests v1_marks v1_numbers].flatten := hD
  refine lv_aload_n hx hb dX1_copyFrom_30 rfl (lv_at hl 1 rfl) ?_
  refine kget (v := .ref (b1 (o1+3))) X hP ff_X1_19 5 rfl rfl dX1_copyFrom_31 ?_
  refine lv_iconst (v := 0) hx hb dX1_copyFrom_34 (by decide) ?_
  refine lv_aload_n hx hb dX1_copyFrom_35 rfl (lv_at hl 0 rfl) ?_
  refine kget (v := .ref (b0 (o0+3))) X hP ff_X1_19 0 rfl rfl dX1_copyFrom_36 ?_
  refine lv_iconst (v := 0) hx hb dX1_copyFrom_39 (by decide) ?_
  refine lv_bipush (v := 24) hx hb dX1_copyFrom_40 (by decide) ?_
  refine kcpyi (f := v1_marks) (g := v0_marks) X hl hP hD hS mj_X1_25 8 3 rfl rfl rfl (Nat.le_of_ble_eq_true rfl) (Nat.le_of_ble_eq_true rfl) dX1_copyFrom_42 (fun H locs hP hD hS => ?_)
  have hP : va_P D vwCl [W_Braid k b0 o0 v1_truths v1_rests v1_marks v0_numbers, W_Braid k b1 o1 v1_truths v1_rests v1_marks v1_numbers].flatten _ := hP
  have hD : va_D A [W_Braid k b0 o0 v1_truths v1_rests v1_marks v0_numbers, W_Braid k b1 o1 v1_truths v1_rests v1_marks v1_numbers].flatten := hD
  refine lv_aload_n hx hb dX1_copyFrom_45 rfl (lv_at hl 1 rfl) ?_
  refine kget (v := .ref (b1 (o1+4))) X hP ff_X1_22 5 rfl rfl dX1_copyFrom_46 ?_
  refine lv_iconst (v := 0) hx hb dX1_copyFrom_49 (by decide) ?_
  refine lv_aload_n hx hb dX1_copyFrom_50 rfl (lv_at hl 0 rfl) ?_
  refine kget (v := .ref (b0 (o0+4))) X hP ff_X1_22 0 rfl rfl dX1_copyFrom_51 ?_
  refine lv_iconst (v := 0) hx hb dX1_copyFrom_54 (by decide) ?_
  refine lv_bipush (v := 16) hx hb dX1_copyFrom_55 (by decide) ?_
  refine kcpyl (f := v1_numbers) (g := v0_numbers) X hl hP hD hS mj_X1_25 9 4 rfl rfl rfl (Nat.le_of_ble_eq_true rfl) (Nat.le_of_ble_eq_true rfl) dX1_copyFrom_57 (fun H locs hP hD hS => ?_)
  have hP : va_P D vwCl [W_Braid k b0 o0 v1_truths v1_rests v1_marks v1_numbers, W_Braid k b1 o1 v1_truths v1_rests v1_marks v1_numbers].flatten _ := hP
  have hD : va_D A [W_Braid k b0 o0 v1_truths v1_rests v1_marks v1_numbers, W_Braid k b1 o1 v1_truths v1_rests v1_marks v1_numbers].flatten := hD
  exact kvret X hP hD hS dX1_copyFrom_60
