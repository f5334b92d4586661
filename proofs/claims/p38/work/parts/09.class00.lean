/-! Bounds_start: void start(); -/
abbrev rm_Bounds_start : Room := ({ frames := 0, cells := 0, slots := 0, locals := 0 } : Room)
set_option maxRecDepth 100000 in
set_option maxHeartbeats 1000000 in
theorem c_Bounds_start (l : Launch) (D : va_G) (k : Nat → ClassId) (t : Nat → Nat) (b0 : Nat → Nat) (o0 : Nat) (v_least : FJ) (v_greatest : FJ) (v_lowerSums : FJ) (v_upperSums : FJ) (v_lower : FJ) (v_upper : FJ) (v_places : (Nat → FI)) (v_placeCounts : FI) (v_things : Int32) : CT l D k t yX0_start cX0_start 1 none rm_Bounds_start [.ref (b0 o0)] [W_Bounds k b0 o0 v_least v_greatest v_lowerSums v_upperSums v_lower v_upper v_places v_placeCounts v_things].flatten none [W_Bounds k b0 o0 v_least v_greatest v_lowerSums v_upperSums v_lower v_upper v_places v_placeCounts 0].flatten := by
  refine kofW (by decide) (Nat.le_of_ble_eq_true rfl) ?_
  intro p e s m below meth c A ls X hP hD hS hl
  have hx := X.1.1
  have hb := X.1.2.1
  have hml := X.1.2.2.1
  have hown := X.1.2.2.2.1
  have hts := X.1.2.2.2.2
  have hl : lv_has ls 1 [(0, .ref (b0 o0))] := hl
  refine lv_aload_n hx hb dX0_start_0 rfl (lv_at hl 0 rfl) ?_
  refine lv_iconst (v := 0) hx hb dX0_start_1 (by decide) ?_
  refine kputi (v := 0) X hP hD hS fp_X0_39 0 rfl (Nat.le_of_ble_eq_true rfl) dX0_start_2 (fun H locs hP hD hS => ?_)
  have hP : va_P D vwCl [W_Bounds k b0 o0 v_least v_greatest v_lowerSums v_upperSums v_lower v_upper v_places v_placeCounts 0].flatten _ := hP
  have hD : va_D A [W_Bounds k b0 o0 v_least v_greatest v_lowerSums v_upperSums v_lower v_upper v_places v_placeCounts 0].flatten := hD
  exact kvret X hP hD hS dX0_start_5
/-! CB_isIn: private static boolean isIn(int, int); -/
abbrev rm_CB_isIn : Room := ({ frames := 0, cells := 0, slots := 0, locals := 0 } : Room)
def f_CB_isIn (x0 : Int32) (x1 : Int32) : Option (Int32) := if ((x0 >>> (x1 &&& 31)) &&& 1) = 1 then some 1 else some 0
abbrev Q_CB_isIn (below : List Frame) (D : va_G) (k : Nat → ClassId) (A : Nat → Prop) (args : Array Value) (s : State) (out : Int32) : State → Prop := MQ below (QW D k A (some (.int out)) [].flatten) args s 0 0 A
set_option maxRecDepth 100000 in
set_option maxHeartbeats 1000000 in
theorem c_CB_isIn (l : Launch) (D : va_G) (k : Nat → ClassId) (t : Nat → Nat) (x0 : Int32) (x1 : Int32) (out : Int32) (hf : f_CB_isIn x0 x1 = some out) : CT l D k t yX7_isIn cX7_isIn 2 (some .boolean) rm_CB_isIn [.int x0, .int x1] [].flatten (some (.int out)) [].flatten := by
  refine kofW (by decide) (Nat.le_of_ble_eq_true rfl) ?_
  intro p e s m below meth c A ls X hP hD hS hl
  have N : Nat := 0
  have hx := X.1.1
  have hb := X.1.2.1
  have hml := X.1.2.2.1
  have hown := X.1.2.2.2.1
  have hts := X.1.2.2.2.2
  have hl : lv_has ls 2 [(0, .int x0), (1, .int x1)] := hl
  rw [f_CB_isIn] at hf
  refine lv_iload_n hx hb dX7_isIn_0 rfl (lv_at hl 0 rfl) ?_
  refine lv_iload_n hx hb dX7_isIn_1 rfl (lv_at hl 1 rfl) ?_
  refine lv_ishr hx hb dX7_isIn_2 ?_
  refine lv_iconst (v := 1) hx hb dX7_isIn_3 (by decide) ?_
  refine lv_iand hx hb dX7_isIn_4 ?_
  refine lv_iconst (v := 1) hx hb dX7_isIn_5 (by decide) ?_
  refine lv_icmp_ne (tgt := 13) hx hb dX7_isIn_6 (by decide) (fun hc => ?_) (fun hc => ?_)
  · have hf := ofneg hf hc
    refine lv_iconst (v := 0) hx hb dX7_isIn_13 (by decide) ?_
    have hf := Option.some.inj hf
    subst hf
    exact kzret (v := 0) X hP hD hS rfl dX7_isIn_14
  · have hf := ofpos hf hc
    refine lv_iconst (v := 1) hx hb dX7_isIn_9 (by decide) ?_
    refine lv_goto (tgt := 14) hx hb dX7_isIn_10 (by decide) ?_
    have hf := Option.some.inj hf
    subst hf
    exact kzret (v := 1) X hP hD hS rfl dX7_isIn_14
/-! Bounds_append: void append(int, long); -/
abbrev rm_Bounds_append : Room := ({ frames := 1, cells := 0, slots := 0, locals := 21 } : Room)
def f_Bounds_append_J68 (j16 : Int32) (j17 : Int32) (t18 : Int64) (c21 : (Nat → FI)) (c23 : Int32) (B19 : Int32 → Int64 → Int32 → (Nat → FI) → Option (FJ × FJ × (Nat → FI) × FI × Int32)) : Option (FJ × FJ × (Nat → FI) × FI × Int32) := if ck c23 24 = true then if ck j16 4 = true then B19 (j16 + 1) t18 (j17 + 1) (gupd c21 c23.toNatClampNeg j16.toNatClampNeg j17) else none else none
def f_Bounds_append_L19 (i3 : Int32) (c12 : Int32) (v_greatest : FJ) (K93 : Int32 → Int64 → Int32 → (Nat → FI) → Option (FJ × FJ × (Nat → FI) × FI × Int32)) : Nat → Int32 → Int64 → Int32 → (Nat → FI) → Option (FJ × FJ × (Nat → FI) × FI × Int32)
  | 0, _, _, _, _ => none
  | n + 1, i5, i6, i7, c10 => if 24 ≤ i7 then K93 i5 i6 i7 c10 else if 4 ≤ i5 then K93 i5 i6 i7 c10 else (f_CB_isIn i3 i7).bind (fun r13 => if r13 = 0 then f_Bounds_append_L19 i3 c12 v_greatest K93 n i5 i6 (i7 + 1) c10 else if i5 = 0 then if ck i7 24 = true then f_Bounds_append_J68 i5 i7 (v_greatest i7.toNatClampNeg) c10 c12 (f_Bounds_append_L19 i3 c12 v_greatest K93 n) else none else if ck i7 24 = true then f_Bounds_append_J68 i5 i7 (if (v_greatest i7.toNatClampNeg) < i6 then (v_greatest i7.toNatClampNeg) else i6) c10 c12 (f_Bounds_append_L19 i3 c12 v_greatest K93 n) else none)
def f_Bounds_append_J93 (j29 : Int64) (j30 : Int32) (j31 : Int64) (c32 : FJ) (c33 : FJ) (c34 : (Nat → FI)) (c35 : FI) (c36 : Int32) : Option (FJ × FJ × (Nat → FI) × FI × Int32) := if ck c36 24 = true then if ck c36 24 = true then if ck c36 24 = true then some ((vp_updL c32 c36.toNatClampNeg j29), (vp_updL c33 c36.toNatClampNeg j31), c34, (upd c35 c36.toNatClampNeg j30), (c36 + 1)) else none else none else none
def f_Bounds_append (N : Nat) (x1 : Int32) (x2 : Int64) (v_greatest : FJ) (v_lower : FJ) (v_upper : FJ) (v_places : (Nat → FI)) (v_placeCounts : FI) (v_things : Int32) : Option (FJ × FJ × (Nat → FI) × FI × Int32) := if v_things < 24 then f_Bounds_append_L19 x1 v_things v_greatest (fun i25 i26 i27 c28 => f_Bounds_append_J93 x2 i25 i26 v_lower v_upper c28 v_placeCounts v_things) N 0 0 0 v_places else some (v_lower, v_upper, v_places, v_placeCounts, v_things)
abbrev Q_Bounds_append (below : List Frame) (D : va_G) (k : Nat → ClassId) (A : Nat → Prop) (args : Array Value) (s : State) (b0 : Nat → Nat) (o0 : Nat) (v_least : FJ) (v_greatest : FJ) (v_lowerSums : FJ) (v_upperSums : FJ) (v_lower : FJ) (v_upper : FJ) (v_places : (Nat → FI)) (v_placeCounts : FI) (v_things : Int32) (out : FJ × FJ × (Nat → FI) × FI × Int32) : State → Prop := MQ below (QW D k A none [W_Bounds k b0 o0 v_least v_greatest v_lowerSums v_upperSums out.1 out.2.1 out.2.2.1 out.2.2.2.1 out.2.2.2.2].flatten) args s 0 0 A
set_option maxRecDepth 100000 in
set_option maxHeartbeats 1000000 in
theorem w_Bounds_append_J68 {p : Program} {l : Launch} {e : Env} {s : State} {m : MethodId} {below : List Frame} {meth : Method} {c : Code} {args : Array Value} {A : Nat → Prop} {D : va_G} {k : Nat → ClassId} {t : Nat → Nat} (X : BX l D k t p s m args meth c cX0_append 8 RX0 none A) (b0 : Nat → Nat) (o0 : Nat) (v_least : FJ) (v_greatest : FJ) (v_lowerSums : FJ) (v_upperSums : FJ) (v_lower : FJ) (v_upper : FJ) (v_places : (Nat → FI)) (v_placeCounts : FI) (v_things : Int32) (N : Nat) (j14 : Int32) (j15 : Int64) (j16 : Int32) (j17 : Int32) (t18 : Int64) (c19 : FJ) (c20 : FJ) (c21 : (Nat → FI)) (c22 : FI) (c23 : Int32) (out : FJ × FJ × (Nat → FI) × FI × Int32) (B19 : Int32 → Int64 → Int32 → (Nat → FI) → Option (FJ × FJ × (Nat → FI) × FI × Int32)) (hB19 : ∀ (i5' : Int32) (i6' : Int64) (i7' : Int32) (c10' : (Nat → FI)) (H : Heap) (locs : List Loc) (ls : Array Slot), va_P D vwCl [W_Bounds k b0 o0 v_least v_greatest v_lowerSums v_upperSums c19 c20 c10' c22 c23].flatten H → va_D A [W_Bounds k b0 o0 v_least v_greatest v_lowerSums v_upperSums c19 c20 c10' c22 c23].flatten → va_S A s.heap H locs → lv_has ls 8 [(0, .ref (b0 o0)), (1, .int j14), (2, .long j15), (4, .int i5'), (5, .long i6'), (7, .int i7')] → B19 i5' i6' i7' c10' = some out → W p l e rm_Bounds_append s m args below meth c H locs 0 0 (Q_Bounds_append below D k A args s b0 o0 v_least v_greatest v_lowerSums v_upperSums v_lower v_upper v_places v_placeCounts v_things out) (F0 m 19 ls [])) : ∀ (H : Heap) (locs : List Loc) (ls : Array Slot), va_P D vwCl [W_Bounds k b0 o0 v_least v_greatest v_lowerSums v_upperSums c19 c20 c21 c22 c23].flatten H → va_D A [W_Bounds k b0 o0 v_least v_greatest v_lowerSums v_upperSums c19 c20 c21 c22 c23].flatten → va_S A s.heap H locs → lv_has ls 8 [(0, .ref (b0 o0)), (1, .int j14), (2, .long j15), (4, .int j16), (7, .int j17)] → f_Bounds_append_J68 j16 j17 t18 c21 c23 B19 = some out → W p l e rm_Bounds_append s m args below meth c H locs 0 0 (Q_Bounds_append below D k A args s b0 o0 v_least v_greatest v_lowerSums v_upperSums v_lower v_upper v_places v_placeCounts v_things out) (F0 m 68 ls [.long t18]) := by
  have hx := X.1.1
  have hb := X.1.2.1
  have hml := X.1.2.2.1
  have hown := X.1.2.2.2.1
  have hts := X.1.2.2.2.2
  intro H locs ls hP hD hS hl hf
  rw [f_Bounds_append_J68] at hf
  refine lv_lstore (lv' := [(5, .long t18), (0, .ref (b0 o0)), (1, .int j14), (2, .long j15), (4, .int j16), (7, .int j17)]) hx hb dX0_append_68 hl (by decide) rfl (fun ls hl => ?_)
  refine lv_aload_n hx hb dX0_append_70 rfl (lv_at hl 1 rfl) ?_
  refine kget (v := .ref (b0 (o0+7))) X hP ff_X0_32 0 rfl rfl dX0_append_71 ?_
  refine lv_aload_n hx hb dX0_append_74 rfl (lv_at hl 1 rfl) ?_
  refine kget (v := .int c23) X hP ff_X0_39 0 rfl rfl dX0_append_75 ?_
  obtain ⟨hc, hf⟩ := ofck hf
  have hrow := hc
  refine kg_row X hP hc dX0_append_78 ?_
  refine lv_iload hx hb dX0_append_79 (lv_at hl 4 rfl) ?_
  refine lv_iload hx hb dX0_append_81 (lv_at hl 5 rfl) ?_
  obtain ⟨hc, hf⟩ := ofck hf
  generalize hc24 : gupd c21 c23.toNatClampNeg j16.toNatClampNeg j17 = c24 at hf
  refine kg_st2 (g := c24) X hP hD hS hrow hc hc24 dX0_append_83 (fun H locs hP hD hS => ?_)
  have hP : va_P D vwCl [W_Bounds k b0 o0 v_least v_greatest v_lowerSums v_upperSums c19 c20 c24 c22 c23].flatten _ := hP
  have hD : va_D A [W_Bounds k b0 o0 v_least v_greatest v_lowerSums v_upperSums c19 c20 c24 c22 c23].flatten := hD
  refine lv_iinc (v := j16 + 1) (lv' := [(4, .int (j16 + 1)), (5, .long t18), (0, .ref (b0 o0)), (1, .int j14), (2, .long j15), (7, .int j17)]) hx hb dX0_append_84 hl (k := 4) rfl rfl (by decide) rfl (fun ls hl => ?_)
  refine lv_iinc (v := j17 + 1) (lv' := [(7, .int (j17 + 1)), (4, .int (j16 + 1)), (5, .long t18), (0, .ref (b0 o0)), (1, .int j14), (2, .long j15)]) hx hb dX0_append_87 hl (k := 5) rfl rfl (by decide) rfl (fun ls hl => ?_)
  refine lv_goto (tgt := 19) hx hb dX0_append_90 (by decide) ?_
  exact hB19 (j16 + 1) t18 (j17 + 1) c24 _ _ _ hP hD hS (lv_sub hl [3, 4, 5, 1, 2, 0] rfl) hf
set_option maxRecDepth 100000 in
set_option maxHeartbeats 1000000 in
theorem w_Bounds_append_L19 {p : Program} {l : Launch} {e : Env} {s : State} {m : MethodId} {below : List Frame} {meth : Method} {c : Code} {args : Array Value} {A : Nat → Prop} {D : va_G} {k : Nat → ClassId} {t : Nat → Nat} (X : BX l D k t p s m args meth c cX0_append 8 RX0 none A) (b0 : Nat → Nat) (o0 : Nat) (v_least : FJ) (v_greatest : FJ) (v_lowerSums : FJ) (v_upperSums : FJ) (v_lower : FJ) (v_upper : FJ) (v_places : (Nat → FI)) (v_placeCounts : FI) (v_things : Int32) (N : Nat) (i3 : Int32) (i4 : Int64) (c8 : FJ) (c9 : FJ) (c11 : FI) (c12 : Int32) (out : FJ × FJ × (Nat → FI) × FI × Int32) (K93 : Int32 → Int64 → Int32 → (Nat → FI) → Option (FJ × FJ × (Nat → FI) × FI × Int32)) (hK93 : ∀ (i5' : Int32) (i6' : Int64) (i7' : Int32) (c10' : (Nat → FI)) (H : Heap) (locs : List Loc) (ls : Array Slot), va_P D vwCl [W_Bounds k b0 o0 v_least v_greatest v_lowerSums v_upperSums c8 c9 c10' c11 c12].flatten H → va_D A [W_Bounds k b0 o0 v_least v_greatest v_lowerSums v_upperSums c8 c9 c10' c11 c12].flatten → va_S A s.heap H locs → lv_has ls 8 [(0, .ref (b0 o0)), (2, .long i4), (4, .int i5'), (5, .long i6')] → K93 i5' i6' i7' c10' = some out → W p l e rm_Bounds_append s m args below meth c H locs 0 0 (Q_Bounds_append below D k A args s b0 o0 v_least v_greatest v_lowerSums v_upperSums v_lower v_upper v_places v_placeCounts v_things out) (F0 m 93 ls [])) : ∀ (n : Nat) (i5 : Int32) (i6 : Int64) (i7 : Int32) (c10 : (Nat → FI)) (H : Heap) (locs : List Loc) (ls : Array Slot), va_P D vwCl [W_Bounds k b0 o0 v_least v_greatest v_lowerSums v_upperSums c8 c9 c10 c11 c12].flatten H → va_D A [W_Bounds k b0 o0 v_least v_greatest v_lowerSums v_upperSums c8 c9 c10 c11 c12].flatten → va_S A s.heap H locs → lv_has ls 8 [(0, .ref (b0 o0)), (1, .int i3), (2, .long i4), (4, .int i5), (5, .long i6), (7, .int i7)] → f_Bounds_append_L19 i3 c12 v_greatest K93 n i5 i6 i7 c10 = some out → W p l e rm_Bounds_append s m args below meth c H locs 0 0 (Q_Bounds_append below D k A args s b0 o0 v_least v_greatest v_lowerSums v_upperSums v_lower v_upper v_places v_placeCounts v_things out) (F0 m 19 ls []) := by
  have hx := X.1.1
  have hb := X.1.2.1
  have hml := X.1.2.2.1
  have hown := X.1.2.2.2.1
  have hts := X.1.2.2.2.2
  intro n
  induction n with
  | zero =>
    intro i5 i6 i7 c10 H locs ls hP hD hS hl hf
    rw [f_Bounds_append_L19] at hf
    cases hf
  | succ n ih =>
    intro i5 i6 i7 c10 H locs ls hP hD hS hl hf
    rw [f_Bounds_append_L19] at hf
    refine lv_iload hx hb dX0_append_19 (lv_at hl 5 rfl) ?_
    refine lv_bipush (v := 24) hx hb dX0_append_21 (by decide) ?_
    refine lv_icmp_ge (tgt := 93) hx hb dX0_append_23 (by decide) (fun hc => ?_) (fun hc => ?_)
    · have hf := ofpos hf hc
      exact hK93 i5 i6 i7 c10 _ _ _ hP hD hS (lv_sub hl [0, 2, 3, 4] rfl) hf
    · have hf := ofneg hf hc
      refine lv_iload hx hb dX0_append_26 (lv_at hl 3 rfl) ?_
      refine lv_iconst (v := 4) hx hb dX0_append_28 (by decide) ?_
      refine lv_icmp_ge (tgt := 93) hx hb dX0_append_29 (by decide) (fun hc => ?_) (fun hc => ?_)
      · have hf := ofpos hf hc
        exact hK93 i5 i6 i7 c10 _ _ _ hP hD hS (lv_sub hl [0, 2, 3, 4] rfl) hf
      · have hf := ofneg hf hc
        refine lv_iload_n hx hb dX0_append_32 rfl (lv_at hl 1 rfl) ?_
        refine lv_iload hx hb dX0_append_33 (lv_at hl 5 rfl) ?_
        obtain ⟨r13, hg_r13, hf⟩ := ofbind hf
        refine kcN (bs := [W_Bounds k b0 o0 v_least v_greatest v_lowerSums v_upperSums c8 c9 c10 c11 c12]) (br := [W_Bounds k b0 o0 v_least v_greatest v_lowerSums v_upperSums c8 c9 c10 c11 c12]) (bc := []) (bc' := []) X hP hD hS (c_CB_isIn l D k t i3 i7 r13 hg_r13) mn_X0_43 hl [0] [] ⟨rfl, rfl⟩ ⟨Nat.le_of_ble_eq_true rfl, Nat.le_of_ble_eq_true rfl⟩ rfl rfl rfl rfl (Nat.le_of_ble_eq_true rfl) dX0_append_35 (fun H locs hP hD hS => ?_)
        have hP : va_P D vwCl [W_Bounds k b0 o0 v_least v_greatest v_lowerSums v_upperSums c8 c9 c10 c11 c12].flatten _ := hP
        have hD : va_D A [W_Bounds k b0 o0 v_least v_greatest v_lowerSums v_upperSums c8 c9 c10 c11 c12].flatten := hD
        refine lv_if_eq (tgt := 87) hx hb dX0_append_38 (by decide) (fun hc => ?_) (fun hc => ?_)
        · have hf := ofpos hf hc
          refine lv_iinc (v := i7 + 1) (lv' := [(7, .int (i7 + 1)), (0, .ref (b0 o0)), (1, .int i3), (2, .long i4), (4, .int i5), (5, .long i6)]) hx hb dX0_append_87 hl (k := 5) rfl rfl (by decide) rfl (fun ls hl => ?_)
          refine lv_goto (tgt := 19) hx hb dX0_append_90 (by decide) ?_
          exact ih i5 i6 (i7 + 1) c10 _ _ _ hP hD hS (lv_sub hl [1, 2, 3, 4, 5, 0] rfl) hf
        · have hf := ofneg hf hc
          refine lv_iload hx hb dX0_append_41 (lv_at hl 3 rfl) ?_
          refine lv_if_ne (tgt := 56) hx hb dX0_append_43 (by decide) (fun hc => ?_) (fun hc => ?_)
          · have hf := ofneg hf hc
            refine lv_lload hx hb dX0_append_56 (lv_at hl 4 rfl) ?_
            refine lv_aload_n hx hb dX0_append_58 rfl (lv_at hl 0 rfl) ?_
            refine kget (v := .ref (b0 (o0+2))) X hP ff_X0_15 0 rfl rfl dX0_append_59 ?_
            refine lv_iload hx hb dX0_append_62 (lv_at hl 5 rfl) ?_
            obtain ⟨hc, hf⟩ := ofck hf
            refine klald (f := v_greatest) (n := 24) X hP 2 rfl hc dX0_append_64 ?_
            refine va_mmin_long hx hb (hml.trans hl.1.symm) hown (hts _ mj_X0_47.1) (hts _ mj_X0_47.2.1) (hts _ mj_X0_47.2.2.1) (hts _ mj_X0_47.2.2.2) (Nat.le_of_ble_eq_true rfl) (Nat.le_of_ble_eq_true rfl) (Nat.zero_le _) (Nat.zero_le _) dX0_append_65 ?_
            exact w_Bounds_append_J68 X b0 o0 v_least v_greatest v_lowerSums v_upperSums v_lower v_upper v_places v_placeCounts v_things N i3 i4 i5 i7 (if (v_greatest i7.toNatClampNeg) < i6 then (v_greatest i7.toNatClampNeg) else i6) c8 c9 c10 c11 c12 out _ ih _ _ _ hP hD hS (lv_sub hl [0, 1, 2, 3, 5] rfl) hf
          · have hf := ofpos hf hc
            refine lv_aload_n hx hb dX0_append_46 rfl (lv_at hl 0 rfl) ?_
            refine kget (v := .ref (b0 (o0+2))) X hP ff_X0_15 0 rfl rfl dX0_append_47 ?_
            refine lv_iload hx hb dX0_append_50 (lv_at hl 5 rfl) ?_
            obtain ⟨hc, hf⟩ := ofck hf
            refine klald (f := v_greatest) (n := 24) X hP 2 rfl hc dX0_append_52 ?_
            refine lv_goto (tgt := 68) hx hb dX0_append_53 (by decide) ?_
            exact w_Bounds_append_J68 X b0 o0 v_least v_greatest v_lowerSums v_upperSums v_lower v_upper v_places v_placeCounts v_things N i3 i4 i5 i7 (v_greatest i7.toNatClampNeg) c8 c9 c10 c11 c12 out _ ih _ _ _ hP hD hS (lv_sub hl [0, 1, 2, 3, 5] rfl) hf
set_option maxRecDepth 100000 in
set_option maxHeartbeats 1000000 in
theorem w_Bounds_append_J93 {p : Program} {l : Launch} {e : Env} {s : State} {m : MethodId} {below : List Frame} {meth : Method} {c : Code} {args : Array Value} {A : Nat → Prop} {D : va_G} {k : Nat → ClassId} {t : Nat → Nat} (X : BX l D k t p s m args meth c cX0_append 8 RX0 none A) (b0 : Nat → Nat) (o0 : Nat) (v_least : FJ) (v_greatest : FJ) (v_lowerSums : FJ) (v_upperSums : FJ) (v_lower : FJ) (v_upper : FJ) (v_places : (Nat → FI)) (v_placeCounts : FI) (v_things : Int32) (N : Nat) (j29 : Int64) (j30 : Int32) (j31 : Int64) (c32 : FJ) (c33 : FJ) (c34 : (Nat → FI)) (c35 : FI) (c36 : Int32) (out : FJ × FJ × (Nat → FI) × FI × Int32) : ∀ (H : Heap) (locs : List Loc) (ls : Array Slot), va_P D vwCl [W_Bounds k b0 o0 v_least v_greatest v_lowerSums v_upperSums c32 c33 c34 c35 c36].flatten H → va_D A [W_Bounds k b0 o0 v_least v_greatest v_lowerSums v_upperSums c32 c33 c34 c35 c36].flatten → va_S A s.heap H locs → lv_has ls 8 [(0, .ref (b0 o0)), (2, .long j29), (4, .int j30), (5, .long j31)] → f_Bounds_append_J93 j29 j30 j31 c32 c33 c34 c35 c36 = some out → W p l e rm_Bounds_append s m args below meth c H locs 0 0 (Q_Bounds_append below D k A args s b0 o0 v_least v_greatest v_lowerSums v_upperSums v_lower v_upper v_places v_placeCounts v_things out) (F0 m 93 ls []) := by
  have hx := X.1.1
  have hb := X.1.2.1
  have hml := X.1.2.2.1
  have hown := X.1.2.2.2.1
  have hts := X.1.2.2.2.2
  intro H locs ls hP hD hS hl hf
  rw [f_Bounds_append_J93] at hf
  refine lv_aload_n hx hb dX0_append_93 rfl (lv_at hl 0 rfl) ?_
  refine kget (v := .ref (b0 (o0+8))) X hP ff_X0_35 0 rfl rfl dX0_append_94 ?_
  refine lv_aload_n hx hb dX0_append_97 rfl (lv_at hl 0 rfl) ?_
  refine kget (v := .int c36) X hP ff_X0_39 0 rfl rfl dX0_append_98 ?_
  refine lv_iload hx hb dX0_append_101 (lv_at hl 2 rfl) ?_
  obtain ⟨hc, hf⟩ := ofck hf
  generalize hc37 : upd c35 c36.toNatClampNeg j30 = c37 at hf
  refine kiast2 (f := c35) (n := 24) (g := c37) X hP hD hS 8 rfl hc hc37 dX0_append_103 (fun H locs hP hD hS => ?_)
  have hP : va_P D vwCl [W_Bounds k b0 o0 v_least v_greatest v_lowerSums v_upperSums c32 c33 c34 c37 c36].flatten _ := hP
  have hD : va_D A [W_Bounds k b0 o0 v_least v_greatest v_lowerSums v_upperSums c32 c33 c34 c37 c36].flatten := hD
  refine lv_aload_n hx hb dX0_append_104 rfl (lv_at hl 0 rfl) ?_
  refine kget (v := .ref (b0 (o0+5))) X hP ff_X0_24 0 rfl rfl dX0_append_105 ?_
  refine lv_aload_n hx hb dX0_append_108 rfl (lv_at hl 0 rfl) ?_
  refine kget (v := .int c36) X hP ff_X0_39 0 rfl rfl dX0_append_109 ?_
  refine lv_lload_n hx hb dX0_append_112 rfl (lv_at hl 1 rfl) ?_
  obtain ⟨hc, hf⟩ := ofck hf
  generalize hc38 : vp_updL c32 c36.toNatClampNeg j29 = c38 at hf
  refine klast2 (f := c32) (n := 24) (g := c38) X hP hD hS 5 rfl hc hc38 dX0_append_113 (fun H locs hP hD hS => ?_)
  have hP : va_P D vwCl [W_Bounds k b0 o0 v_least v_greatest v_lowerSums v_upperSums c38 c33 c34 c37 c36].flatten _ := hP
  have hD : va_D A [W_Bounds k b0 o0 v_least v_greatest v_lowerSums v_upperSums c38 c33 c34 c37 c36].flatten := hD
  refine lv_aload_n hx hb dX0_append_114 rfl (lv_at hl 0 rfl) ?_
  refine kget (v := .ref (b0 (o0+6))) X hP ff_X0_27 0 rfl rfl dX0_append_115 ?_
  refine lv_aload_n hx hb dX0_append_118 rfl (lv_at hl 0 rfl) ?_
  refine kget (v := .int c36) X hP ff_X0_39 0 rfl rfl dX0_append_119 ?_
  refine lv_lload hx hb dX0_append_122 (lv_at hl 3 rfl) ?_
  obtain ⟨hc, hf⟩ := ofck hf
  generalize hc39 : vp_updL c33 c36.toNatClampNeg j31 = c39 at hf
  refine klast2 (f := c33) (n := 24) (g := c39) X hP hD hS 6 rfl hc hc39 dX0_append_124 (fun H locs hP hD hS => ?_)
  have hP : va_P D vwCl [W_Bounds k b0 o0 v_least v_greatest v_lowerSums v_upperSums c38 c39 c34 c37 c36].flatten _ := hP
  have hD : va_D A [W_Bounds k b0 o0 v_least v_greatest v_lowerSums v_upperSums c38 c39 c34 c37 c36].flatten := hD
  refine lv_aload_n hx hb dX0_append_125 rfl (lv_at hl 0 rfl) ?_
  refine lv_dup hx hb dX0_append_126 rfl ?_
  refine kget (v := .int c36) X hP ff_X0_39 0 rfl rfl dX0_append_127 ?_
  refine lv_iconst (v := 1) hx hb dX0_append_130 (by decide) ?_
  refine lv_iadd hx hb dX0_append_131 ?_
  generalize hy40 : c36 + 1 = y40 at hf ⊢
  refine kputi (v := y40) X hP hD hS fp_X0_39 0 rfl (Nat.le_of_ble_eq_true rfl) dX0_append_132 (fun H locs hP hD hS => ?_)
  have hP : va_P D vwCl [W_Bounds k b0 o0 v_least v_greatest v_lowerSums v_upperSums c38 c39 c34 c37 y40].flatten _ := hP
  have hD : va_D A [W_Bounds k b0 o0 v_least v_greatest v_lowerSums v_upperSums c38 c39 c34 c37 y40].flatten := hD
  have hf := Option.some.inj hf
  subst hf
  exact kvret X hP hD hS dX0_append_135
set_option maxRecDepth 100000 in
set_option maxHeartbeats 1000000 in
theorem c_Bounds_append (l : Launch) (D : va_G) (k : Nat → ClassId) (t : Nat → Nat) (b0 : Nat → Nat) (o0 : Nat) (v_least : FJ) (v_greatest : FJ) (v_lowerSums : FJ) (v_upperSums : FJ) (v_lower : FJ) (v_upper : FJ) (v_places : (Nat → FI)) (v_placeCounts : FI) (v_things : Int32) (x1 : Int32) (x2 : Int64) (N : Nat) (out : FJ × FJ × (Nat → FI) × FI × Int32) (hf : f_Bounds_append N x1 x2 v_greatest v_lower v_upper v_places v_placeCounts v_things = some out) : CT l D k t yX0_append cX0_append 8 none rm_Bounds_append [.ref (b0 o0), .int x1, .long x2] [W_Bounds k b0 o0 v_least v_greatest v_lowerSums v_upperSums v_lower v_upper v_places v_placeCounts v_things].flatten none [W_Bounds k b0 o0 v_least v_greatest v_lowerSums v_upperSums out.1 out.2.1 out.2.2.1 out.2.2.2.1 out.2.2.2.2].flatten := by
  refine kofW (by decide) (Nat.le_of_ble_eq_true rfl) ?_
  intro p e s m below meth c A ls X hP hD hS hl
  have hx := X.1.1
  have hb := X.1.2.1
  have hml := X.1.2.2.1
  have hown := X.1.2.2.2.1
  have hts := X.1.2.2.2.2
  have hl : lv_has ls 8 [(0, .ref (b0 o0)), (1, .int x1), (2, .long x2)] := hl
  rw [f_Bounds_append] at hf
  refine lv_aload_n hx hb dX0_append_0 rfl (lv_at hl 0 rfl) ?_
  refine kget (v := .int v_things) X hP ff_X0_39 0 rfl rfl dX0_append_1 ?_
  refine lv_bipush (v := 24) hx hb dX0_append_4 (by decide) ?_
  refine lv_icmp_lt (tgt := 10) hx hb dX0_append_6 (by decide) (fun hc => ?_) (fun hc => ?_)
  · have hf := ofpos hf hc
    refine lv_iconst (v := 0) hx hb dX0_append_10 (by decide) ?_
    refine lv_istore (lv' := [(4, .int 0), (0, .ref (b0 o0)), (1, .int x1), (2, .long x2)]) hx hb dX0_append_11 hl (by decide) rfl (fun ls hl => ?_)
    refine lv_lconst (v := 0) hx hb dX0_append_13 (by decide) ?_
    refine lv_lstore (lv' := [(5, .long 0), (4, .int 0), (0, .ref (b0 o0)), (1, .int x1), (2, .long x2)]) hx hb dX0_append_14 hl (by decide) rfl (fun ls hl => ?_)
    refine lv_iconst (v := 0) hx hb dX0_append_16 (by decide) ?_
    refine lv_istore (lv' := [(7, .int 0), (5, .long 0), (4, .int 0), (0, .ref (b0 o0)), (1, .int x1), (2, .long x2)]) hx hb dX0_append_17 hl (by decide) rfl (fun ls hl => ?_)
    refine w_Bounds_append_L19 X b0 o0 v_least v_greatest v_lowerSums v_upperSums v_lower v_upper v_places v_placeCounts v_things N x1 x2 v_lower v_upper v_placeCounts v_things out _ ?_ N 0 0 0 v_places _ _ _ hP hD hS (lv_sub hl [3, 4, 5, 2, 1, 0] rfl) hf
    · intro i25 i26 i27 c28 H locs ls hP hD hS hl hf
      exact w_Bounds_append_J93 X b0 o0 v_least v_greatest v_lowerSums v_upperSums v_lower v_upper v_places v_placeCounts v_things N x2 i25 i26 v_lower v_upper c28 v_placeCounts v_things out _ _ _ hP hD hS (lv_sub hl [0, 1, 2, 3] rfl) hf
  · have hf := ofneg hf hc
    have hf := Option.some.inj hf
    subst hf
    exact kvret X hP hD hS dX0_append_9
/-! Bounds_sumBounds: private void sumBounds(); -/
abbrev rm_Bounds_sumBounds : Room := ({ frames := 1, cells := 0, slots := 0, locals := 24 } : Room)
def f_Bounds_sumBounds_L28 (i8 : Int32) (v_lower : FJ) (v_upper : FJ) (v_places : (Nat → FI)) (v_placeCounts : FI) (K88 : Int32 → FJ → FJ → Option (FJ × FJ)) : Nat → Int32 → FJ → FJ → Option (FJ × FJ)
  | 0, _, _, _ => none
  | n + 1, i9, c10, c11 => if ck i8 24 = true then if (v_placeCounts i8.toNatClampNeg) ≤ i9 then K88 i9 c10 c11 else if ck i8 24 = true then if ck i9 4 = true then if ck (v_places i8.toNatClampNeg i9.toNatClampNeg) 24 = true then if ck i8 24 = true then if ck (v_places i8.toNatClampNeg i9.toNatClampNeg) 24 = true then if ck i8 24 = true then if ck i9 4 = true then if ck (v_places i8.toNatClampNeg i9.toNatClampNeg) 24 = true then if ck i8 24 = true then if ck (v_places i8.toNatClampNeg i9.toNatClampNeg) 24 = true then f_Bounds_sumBounds_L28 i8 v_lower v_upper v_places v_placeCounts K88 n (i9 + 1) (vp_updL c10 (v_places i8.toNatClampNeg i9.toNatClampNeg).toNatClampNeg ((c10 (v_places i8.toNatClampNeg i9.toNatClampNeg).toNatClampNeg) + (v_lower i8.toNatClampNeg))) (vp_updL c11 (v_places i8.toNatClampNeg i9.toNatClampNeg).toNatClampNeg ((c11 (v_places i8.toNatClampNeg i9.toNatClampNeg).toNatClampNeg) + (v_upper i8.toNatClampNeg))) else none else none else none else none else none else none else none else none else none else none else none
def f_Bounds_sumBounds_L18 (N : Nat) (v_lower : FJ) (v_upper : FJ) (v_places : (Nat → FI)) (v_placeCounts : FI) (v_things : Int32) (K94 : Int32 → FJ → FJ → Option (FJ × FJ)) : Nat → Int32 → FJ → FJ → Option (FJ × FJ)
  | 0, _, _, _ => none
  | n + 1, i3, c4, c5 => if v_things ≤ i3 then K94 i3 c4 c5 else f_Bounds_sumBounds_L28 i3 v_lower v_upper v_places v_placeCounts (fun i14 c15 c16 => f_Bounds_sumBounds_L18 N v_lower v_upper v_places v_placeCounts v_things K94 n (i3 + 1) c15 c16) N 0 c4 c5
def f_Bounds_sumBounds (N : Nat) (v_lowerSums : FJ) (v_upperSums : FJ) (v_lower : FJ) (v_upper : FJ) (v_places : (Nat → FI)) (v_placeCounts : FI) (v_things : Int32) : Option (FJ × FJ) := f_Bounds_sumBounds_L18 N v_lower v_upper v_places v_placeCounts v_things (fun i17 c18 c19 => some (c18, c19)) N 0 (fun _ => 0) (fun _ => 0)
abbrev Q_Bounds_sumBounds (below : List Frame) (D : va_G) (k : Nat → ClassId) (A : Nat → Prop) (args : Array Value) (s : State) (b0 : Nat → Nat) (o0 : Nat) (v_least : FJ) (v_greatest : FJ) (v_lowerSums : FJ) (v_upperSums : FJ) (v_lower : FJ) (v_upper : FJ) (v_places : (Nat → FI)) (v_placeCounts : FI) (v_things : Int32) (out : FJ × FJ) : State → Prop := MQ below (QW D k A none [W_Bounds k b0 o0 v_least v_greatest out.1 out.2 v_lower v_upper v_places v_placeCounts v_things].flatten) args s 0 0 A
set_option maxRecDepth 100000 in
set_option maxHeartbeats 1000000 in
theorem w_Bounds_sumBounds_L28 {p : Program} {l : Launch} {e : Env} {s : State} {m : MethodId} {below : List Frame} {meth : Method} {c : Code} {args : Array Value} {A : Nat → Prop} {D : va_G} {k : Nat → ClassId} {t : Nat → Nat} (X : BX l D k t p s m args meth c cX0_sumBounds 3 RX0 none A) (b0 : Nat → Nat) (o0 : Nat) (v_least : FJ) (v_greatest : FJ) (v_lowerSums : FJ) (v_upperSums : FJ) (v_lower : FJ) (v_upper : FJ) (v_places : (Nat → FI)) (v_placeCounts : FI) (v_things : Int32) (N : Nat) (i8 : Int32) (out : FJ × FJ) (K88 : Int32 → FJ → FJ → Option (FJ × FJ)) (hK88 : ∀ (i9' : Int32) (c10' : FJ) (c11' : FJ) (H : Heap) (locs : List Loc) (ls : Array Slot), va_P D vwCl [W_Bounds k b0 o0 v_least v_greatest c10' c11' v_lower v_upper v_places v_placeCounts v_things].flatten H → va_D A [W_Bounds k b0 o0 v_least v_greatest c10' c11' v_lower v_upper v_places v_placeCounts v_things].flatten → va_S A s.heap H locs → lv_has ls 3 [(0, .ref (b0 o0)), (1, .int i8)] → K88 i9' c10' c11' = some out → W p l e rm_Bounds_sumBounds s m args below meth c H locs 0 0 (Q_Bounds_sumBounds below D k A args s b0 o0 v_least v_greatest v_lowerSums v_upperSums v_lower v_upper v_places v_placeCounts v_things out) (F0 m 88 ls [])) : ∀ (n : Nat) (i9 : Int32) (c10 : FJ) (c11 : FJ) (H : Heap) (locs : List Loc) (ls : Array Slot), va_P D vwCl [W_Bounds k b0 o0 v_least v_greatest c10 c11 v_lower v_upper v_places v_placeCounts v_things].flatten H → va_D A [W_Bounds k b0 o0 v_least v_greatest c10 c11 v_lower v_upper v_places v_placeCounts v_things].flatten → va_S A s.heap H locs → lv_has ls 3 [(0, .ref (b0 o0)), (1, .int i8), (2, .int i9)] → f_Bounds_sumBounds_L28 i8 v_lower v_upper v_places v_placeCounts K88 n i9 c10 c11 = some out → W p l e rm_Bounds_sumBounds s m args below meth c H locs 0 0 (Q_Bounds_sumBounds below D k A args s b0 o0 v_least v_greatest v_lowerSums v_upperSums v_lower v_upper v_places v_placeCounts v_things out) (F0 m 28 ls []) := by
  have hx := X.1.1
  have hb := X.1.2.1
  have hml := X.1.2.2.1
  have hown := X.1.2.2.2.1
  have hts := X.1.2.2.2.2
  intro n
  induction n with
  | zero =>
    intro i9 c10 c11 H locs ls hP hD hS hl hf
    rw [f_Bounds_sumBounds_L28] at hf
    cases hf
  | succ n ih =>
    intro i9 c10 c11 H locs ls hP hD hS hl hf
    rw [f_Bounds_sumBounds_L28] at hf
    refine lv_iload_n hx hb dX0_sumBounds_28 rfl (lv_at hl 2 rfl) ?_
    refine lv_aload_n hx hb dX0_sumBounds_29 rfl (lv_at hl 0 rfl) ?_
    refine kget (v := .ref (b0 (o0+8))) X hP ff_X0_35 0 rfl rfl dX0_sumBounds_30 ?_
    refine lv_iload_n hx hb dX0_sumBounds_33 rfl (lv_at hl 1 rfl) ?_
    obtain ⟨hc, hf⟩ := ofck hf
    refine kiald (f := v_placeCounts) (n := 24) X hP 8 rfl hc dX0_sumBounds_34 ?_
    refine lv_icmp_ge (tgt := 88) hx hb dX0_sumBounds_35 (by decide) (fun hc => ?_) (fun hc => ?_)
    · have hf := ofpos hf hc
      exact hK88 i9 c10 c11 _ _ _ hP hD hS (lv_sub hl [0, 1] rfl) hf
    · have hf := ofneg hf hc
      refine lv_aload_n hx hb dX0_sumBounds_38 rfl (lv_at hl 0 rfl) ?_
      refine kget (v := .ref (b0 (o0+3))) X hP ff_X0_18 0 rfl rfl dX0_sumBounds_39 ?_
      refine lv_aload_n hx hb dX0_sumBounds_42 rfl (lv_at hl 0 rfl) ?_
      refine kget (v := .ref (b0 (o0+7))) X hP ff_X0_32 0 rfl rfl dX0_sumBounds_43 ?_
      refine lv_iload_n hx hb dX0_sumBounds_46 rfl (lv_at hl 1 rfl) ?_
      obtain ⟨hc, hf⟩ := ofck hf
      have hrow := hc
      refine kg_row X hP hc dX0_sumBounds_47 ?_
      refine lv_iload_n hx hb dX0_sumBounds_48 rfl (lv_at hl 2 rfl) ?_
      obtain ⟨hc, hf⟩ := ofck hf
      refine kg_ld X hP hrow hc dX0_sumBounds_49 ?_
      refine lv_dup2_11 hx hb dX0_sumBounds_50 rfl rfl ?_
      obtain ⟨hc, hf⟩ := ofck hf
      refine klald (f := c10) (n := 24) X hP 3 rfl hc dX0_sumBounds_51 ?_
      refine lv_aload_n hx hb dX0_sumBounds_52 rfl (lv_at hl 0 rfl) ?_
      refine kget (v := .ref (b0 (o0+5))) X hP ff_X0_24 0 rfl rfl dX0_sumBounds_53 ?_
      refine lv_iload_n hx hb dX0_sumBounds_56 rfl (lv_at hl 1 rfl) ?_
      obtain ⟨hc, hf⟩ := ofck hf
      refine klald (f := v_lower) (n := 24) X hP 5 rfl hc dX0_sumBounds_57 ?_
      refine lv_ladd hx hb dX0_sumBounds_58 ?_
      obtain ⟨hc, hf⟩ := ofck hf
      generalize hc12 : vp_updL c10 (v_places i8.toNatClampNeg i9.toNatClampNeg).toNatClampNeg ((c10 (v_places i8.toNatClampNeg i9.toNatClampNeg).toNatClampNeg) + (v_lower i8.toNatClampNeg)) = c12 at hf
      refine klast2 (f := c10) (n := 24) (g := c12) X hP hD hS 3 rfl hc hc12 dX0_sumBounds_59 (fun H locs hP hD hS => ?_)
      have hP : va_P D vwCl [W_Bounds k b0 o0 v_least v_greatest c12 c11 v_lower v_upper v_places v_placeCounts v_things].flatten _ := hP
      have hD : va_D A [W_Bounds k b0 o0 v_least v_greatest c12 c11 v_lower v_upper v_places v_placeCounts v_things].flatten := hD
      refine lv_aload_n hx hb dX0_sumBounds_60 rfl (lv_at hl 0 rfl) ?_
      refine kget (v := .ref (b0 (o0+4))) X hP ff_X0_21 0 rfl rfl dX0_sumBounds_61 ?_
      refine lv_aload_n hx hb dX0_sumBounds_64 rfl (lv_at hl 0 rfl) ?_
      refine kget (v := .ref (b0 (o0+7))) X hP ff_X0_32 0 rfl rfl dX0_sumBounds_65 ?_
      refine lv_iload_n hx hb dX0_sumBounds_68 rfl (lv_at hl 1 rfl) ?_
      obtain ⟨hc, hf⟩ := ofck hf
      have hrow := hc
      refine kg_row X hP hc dX0_sumBounds_69 ?_
      refine lv_iload_n hx hb dX0_sumBounds_70 rfl (lv_at hl 2 rfl) ?_
      obtain ⟨hc, hf⟩ := ofck hf
      refine kg_ld X hP hrow hc dX0_sumBounds_71 ?_
      refine lv_dup2_11 hx hb dX0_sumBounds_72 rfl rfl ?_
      obtain ⟨hc, hf⟩ := ofck hf
      refine klald (f := c11) (n := 24) X hP 4 rfl hc dX0_sumBounds_73 ?_
      refine lv_aload_n hx hb dX0_sumBounds_74 rfl (lv_at hl 0 rfl) ?_
      refine kget (v := .ref (b0 (o0+6))) X hP ff_X0_27 0 rfl rfl dX0_sumBounds_75 ?_
      refine lv_iload_n hx hb dX0_sumBounds_78 rfl (lv_at hl 1 rfl) ?_
      obtain ⟨hc, hf⟩ := ofck hf
      refine klald (f := v_upper) (n := 24) X hP 6 rfl hc dX0_sumBounds_79 ?_
      refine lv_ladd hx hb dX0_sumBounds_80 ?_
      obtain ⟨hc, hf⟩ := ofck hf
      generalize hc13 : vp_updL c11 (v_places i8.toNatClampNeg i9.toNatClampNeg).toNatClampNeg ((c11 (v_places i8.toNatClampNeg i9.toNatClampNeg).toNatClampNeg) + (v_upper i8.toNatClampNeg)) = c13 at hf
      refine klast2 (f := c11) (n := 24) (g := c13) X hP hD hS 4 rfl hc hc13 dX0_sumBounds_81 (fun H locs hP hD hS => ?_)
      have hP : va_P D vwCl [W_Bounds k b0 o0 v_least v_greatest c12 c13 v_lower v_upper v_places v_placeCounts v_things].flatten _ := hP
      have hD : va_D A [W_Bounds k b0 o0 v_least v_greatest c12 c13 v_lower v_upper v_places v_placeCounts v_things].flatten := hD
      refine lv_iinc (v := i9 + 1) (lv' := [(2, .int (i9 + 1)), (0, .ref (b0 o0)), (1, .int i8)]) hx hb dX0_sumBounds_82 hl (k := 2) rfl rfl (by decide) rfl (fun ls hl => ?_)
      refine lv_goto (tgt := 28) hx hb dX0_sumBounds_85 (by decide) ?_
      exact ih (i9 + 1) c12 c13 _ _ _ hP hD hS (lv_sub hl [1, 2, 0] rfl) hf
set_option maxRecDepth 100000 in
set_option maxHeartbeats 1000000 in
theorem w_Bounds_sumBounds_L18 {p : Program} {l : Launch} {e : Env} {s : State} {m : MethodId} {below : List Frame} {meth : Method} {c : Code} {args : Array Value} {A : Nat → Prop} {D : va_G} {k : Nat → ClassId} {t : Nat → Nat} (X : BX l D k t p s m args meth c cX0_sumBounds 3 RX0 none A) (b0 : Nat → Nat) (o0 : Nat) (v_least : FJ) (v_greatest : FJ) (v_lowerSums : FJ) (v_upperSums : FJ) (v_lower : FJ) (v_upper : FJ) (v_places : (Nat → FI)) (v_placeCounts : FI) (v_things : Int32) (N : Nat) (out : FJ × FJ) (K94 : Int32 → FJ → FJ → Option (FJ × FJ)) (hK94 : ∀ (i3' : Int32) (c4' : FJ) (c5' : FJ) (H : Heap) (locs : List Loc) (ls : Array Slot), va_P D vwCl [W_Bounds k b0 o0 v_least v_greatest c4' c5' v_lower v_upper v_places v_placeCounts v_things].flatten H → va_D A [W_Bounds k b0 o0 v_least v_greatest c4' c5' v_lower v_upper v_places v_placeCounts v_things].flatten → va_S A s.heap H locs → lv_has ls 3 [] → K94 i3' c4' c5' = some out → W p l e rm_Bounds_sumBounds s m args below meth c H locs 0 0 (Q_Bounds_sumBounds below D k A args s b0 o0 v_least v_greatest v_lowerSums v_upperSums v_lower v_upper v_places v_placeCounts v_things out) (F0 m 94 ls [])) : ∀ (n : Nat) (i3 : Int32) (c4 : FJ) (c5 : FJ) (H : Heap) (locs : List Loc) (ls : Array Slot), va_P D vwCl [W_Bounds k b0 o0 v_least v_greatest c4 c5 v_lower v_upper v_places v_placeCounts v_things].flatten H → va_D A [W_Bounds k b0 o0 v_least v_greatest c4 c5 v_lower v_upper v_places v_placeCounts v_things].flatten → va_S A s.heap H locs → lv_has ls 3 [(0, .ref (b0 o0)), (1, .int i3)] → f_Bounds_sumBounds_L18 N v_lower v_upper v_places v_placeCounts v_things K94 n i3 c4 c5 = some out → W p l e rm_Bounds_sumBounds s m args below meth c H locs 0 0 (Q_Bounds_sumBounds below D k A args s b0 o0 v_least v_greatest v_lowerSums v_upperSums v_lower v_upper v_places v_placeCounts v_things out) (F0 m 18 ls []) := by
  have hx := X.1.1
  have hb := X.1.2.1
  have hml := X.1.2.2.1
  have hown := X.1.2.2.2.1
  have hts := X.1.2.2.2.2
  intro n
  induction n with
  | zero =>
    intro i3 c4 c5 H locs ls hP hD hS hl hf
    rw [f_Bounds_sumBounds_L18] at hf
    cases hf
  | succ n ih =>
    intro i3 c4 c5 H locs ls hP hD hS hl hf
    rw [f_Bounds_sumBounds_L18] at hf
    refine lv_iload_n hx hb dX0_sumBounds_18 rfl (lv_at hl 1 rfl) ?_
    refine lv_aload_n hx hb dX0_sumBounds_19 rfl (lv_at hl 0 rfl) ?_
    refine kget (v := .int v_things) X hP ff_X0_39 0 rfl rfl dX0_sumBounds_20 ?_
    refine lv_icmp_ge (tgt := 94) hx hb dX0_sumBounds_23 (by decide) (fun hc => ?_) (fun hc => ?_)
    · have hf := ofpos hf hc
      exact hK94 i3 c4 c5 _ _ _ hP hD hS (lv_sub hl [] rfl) hf
    · have hf := ofneg hf hc
      refine lv_iconst (v := 0) hx hb dX0_sumBounds_26 (by decide) ?_
      refine lv_istore_n (lv' := [(2, .int 0), (0, .ref (b0 o0)), (1, .int i3)]) hx hb dX0_sumBounds_27 rfl hl (by decide) rfl (fun ls hl => ?_)
      refine w_Bounds_sumBounds_L28 X b0 o0 v_least v_greatest v_lowerSums v_upperSums v_lower v_upper v_places v_placeCounts v_things N i3 out _ ?_ N 0 c4 c5 _ _ _ hP hD hS (lv_sub hl [1, 2, 0] rfl) hf
      · intro i14 c15 c16 H locs ls hP hD hS hl hf
        refine lv_iinc (v := i3 + 1) (lv' := [(1, .int (i3 + 1)), (0, .ref (b0 o0))]) hx hb dX0_sumBounds_88 hl (k := 1) rfl rfl (by decide) rfl (fun ls hl => ?_)
        refine lv_goto (tgt := 18) hx hb dX0_sumBounds_91 (by decide) ?_
        exact ih (i3 + 1) c15 c16 _ _ _ hP hD hS (lv_sub hl [1, 0] rfl) hf
set_option maxRecDepth 100000 in
set_option maxHeartbeats 1000000 in
theorem c_Bounds_sumBounds (l : Launch) (D : va_G) (k : Nat → ClassId) (t : Nat → Nat) (b0 : Nat → Nat) (o0 : Nat) (v_least : FJ) (v_greatest : FJ) (v_lowerSums : FJ) (v_upperSums : FJ) (v_lower : FJ) (v_upper : FJ) (v_places : (Nat → FI)) (v_placeCounts : FI) (v_things : Int32) (N : Nat) (out : FJ × FJ) (hf : f_Bounds_sumBounds N v_lowerSums v_upperSums v_lower v_upper v_places v_placeCounts v_things = some out) : CT l D k t yX0_sumBounds cX0_sumBounds 3 none rm_Bounds_sumBounds [.ref (b0 o0)] [W_Bounds k b0 o0 v_least v_greatest v_lowerSums v_upperSums v_lower v_upper v_places v_placeCounts v_things].flatten none [W_Bounds k b0 o0 v_least v_greatest out.1 out.2 v_lower v_upper v_places v_placeCounts v_things].flatten := by
  refine kofW (by decide) (Nat.le_of_ble_eq_true rfl) ?_
  intro p e s m below meth c A ls X hP hD hS hl
  have hx := X.1.1
  have hb := X.1.2.1
  have hml := X.1.2.2.1
  have hown := X.1.2.2.2.1
  have hts := X.1.2.2.2.2
  have hl : lv_has ls 3 [(0, .ref (b0 o0))] := hl
  rw [f_Bounds_sumBounds] at hf
  refine lv_aload_n hx hb dX0_sumBounds_0 rfl (lv_at hl 0 rfl) ?_
  refine kget (v := .ref (b0 (o0+3))) X hP ff_X0_18 0 rfl rfl dX0_sumBounds_1 ?_
  refine lv_lconst (v := 0) hx hb dX0_sumBounds_4 (by decide) ?_
  have hP : va_P D vwCl [[((b0 o0), .inr (0, [.ref (b0 (o0+1)), .ref (b0 (o0+2)), .ref (b0 (o0+3)), .ref (b0 (o0+4)), .ref (b0 (o0+5)), .ref (b0 (o0+6)), .ref (b0 (o0+7)), .ref (b0 (o0+8)), .int v_things]))], [((b0 (o0+1)), .inl (k 1, 24, .inr (.inl v_least)))], [((b0 (o0+2)), .inl (k 1, 24, .inr (.inl v_greatest)))], [((b0 (o0+3)), .inl (k 1, 24, .inr (.inl v_lowerSums)))], [((b0 (o0+4)), .inl (k 1, 24, .inr (.inl v_upperSums)))], [((b0 (o0+5)), .inl (k 1, 24, .inr (.inl v_lower)))], [((b0 (o0+6)), .inl (k 1, 24, .inr (.inl v_upper)))], [((b0 (o0+7)), .inl (k 3, 24, .inr (.inr (.inr (.inr (fun i => some (b0 (o0+9 + i))))))))], [((b0 (o0+8)), .inl (k 0, 24, .inl v_placeCounts))], gRows k b0 (o0+9) v_places].flatten _ := hP
  have hD : va_D A [[((b0 o0), .inr (0, [.ref (b0 (o0+1)), .ref (b0 (o0+2)), .ref (b0 (o0+3)), .ref (b0 (o0+4)), .ref (b0 (o0+5)), .ref (b0 (o0+6)), .ref (b0 (o0+7)), .ref (b0 (o0+8)), .int v_things]))], [((b0 (o0+1)), .inl (k 1, 24, .inr (.inl v_least)))], [((b0 (o0+2)), .inl (k 1, 24, .inr (.inl v_greatest)))], [((b0 (o0+3)), .inl (k 1, 24, .inr (.inl v_lowerSums)))], [((b0 (o0+4)), .inl (k 1, 24, .inr (.inl v_upperSums)))], [((b0 (o0+5)), .inl (k 1, 24, .inr (.inl v_lower)))], [((b0 (o0+6)), .inl (k 1, 24, .inr (.inl v_upper)))], [((b0 (o0+7)), .inl (k 3, 24, .inr (.inr (.inr (.inr (fun i => some (b0 (o0+9 + i))))))))], [((b0 (o0+8)), .inl (k 0, 24, .inl v_placeCounts))], gRows k b0 (o0+9) v_places].flatten := hD
  refine kcS (bs := [[((b0 o0), .inr (0, [.ref (b0 (o0+1)), .ref (b0 (o0+2)), .ref (b0 (o0+3)), .ref (b0 (o0+4)), .ref (b0 (o0+5)), .ref (b0 (o0+6)), .ref (b0 (o0+7)), .ref (b0 (o0+8)), .int v_things]))], [((b0 (o0+1)), .inl (k 1, 24, .inr (.inl v_least)))], [((b0 (o0+2)), .inl (k 1, 24, .inr (.inl v_greatest)))], [((b0 (o0+3)), .inl (k 1, 24, .inr (.inl v_lowerSums)))], [((b0 (o0+4)), .inl (k 1, 24, .inr (.inl v_upperSums)))], [((b0 (o0+5)), .inl (k 1, 24, .inr (.inl v_lower)))], [((b0 (o0+6)), .inl (k 1, 24, .inr (.inl v_upper)))], [((b0 (o0+7)), .inl (k 3, 24, .inr (.inr (.inr (.inr (fun i => some (b0 (o0+9 + i))))))))], [((b0 (o0+8)), .inl (k 0, 24, .inl v_placeCounts))], gRows k b0 (o0+9) v_places]) (br := [[((b0 o0), .inr (0, [.ref (b0 (o0+1)), .ref (b0 (o0+2)), .ref (b0 (o0+3)), .ref (b0 (o0+4)), .ref (b0 (o0+5)), .ref (b0 (o0+6)), .ref (b0 (o0+7)), .ref (b0 (o0+8)), .int v_things]))], [((b0 (o0+1)), .inl (k 1, 24, .inr (.inl v_least)))], [((b0 (o0+2)), .inl (k 1, 24, .inr (.inl v_greatest)))], [((b0 (o0+4)), .inl (k 1, 24, .inr (.inl v_upperSums)))], [((b0 (o0+5)), .inl (k 1, 24, .inr (.inl v_lower)))], [((b0 (o0+6)), .inl (k 1, 24, .inr (.inl v_upper)))], [((b0 (o0+7)), .inl (k 3, 24, .inr (.inr (.inr (.inr (fun i => some (b0 (o0+9 + i))))))))], [((b0 (o0+8)), .inl (k 0, 24, .inl v_placeCounts))], gRows k b0 (o0+9) v_places]) (bc := [[((b0 (o0+3)), .inl (k 1, 24, .inr (.inl v_lowerSums)))]]) (bc' := [[((b0 (o0+3)), .inl (k 1, 24, .inr (.inl (fun _ => 0))))]]) X hP hD hS (c_fillJ l D k t (b0 (o0+3)) 24 v_lowerSums 0) ms_X0_64 hl [0, 1, 2, 4, 5, 6, 7, 8, 9] [3] ⟨rfl, rfl⟩ ⟨Nat.le_of_ble_eq_true rfl, Nat.le_of_ble_eq_true rfl⟩ rfl rfl rfl rfl (Nat.le_of_ble_eq_true rfl) dX0_sumBounds_5 (fun H locs hP hD hS => ?_)
  have hP : va_P D vwCl [[((b0 o0), .inr (0, [.ref (b0 (o0+1)), .ref (b0 (o0+2)), .ref (b0 (o0+3)), .ref (b0 (o0+4)), .ref (b0 (o0+5)), .ref (b0 (o0+6)), .ref (b0 (o0+7)), .ref (b0 (o0+8)), .int v_things]))], [((b0 (o0+1)), .inl (k 1, 24, .inr (.inl v_least)))], [((b0 (o0+2)), .inl (k 1, 24, .inr (.inl v_greatest)))], [((b0 (o0+4)), .inl (k 1, 24, .inr (.inl v_upperSums)))], [((b0 (o0+5)), .inl (k 1, 24, .inr (.inl v_lower)))], [((b0 (o0+6)), .inl (k 1, 24, .inr (.inl v_upper)))], [((b0 (o0+7)), .inl (k 3, 24, .inr (.inr (.inr (.inr (fun i => some (b0 (o0+9 + i))))))))], [((b0 (o0+8)), .inl (k 0, 24, .inl v_placeCounts))], gRows k b0 (o0+9) v_places, [((b0 (o0+3)), .inl (k 1, 24, .inr (.inl (fun _ => 0))))]].flatten _ := hP
  have hD : va_D A [[((b0 o0), .inr (0, [.ref (b0 (o0+1)), .ref (b0 (o0+2)), .ref (b0 (o0+3)), .ref (b0 (o0+4)), .ref (b0 (o0+5)), .ref (b0 (o0+6)), .ref (b0 (o0+7)), .ref (b0 (o0+8)), .int v_things]))], [((b0 (o0+1)), .inl (k 1, 24, .inr (.inl v_least)))], [((b0 (o0+2)), .inl (k 1, 24, .inr (.inl v_greatest)))], [((b0 (o0+4)), .inl (k 1, 24, .inr (.inl v_upperSums)))], [((b0 (o0+5)), .inl (k 1, 24, .inr (.inl v_lower)))], [((b0 (o0+6)), .inl (k 1, 24, .inr (.inl v_upper)))], [((b0 (o0+7)), .inl (k 3, 24, .inr (.inr (.inr (.inr (fun i => some (b0 (o0+9 + i))))))))], [((b0 (o0+8)), .inl (k 0, 24, .inl v_placeCounts))], gRows k b0 (o0+9) v_places, [((b0 (o0+3)), .inl (k 1, 24, .inr (.inl (fun _ => 0))))]].flatten := hD
  refine lv_aload_n hx hb dX0_sumBounds_8 rfl (lv_at hl 0 rfl) ?_
  refine kget (v := .ref (b0 (o0+4))) X hP ff_X0_21 0 rfl rfl dX0_sumBounds_9 ?_
  refine lv_lconst (v := 0) hx hb dX0_sumBounds_12 (by decide) ?_
  refine kcS (bs := [[((b0 o0), .inr (0, [.ref (b0 (o0+1)), .ref (b0 (o0+2)), .ref (b0 (o0+3)), .ref (b0 (o0+4)), .ref (b0 (o0+5)), .ref (b0 (o0+6)), .ref (b0 (o0+7)), .ref (b0 (o0+8)), .int v_things]))], [((b0 (o0+1)), .inl (k 1, 24, .inr (.inl v_least)))], [((b0 (o0+2)), .inl (k 1, 24, .inr (.inl v_greatest)))], [((b0 (o0+4)), .inl (k 1, 24, .inr (.inl v_upperSums)))], [((b0 (o0+5)), .inl (k 1, 24, .inr (.inl v_lower)))], [((b0 (o0+6)), .inl (k 1, 24, .inr (.inl v_upper)))], [((b0 (o0+7)), .inl (k 3, 24, .inr (.inr (.inr (.inr (fun i => some (b0 (o0+9 + i))))))))], [((b0 (o0+8)), .inl (k 0, 24, .inl v_placeCounts))], gRows k b0 (o0+9) v_places, [((b0 (o0+3)), .inl (k 1, 24, .inr (.inl (fun _ => 0))))]]) (br := [[((b0 o0), .inr (0, [.ref (b0 (o0+1)), .ref (b0 (o0+2)), .ref (b0 (o0+3)), .ref (b0 (o0+4)), .ref (b0 (o0+5)), .ref (b0 (o0+6)), .ref (b0 (o0+7)), .ref (b0 (o0+8)), .int v_things]))], [((b0 (o0+1)), .inl (k 1, 24, .inr (.inl v_least)))], [((b0 (o0+2)), .inl (k 1, 24, .inr (.inl v_greatest)))], [((b0 (o0+5)), .inl (k 1, 24, .inr (.inl v_lower)))], [((b0 (o0+6)), .inl (k 1, 24, .inr (.inl v_upper)))], [((b0 (o0+7)), .inl (k 3, 24, .inr (.inr (.inr (.inr (fun i => some (b0 (o0+9 + i))))))))], [((b0 (o0+8)), .inl (k 0, 24, .inl v_placeCounts))], gRows k b0 (o0+9) v_places, [((b0 (o0+3)), .inl (k 1, 24, .inr (.inl (fun _ => 0))))]]) (bc := [[((b0 (o0+4)), .inl (k 1, 24, .inr (.inl v_upperSums)))]]) (bc' := [[((b0 (o0+4)), .inl (k 1, 24, .inr (.inl (fun _ => 0))))]]) X hP hD hS (c_fillJ l D k t (b0 (o0+4)) 24 v_upperSums 0) ms_X0_64 hl [0, 1, 2, 4, 5, 6, 7, 8, 9] [3] ⟨rfl, rfl⟩ ⟨Nat.le_of_ble_eq_true rfl, Nat.le_of_ble_eq_true rfl⟩ rfl rfl rfl rfl (Nat.le_of_ble_eq_true rfl) dX0_sumBounds_13 (fun H locs hP hD hS => ?_)
  have hP : va_P D vwCl [[((b0 o0), .inr (0, [.ref (b0 (o0+1)), .ref (b0 (o0+2)), .ref (b0 (o0+3)), .ref (b0 (o0+4)), .ref (b0 (o0+5)), .ref (b0 (o0+6)), .ref (b0 (o0+7)), .ref (b0 (o0+8)), .int v_things]))], [((b0 (o0+1)), .inl (k 1, 24, .inr (.inl v_least)))], [((b0 (o0+2)), .inl (k 1, 24, .inr (.inl v_greatest)))], [((b0 (o0+5)), .inl (k 1, 24, .inr (.inl v_lower)))], [((b0 (o0+6)), .inl (k 1, 24, .inr (.inl v_upper)))], [((b0 (o0+7)), .inl (k 3, 24, .inr (.inr (.inr (.inr (fun i => some (b0 (o0+9 + i))))))))], [((b0 (o0+8)), .inl (k 0, 24, .inl v_placeCounts))], gRows k b0 (o0+9) v_places, [((b0 (o0+3)), .inl (k 1, 24, .inr (.inl (fun _ => 0))))], [((b0 (o0+4)), .inl (k 1, 24, .inr (.inl (fun _ => 0))))]].flatten _ := hP
  have hD : va_D A [[((b0 o0), .inr (0, [.ref (b0 (o0+1)), .ref (b0 (o0+2)), .ref (b0 (o0+3)), .ref (b0 (o0+4)), .ref (b0 (o0+5)), .ref (b0 (o0+6)), .ref (b0 (o0+7)), .ref (b0 (o0+8)), .int v_things]))], [((b0 (o0+1)), .inl (k 1, 24, .inr (.inl v_least)))], [((b0 (o0+2)), .inl (k 1, 24, .inr (.inl v_greatest)))], [((b0 (o0+5)), .inl (k 1, 24, .inr (.inl v_lower)))], [((b0 (o0+6)), .inl (k 1, 24, .inr (.inl v_upper)))], [((b0 (o0+7)), .inl (k 3, 24, .inr (.inr (.inr (.inr (fun i => some (b0 (o0+9 + i))))))))], [((b0 (o0+8)), .inl (k 0, 24, .inl v_placeCounts))], gRows k b0 (o0+9) v_places, [((b0 (o0+3)), .inl (k 1, 24, .inr (.inl (fun _ => 0))))], [((b0 (o0+4)), .inl (k 1, 24, .inr (.inl (fun _ => 0))))]].flatten := hD
  refine lv_iconst (v := 0) hx hb dX0_sumBounds_16 (by decide) ?_
  refine lv_istore_n (lv' := [(1, .int 0), (0, .ref (b0 o0))]) hx hb dX0_sumBounds_17 rfl hl (by decide) rfl (fun ls hl => ?_)
  obtain ⟨hP, hD⟩ := B_perm (br := [[((b0 o0), .inr (0, [.ref (b0 (o0+1)), .ref (b0 (o0+2)), .ref (b0 (o0+3)), .ref (b0 (o0+4)), .ref (b0 (o0+5)), .ref (b0 (o0+6)), .ref (b0 (o0+7)), .ref (b0 (o0+8)), .int v_things]))], [((b0 (o0+1)), .inl (k 1, 24, .inr (.inl v_least)))], [((b0 (o0+2)), .inl (k 1, 24, .inr (.inl v_greatest)))], [((b0 (o0+3)), .inl (k 1, 24, .inr (.inl (fun _ => 0))))], [((b0 (o0+4)), .inl (k 1, 24, .inr (.inl (fun _ => 0))))], [((b0 (o0+5)), .inl (k 1, 24, .inr (.inl v_lower)))], [((b0 (o0+6)), .inl (k 1, 24, .inr (.inl v_upper)))], [((b0 (o0+7)), .inl (k 3, 24, .inr (.inr (.inr (.inr (fun i => some (b0 (o0+9 + i))))))))], [((b0 (o0+8)), .inl (k 0, 24, .inl v_placeCounts))], gRows k b0 (o0+9) v_places]) hP hD [0, 1, 2, 8, 9, 3, 4, 5, 6, 7] rfl rfl
  have hP : va_P D vwCl [W_Bounds k b0 o0 v_least v_greatest (fun _ => 0) (fun _ => 0) v_lower v_upper v_places v_placeCounts v_things].flatten _ := hP
  have hD : va_D A [W_Bounds k b0 o0 v_least v_greatest (fun _ => 0) (fun _ => 0) v_lower v_upper v_places v_placeCounts v_things].flatten := hD
  refine w_Bounds_sumBounds_L18 X b0 o0 v_least v_greatest v_lowerSums v_upperSums v_lower v_upper v_places v_placeCounts v_things N out _ ?_ N 0 (fun _ => 0) (fun _ => 0) _ _ _ hP hD hS (lv_sub hl [1, 0] rfl) hf
  · intro i17 c18 c19 H locs ls hP hD hS hl hf
    have hf := Option.some.inj hf
    subst hf
    exact kvret X hP hD hS dX0_sumBounds_94
/-! Bounds_narrowThing: private boolean narrowThing(int); -/
abbrev rm_Bounds_narrowThing : Room := ({ frames := 0, cells := 0, slots := 0, locals := 0 } : Room)
def f_Bounds_narrowThing_J103 (j8 : Int64) (j9 : Int32) (j10 : Int64) (t11 : Int64) (B18 : Int64 → Int64 → Int32 → Option (Int32 × FJ × FJ)) : Option (Int32 × FJ × FJ) := if j10 ≤ j8 then B18 j8 t11 (j9 + 1) else B18 j10 t11 (j9 + 1)
def f_Bounds_narrowThing_L18 (i1 : Int32) (c5 : FJ) (c6 : FJ) (v_least : FJ) (v_greatest : FJ) (v_lowerSums : FJ) (v_upperSums : FJ) (v_places : (Nat → FI)) (v_placeCounts : FI) (K125 : Int64 → Int64 → Int32 → Option (Int32 × FJ × FJ)) : Nat → Int64 → Int64 → Int32 → Option (Int32 × FJ × FJ)
  | 0, _, _, _ => none
  | n + 1, i2, i3, i4 => if ck i1 24 = true then if (v_placeCounts i1.toNatClampNeg) ≤ i4 then K125 i2 i3 i4 else if ck i1 24 = true then if ck i4 4 = true then if ck (v_places i1.toNatClampNeg i4.toNatClampNeg) 24 = true then if ck (v_places i1.toNatClampNeg i4.toNatClampNeg) 24 = true then if ck i1 24 = true then if ck (v_places i1.toNatClampNeg i4.toNatClampNeg) 24 = true then if ck (v_places i1.toNatClampNeg i4.toNatClampNeg) 24 = true then if ck i1 24 = true then if i3 ≤ ((v_greatest (v_places i1.toNatClampNeg i4.toNatClampNeg).toNatClampNeg) - ((v_lowerSums (v_places i1.toNatClampNeg i4.toNatClampNeg).toNatClampNeg) - (c5 i1.toNatClampNeg))) then f_Bounds_narrowThing_J103 i2 i4 ((v_least (v_places i1.toNatClampNeg i4.toNatClampNeg).toNatClampNeg) - ((v_upperSums (v_places i1.toNatClampNeg i4.toNatClampNeg).toNatClampNeg) - (c6 i1.toNatClampNeg))) i3 (f_Bounds_narrowThing_L18 i1 c5 c6 v_least v_greatest v_lowerSums v_upperSums v_places v_placeCounts K125 n) else f_Bounds_narrowThing_J103 i2 i4 ((v_least (v_places i1.toNatClampNeg i4.toNatClampNeg).toNatClampNeg) - ((v_upperSums (v_places i1.toNatClampNeg i4.toNatClampNeg).toNatClampNeg) - (c6 i1.toNatClampNeg))) ((v_greatest (v_places i1.toNatClampNeg i4.toNatClampNeg).toNatClampNeg) - ((v_lowerSums (v_places i1.toNatClampNeg i4.toNatClampNeg).toNatClampNeg) - (c5 i1.toNatClampNeg))) (f_Bounds_narrowThing_L18 i1 c5 c6 v_least v_greatest v_lowerSums v_upperSums v_places v_placeCounts K125 n) else none else none else none else none else none else none else none else none else none
def f_Bounds_narrowThing_J153 (j22 : Int32) (j23 : Int64) (j24 : Int64) (t25 : Int32) (c26 : FJ) (c27 : FJ) : Option (Int32 × FJ × FJ) := if ck j22 24 = true then if ck j22 24 = true then if t25 = 0 ∨ t25 = 1 then some (t25, (vp_updL c26 j22.toNatClampNeg j23), (vp_updL c27 j22.toNatClampNeg j24)) else none else none else none
def f_Bounds_narrowThing_J148 (j17 : Int32) (j18 : Int64) (j19 : Int64) (c20 : FJ) (c21 : FJ) : Option (Int32 × FJ × FJ) := f_Bounds_narrowThing_J153 j17 j18 j19 1 c20 c21
def f_Bounds_narrowThing (N : Nat) (x1 : Int32) (v_least : FJ) (v_greatest : FJ) (v_lowerSums : FJ) (v_upperSums : FJ) (v_lower : FJ) (v_upper : FJ) (v_places : (Nat → FI)) (v_placeCounts : FI) : Option (Int32 × FJ × FJ) := if ck x1 24 = true then if ck x1 24 = true then f_Bounds_narrowThing_L18 x1 v_lower v_upper v_least v_greatest v_lowerSums v_upperSums v_places v_placeCounts (fun i14 i15 i16 => if ck x1 24 = true then if i14 = (v_lower x1.toNatClampNeg) then if ck x1 24 = true then if i15 = (v_upper x1.toNatClampNeg) then f_Bounds_narrowThing_J153 x1 i14 i15 0 v_lower v_upper else f_Bounds_narrowThing_J148 x1 i14 i15 v_lower v_upper else none else f_Bounds_narrowThing_J148 x1 i14 i15 v_lower v_upper else none) N (v_lower x1.toNatClampNeg) (v_upper x1.toNatClampNeg) 0 else none else none
abbrev Q_Bounds_narrowThing (below : List Frame) (D : va_G) (k : Nat → ClassId) (A : Nat → Prop) (args : Array Value) (s : State) (b0 : Nat → Nat) (o0 : Nat) (v_least : FJ) (v_greatest : FJ) (v_lowerSums : FJ) (v_upperSums : FJ) (v_lower : FJ) (v_upper : FJ) (v_places : (Nat → FI)) (v_placeCounts : FI) (v_things : Int32) (out : Int32 × FJ × FJ) : State → Prop := MQ below (QW D k A (some (.int out.1)) [W_Bounds k b0 o0 v_least v_greatest v_lowerSums v_upperSums out.2.1 out.2.2 v_places v_placeCounts v_things].flatten) args s 0 0 A
set_option maxRecDepth 100000 in
set_option maxHeartbeats 1000000 in
theorem w_Bounds_narrowThing_J103 {p : Program} {l : Launch} {e : Env} {s : State} {m : MethodId} {below : List Frame} {meth : Method} {c : Code} {args : Array Value} {A : Nat → Prop} {D : va_G} {k : Nat → ClassId} {t : Nat → Nat} (X : BX l D k t p s m args meth c cX0_narrowThing 12 RX0 (some .boolean) A) (b0 : Nat → Nat) (o0 : Nat) (v_least : FJ) (v_greatest : FJ) (v_lowerSums : FJ) (v_upperSums : FJ) (v_lower : FJ) (v_upper : FJ) (v_places : (Nat → FI)) (v_placeCounts : FI) (v_things : Int32) (N : Nat) (j7 : Int32) (j8 : Int64) (j9 : Int32) (j10 : Int64) (t11 : Int64) (c12 : FJ) (c13 : FJ) (out : Int32 × FJ × FJ) (B18 : Int64 → Int64 → Int32 → Option (Int32 × FJ × FJ)) (hB18 : ∀ (i2' : Int64) (i3' : Int64) (i4' : Int32) (H : Heap) (locs : List Loc) (ls : Array Slot), va_P D vwCl [W_Bounds k b0 o0 v_least v_greatest v_lowerSums v_upperSums c12 c13 v_places v_placeCounts v_things].flatten H → va_D A [W_Bounds k b0 o0 v_least v_greatest v_lowerSums v_upperSums c12 c13 v_places v_placeCounts v_things].flatten → va_S A s.heap H locs → lv_has ls 12 [(0, .ref (b0 o0)), (1, .int j7), (2, .long i2'), (4, .long i3'), (6, .int i4')] → B18 i2' i3' i4' = some out → W p l e rm_Bounds_narrowThing s m args below meth c H locs 0 0 (Q_Bounds_narrowThing below D k A args s b0 o0 v_least v_greatest v_lowerSums v_upperSums v_lower v_upper v_places v_placeCounts v_things out) (F0 m 18 ls [])) : ∀ (H : Heap) (locs : List Loc) (ls : Array Slot), va_P D vwCl [W_Bounds k b0 o0 v_least v_greatest v_lowerSums v_upperSums c12 c13 v_places v_placeCounts v_things].flatten H → va_D A [W_Bounds k b0 o0 v_least v_greatest v_lowerSums v_upperSums c12 c13 v_places v_placeCounts v_things].flatten → va_S A s.heap H locs → lv_has ls 12 [(0, .ref (b0 o0)), (1, .int j7), (2, .long j8), (6, .int j9), (10, .long j10)] → f_Bounds_narrowThing_J103 j8 j9 j10 t11 B18 = some out → W p l e rm_Bounds_narrowThing s m args below meth c H locs 0 0 (Q_Bounds_narrowThing below D k A args s b0 o0 v_least v_greatest v_lowerSums v_upperSums v_lower v_upper v_places v_placeCounts v_things out) (F0 m 103 ls [.long t11]) := by
  have hx := X.1.1
  have hb := X.1.2.1
  have hml := X.1.2.2.1
  have hown := X.1.2.2.2.1
  have hts := X.1.2.2.2.2
  intro H locs ls hP hD hS hl hf
  rw [f_Bounds_narrowThing_J103] at hf
  refine lv_lstore (lv' := [(4, .long t11), (0, .ref (b0 o0)), (1, .int j7), (2, .long j8), (6, .int j9), (10, .long j10)]) hx hb dX0_narrowThing_103 hl (by decide) rfl (fun ls hl => ?_)
  refine lv_lload hx hb dX0_narrowThing_105 (lv_at hl 5 rfl) ?_
  refine lv_lload_n hx hb dX0_narrowThing_107 rfl (lv_at hl 3 rfl) ?_
  refine W.lcmp hx hb dX0_narrowThing_108 ?_
  refine lv_if_le (tgt := 117) hx hb dX0_narrowThing_109 (by decide) (fun hc => ?_) (fun hc => ?_)
  · have hc := lgm.mp hc
    have hf := ofpos hf hc
    refine lv_lload_n hx hb dX0_narrowThing_117 rfl (lv_at hl 3 rfl) ?_
    refine lv_lstore_n (lv' := [(2, .long j8), (4, .long t11), (0, .ref (b0 o0)), (1, .int j7), (6, .int j9), (10, .long j10)]) hx hb dX0_narrowThing_118 rfl hl (by decide) rfl (fun ls hl => ?_)
    refine lv_iinc (v := j9 + 1) (lv' := [(6, .int (j9 + 1)), (2, .long j8), (4, .long t11), (0, .ref (b0 o0)), (1, .int j7), (10, .long j10)]) hx hb dX0_narrowThing_119 hl (k := 4) rfl rfl (by decide) rfl (fun ls hl => ?_)
    refine lv_goto (tgt := 18) hx hb dX0_narrowThing_122 (by decide) ?_
    exact hB18 j8 t11 (j9 + 1) _ _ _ hP hD hS (lv_sub hl [3, 4, 1, 2, 0] rfl) hf
  · have hc := fun z => hc (lgm.mpr z)
    have hf := ofneg hf hc
    refine lv_lload hx hb dX0_narrowThing_112 (lv_at hl 5 rfl) ?_
    refine lv_goto (tgt := 118) hx hb dX0_narrowThing_114 (by decide) ?_
    refine lv_lstore_n (lv' := [(2, .long j10), (4, .long t11), (0, .ref (b0 o0)), (1, .int j7), (6, .int j9), (10, .long j10)]) hx hb dX0_narrowThing_118 rfl hl (by decide) rfl (fun ls hl => ?_)
    refine lv_iinc (v := j9 + 1) (lv' := [(6, .int (j9 + 1)), (2, .long j10), (4, .long t11), (0, .ref (b0 o0)), (1, .int j7), (10, .long j10)]) hx hb dX0_narrowThing_119 hl (k := 4) rfl rfl (by decide) rfl (fun ls hl => ?_)
    refine lv_goto (tgt := 18) hx hb dX0_narrowThing_122 (by decide) ?_
    exact hB18 j10 t11 (j9 + 1) _ _ _ hP hD hS (lv_sub hl [3, 4, 1, 2, 0] rfl) hf
set_option maxRecDepth 100000 in
set_option maxHeartbeats 1000000 in
theorem w_Bounds_narrowThing_L18 {p : Program} {l : Launch} {e : Env} {s : State} {m : MethodId} {below : List Frame} {meth : Method} {c : Code} {args : Array Value} {A : Nat → Prop} {D : va_G} {k : Nat → ClassId} {t : Nat → Nat} (X : BX l D k t p s m args meth c cX0_narrowThing 12 RX0 (some .boolean) A) (b0 : Nat → Nat) (o0 : Nat) (v_least : FJ) (v_greatest : FJ) (v_lowerSums : FJ) (v_upperSums : FJ) (v_lower : FJ) (v_upper : FJ) (v_places : (Nat → FI)) (v_placeCounts : FI) (v_things : Int32) (N : Nat) (i1 : Int32) (c5 : FJ) (c6 : FJ) (out : Int32 × FJ × FJ) (K125 : Int64 → Int64 → Int32 → Option (Int32 × FJ × FJ)) (hK125 : ∀ (i2' : Int64) (i3' : Int64) (i4' : Int32) (H : Heap) (locs : List Loc) (ls : Array Slot), va_P D vwCl [W_Bounds k b0 o0 v_least v_greatest v_lowerSums v_upperSums c5 c6 v_places v_placeCounts v_things].flatten H → va_D A [W_Bounds k b0 o0 v_least v_greatest v_lowerSums v_upperSums c5 c6 v_places v_placeCounts v_things].flatten → va_S A s.heap H locs → lv_has ls 12 [(0, .ref (b0 o0)), (1, .int i1), (2, .long i2'), (4, .long i3')] → K125 i2' i3' i4' = some out → W p l e rm_Bounds_narrowThing s m args below meth c H locs 0 0 (Q_Bounds_narrowThing below D k A args s b0 o0 v_least v_greatest v_lowerSums v_upperSums v_lower v_upper v_places v_placeCounts v_things out) (F0 m 125 ls [])) : ∀ (n : Nat) (i2 : Int64) (i3 : Int64) (i4 : Int32) (H : Heap) (locs : List Loc) (ls : Array Slot), va_P D vwCl [W_Bounds k b0 o0 v_least v_greatest v_lowerSums v_upperSums c5 c6 v_places v_placeCounts v_things].flatten H → va_D A [W_Bounds k b0 o0 v_least v_greatest v_lowerSums v_upperSums c5 c6 v_places v_placeCounts v_things].flatten → va_S A s.heap H locs → lv_has ls 12 [(0, .ref (b0 o0)), (1, .int i1), (2, .long i2), (4, .long i3), (6, .int i4)] → f_Bounds_narrowThing_L18 i1 c5 c6 v_least v_greatest v_lowerSums v_upperSums v_places v_placeCounts K125 n i2 i3 i4 = some out → W p l e rm_Bounds_narrowThing s m args below meth c H locs 0 0 (Q_Bounds_narrowThing below D k A args s b0 o0 v_least v_greatest v_lowerSums v_upperSums v_lower v_upper v_places v_placeCounts v_things out) (F0 m 18 ls []) := by
  have hx := X.1.1
  have hb := X.1.2.1
  have hml := X.1.2.2.1
  have hown := X.1.2.2.2.1
  have hts := X.1.2.2.2.2
  intro n
  induction n with
  | zero =>
    intro i2 i3 i4 H locs ls hP hD hS hl hf
    rw [f_Bounds_narrowThing_L18] at hf
    cases hf
  | succ n ih =>
    intro i2 i3 i4 H locs ls hP hD hS hl hf
    rw [f_Bounds_narrowThing_L18] at hf
    refine lv_iload hx hb dX0_narrowThing_18 (lv_at hl 4 rfl) ?_
    refine lv_aload_n hx hb dX0_narrowThing_20 rfl (lv_at hl 0 rfl) ?_
    refine kget (v := .ref (b0 (o0+8))) X hP ff_X0_35 0 rfl rfl dX0_narrowThing_21 ?_
    refine lv_iload_n hx hb dX0_narrowThing_24 rfl (lv_at hl 1 rfl) ?_
    obtain ⟨hc, hf⟩ := ofck hf
    refine kiald (f := v_placeCounts) (n := 24) X hP 8 rfl hc dX0_narrowThing_25 ?_
    refine lv_icmp_ge (tgt := 125) hx hb dX0_narrowThing_26 (by decide) (fun hc => ?_) (fun hc => ?_)
    · have hf := ofpos hf hc
      exact hK125 i2 i3 i4 _ _ _ hP hD hS (lv_sub hl [0, 1, 2, 3] rfl) hf
    · have hf := ofneg hf hc
      refine lv_aload_n hx hb dX0_narrowThing_29 rfl (lv_at hl 0 rfl) ?_
      refine kget (v := .ref (b0 (o0+7))) X hP ff_X0_32 0 rfl rfl dX0_narrowThing_30 ?_
      refine lv_iload_n hx hb dX0_narrowThing_33 rfl (lv_at hl 1 rfl) ?_
      obtain ⟨hc, hf⟩ := ofck hf
      have hrow := hc
      refine kg_row X hP hc dX0_narrowThing_34 ?_
      refine lv_iload hx hb dX0_narrowThing_35 (lv_at hl 4 rfl) ?_
      obtain ⟨hc, hf⟩ := ofck hf
      refine kg_ld X hP hrow hc dX0_narrowThing_37 ?_
      refine lv_istore (lv' := [(7, .int (v_places i1.toNatClampNeg i4.toNatClampNeg)), (0, .ref (b0 o0)), (1, .int i1), (2, .long i2), (4, .long i3), (6, .int i4)]) hx hb dX0_narrowThing_38 hl (by decide) rfl (fun ls hl => ?_)
      refine lv_aload_n hx hb dX0_narrowThing_40 rfl (lv_at hl 1 rfl) ?_
      refine kget (v := .ref (b0 (o0+2))) X hP ff_X0_15 0 rfl rfl dX0_narrowThing_41 ?_
      refine lv_iload hx hb dX0_narrowThing_44 (lv_at hl 0 rfl) ?_
      obtain ⟨hc, hf⟩ := ofck hf
      refine klald (f := v_greatest) (n := 24) X hP 2 rfl hc dX0_narrowThing_46 ?_
      refine lv_aload_n hx hb dX0_narrowThing_47 rfl (lv_at hl 1 rfl) ?_
      refine kget (v := .ref (b0 (o0+3))) X hP ff_X0_18 0 rfl rfl dX0_narrowThing_48 ?_
      refine lv_iload hx hb dX0_narrowThing_51 (lv_at hl 0 rfl) ?_
      obtain ⟨hc, hf⟩ := ofck hf
      refine klald (f := v_lowerSums) (n := 24) X hP 3 rfl hc dX0_narrowThing_53 ?_
      refine lv_aload_n hx hb dX0_narrowThing_54 rfl (lv_at hl 1 rfl) ?_
      refine kget (v := .ref (b0 (o0+5))) X hP ff_X0_24 0 rfl rfl dX0_narrowThing_55 ?_
      refine lv_iload_n hx hb dX0_narrowThing_58 rfl (lv_at hl 2 rfl) ?_
      obtain ⟨hc, hf⟩ := ofck hf
      refine klald (f := c5) (n := 24) X hP 5 rfl hc dX0_narrowThing_59 ?_
      refine lv_lsub hx hb dX0_narrowThing_60 ?_
      refine lv_lsub hx hb dX0_narrowThing_61 ?_
      refine lv_lstore (lv' := [(8, .long ((v_greatest (v_places i1.toNatClampNeg i4.toNatClampNeg).toNatClampNeg) - ((v_lowerSums (v_places i1.toNatClampNeg i4.toNatClampNeg).toNatClampNeg) - (c5 i1.toNatClampNeg)))), (7, .int (v_places i1.toNatClampNeg i4.toNatClampNeg)), (0, .ref (b0 o0)), (1, .int i1), (2, .long i2), (4, .long i3), (6, .int i4)]) hx hb dX0_narrowThing_62 hl (by decide) rfl (fun ls hl => ?_)
      refine lv_aload_n hx hb dX0_narrowThing_64 rfl (lv_at hl 2 rfl) ?_
      refine kget (v := .ref (b0 (o0+1))) X hP ff_X0_9 0 rfl rfl dX0_narrowThing_65 ?_
      refine lv_iload hx hb dX0_narrowThing_68 (lv_at hl 1 rfl) ?_
      obtain ⟨hc, hf⟩ := ofck hf
      refine klald (f := v_least) (n := 24) X hP 1 rfl hc dX0_narrowThing_70 ?_
      refine lv_aload_n hx hb dX0_narrowThing_71 rfl (lv_at hl 2 rfl) ?_
      refine kget (v := .ref (b0 (o0+4))) X hP ff_X0_21 0 rfl rfl dX0_narrowThing_72 ?_
      refine lv_iload hx hb dX0_narrowThing_75 (lv_at hl 1 rfl) ?_
      obtain ⟨hc, hf⟩ := ofck hf
      refine klald (f := v_upperSums) (n := 24) X hP 4 rfl hc dX0_narrowThing_77 ?_
      refine lv_aload_n hx hb dX0_narrowThing_78 rfl (lv_at hl 2 rfl) ?_
      refine kget (v := .ref (b0 (o0+6))) X hP ff_X0_27 0 rfl rfl dX0_narrowThing_79 ?_
      refine lv_iload_n hx hb dX0_narrowThing_82 rfl (lv_at hl 3 rfl) ?_
      obtain ⟨hc, hf⟩ := ofck hf
      refine klald (f := c6) (n := 24) X hP 6 rfl hc dX0_narrowThing_83 ?_
      refine lv_lsub hx hb dX0_narrowThing_84 ?_
      refine lv_lsub hx hb dX0_narrowThing_85 ?_
      refine lv_lstore (lv' := [(10, .long ((v_least (v_places i1.toNatClampNeg i4.toNatClampNeg).toNatClampNeg) - ((v_upperSums (v_places i1.toNatClampNeg i4.toNatClampNeg).toNatClampNeg) - (c6 i1.toNatClampNeg)))), (8, .long ((v_greatest (v_places i1.toNatClampNeg i4.toNatClampNeg).toNatClampNeg) - ((v_lowerSums (v_places i1.toNatClampNeg i4.toNatClampNeg).toNatClampNeg) - (c5 i1.toNatClampNeg)))), (7, .int (v_places i1.toNatClampNeg i4.toNatClampNeg)), (0, .ref (b0 o0)), (1, .int i1), (2, .long i2), (4, .long i3), (6, .int i4)]) hx hb dX0_narrowThing_86 hl (by decide) rfl (fun ls hl => ?_)
      refine lv_lload hx hb dX0_narrowThing_88 (lv_at hl 1 rfl) ?_
      refine lv_lload hx hb dX0_narrowThing_90 (lv_at hl 6 rfl) ?_
      refine W.lcmp hx hb dX0_narrowThing_92 ?_
      refine lv_if_ge (tgt := 101) hx hb dX0_narrowThing_93 (by decide) (fun hc => ?_) (fun hc => ?_)
      · have hc := lge.mp hc
        have hf := ofpos hf hc
        refine lv_lload hx hb dX0_narrowThing_101 (lv_at hl 6 rfl) ?_
        exact w_Bounds_narrowThing_J103 X b0 o0 v_least v_greatest v_lowerSums v_upperSums v_lower v_upper v_places v_placeCounts v_things N i1 i2 i4 ((v_least (v_places i1.toNatClampNeg i4.toNatClampNeg).toNatClampNeg) - ((v_upperSums (v_places i1.toNatClampNeg i4.toNatClampNeg).toNatClampNeg) - (c6 i1.toNatClampNeg))) i3 c5 c6 out _ ih _ _ _ hP hD hS (lv_sub hl [3, 4, 5, 7, 0] rfl) hf
      · have hc := fun z => hc (lge.mpr z)
        have hf := ofneg hf hc
        refine lv_lload hx hb dX0_narrowThing_96 (lv_at hl 1 rfl) ?_
        refine lv_goto (tgt := 103) hx hb dX0_narrowThing_98 (by decide) ?_
        exact w_Bounds_narrowThing_J103 X b0 o0 v_least v_greatest v_lowerSums v_upperSums v_lower v_upper v_places v_placeCounts v_things N i1 i2 i4 ((v_least (v_places i1.toNatClampNeg i4.toNatClampNeg).toNatClampNeg) - ((v_upperSums (v_places i1.toNatClampNeg i4.toNatClampNeg).toNatClampNeg) - (c6 i1.toNatClampNeg))) ((v_greatest (v_places i1.toNatClampNeg i4.toNatClampNeg).toNatClampNeg) - ((v_lowerSums (v_places i1.toNatClampNeg i4.toNatClampNeg).toNatClampNeg) - (c5 i1.toNatClampNeg))) c5 c6 out _ ih _ _ _ hP hD hS (lv_sub hl [3, 4, 5, 7, 0] rfl) hf
set_option maxRecDepth 100000 in
set_option maxHeartbeats 1000000 in
theorem w_Bounds_narrowThing_J153 {p : Program} {l : Launch} {e : Env} {s : State} {m : MethodId} {below : List Frame} {meth : Method} {c : Code} {args : Array Value} {A : Nat → Prop} {D : va_G} {k : Nat → ClassId} {t : Nat → Nat} (X : BX l D k t p s m args meth c cX0_narrowThing 12 RX0 (some .boolean) A) (b0 : Nat → Nat) (o0 : Nat) (v_least : FJ) (v_greatest : FJ) (v_lowerSums : FJ) (v_upperSums : FJ) (v_lower : FJ) (v_upper : FJ) (v_places : (Nat → FI)) (v_placeCounts : FI) (v_things : Int32) (N : Nat) (j22 : Int32) (j23 : Int64) (j24 : Int64) (t25 : Int32) (c26 : FJ) (c27 : FJ) (out : Int32 × FJ × FJ) : ∀ (H : Heap) (locs : List Loc) (ls : Array Slot), va_P D vwCl [W_Bounds k b0 o0 v_least v_greatest v_lowerSums v_upperSums c26 c27 v_places v_placeCounts v_things].flatten H → va_D A [W_Bounds k b0 o0 v_least v_greatest v_lowerSums v_upperSums c26 c27 v_places v_placeCounts v_things].flatten → va_S A s.heap H locs → lv_has ls 12 [(0, .ref (b0 o0)), (1, .int j22), (2, .long j23), (4, .long j24)] → f_Bounds_narrowThing_J153 j22 j23 j24 t25 c26 c27 = some out → W p l e rm_Bounds_narrowThing s m args below meth c H locs 0 0 (Q_Bounds_narrowThing below D k A args s b0 o0 v_least v_greatest v_lowerSums v_upperSums v_lower v_upper v_places v_placeCounts v_things out) (F0 m 153 ls [.int t25]) := by
  have hx := X.1.1
  have hb := X.1.2.1
  have hml := X.1.2.2.1
  have hown := X.1.2.2.2.1
  have hts := X.1.2.2.2.2
  intro H locs ls hP hD hS hl hf
  rw [f_Bounds_narrowThing_J153] at hf
  refine lv_istore (lv' := [(6, .int t25), (0, .ref (b0 o0)), (1, .int j22), (2, .long j23), (4, .long j24)]) hx hb dX0_narrowThing_153 hl (by decide) rfl (fun ls hl => ?_)
  refine lv_aload_n hx hb dX0_narrowThing_155 rfl (lv_at hl 1 rfl) ?_
  refine kget (v := .ref (b0 (o0+5))) X hP ff_X0_24 0 rfl rfl dX0_narrowThing_156 ?_
  refine lv_iload_n hx hb dX0_narrowThing_159 rfl (lv_at hl 2 rfl) ?_
  refine lv_lload_n hx hb dX0_narrowThing_160 rfl (lv_at hl 3 rfl) ?_
  obtain ⟨hc, hf⟩ := ofck hf
  generalize hc28 : vp_updL c26 j22.toNatClampNeg j23 = c28 at hf
  refine klast2 (f := c26) (n := 24) (g := c28) X hP hD hS 5 rfl hc hc28 dX0_narrowThing_161 (fun H locs hP hD hS => ?_)
  have hP : va_P D vwCl [W_Bounds k b0 o0 v_least v_greatest v_lowerSums v_upperSums c28 c27 v_places v_placeCounts v_things].flatten _ := hP
  have hD : va_D A [W_Bounds k b0 o0 v_least v_greatest v_lowerSums v_upperSums c28 c27 v_places v_placeCounts v_things].flatten := hD
  refine lv_aload_n hx hb dX0_narrowThing_162 rfl (lv_at hl 1 rfl) ?_
  refine kget (v := .ref (b0 (o0+6))) X hP ff_X0_27 0 rfl rfl dX0_narrowThing_163 ?_
  refine lv_iload_n hx hb dX0_narrowThing_166 rfl (lv_at hl 2 rfl) ?_
  refine lv_lload hx hb dX0_narrowThing_167 (lv_at hl 4 rfl) ?_
  obtain ⟨hc, hf⟩ := ofck hf
  generalize hc29 : vp_updL c27 j22.toNatClampNeg j24 = c29 at hf
  refine klast2 (f := c27) (n := 24) (g := c29) X hP hD hS 6 rfl hc hc29 dX0_narrowThing_169 (fun H locs hP hD hS => ?_)
  have hP : va_P D vwCl [W_Bounds k b0 o0 v_least v_greatest v_lowerSums v_upperSums c28 c29 v_places v_placeCounts v_things].flatten _ := hP
  have hD : va_D A [W_Bounds k b0 o0 v_least v_greatest v_lowerSums v_upperSums c28 c29 v_places v_placeCounts v_things].flatten := hD
  refine lv_iload hx hb dX0_narrowThing_170 (lv_at hl 0 rfl) ?_
  obtain ⟨hz, hf⟩ := ofif hf
  have hf := Option.some.inj hf
  subst hf
  exact kzret (v := t25) X hP hD hS (zck_n hz) dX0_narrowThing_172
set_option maxRecDepth 100000 in
set_option maxHeartbeats 1000000 in
theorem w_Bounds_narrowThing_J148 {p : Program} {l : Launch} {e : Env} {s : State} {m : MethodId} {below : List Frame} {meth : Method} {c : Code} {args : Array Value} {A : Nat → Prop} {D : va_G} {k : Nat → ClassId} {t : Nat → Nat} (X : BX l D k t p s m args meth c cX0_narrowThing 12 RX0 (some .boolean) A) (b0 : Nat → Nat) (o0 : Nat) (v_least : FJ) (v_greatest : FJ) (v_lowerSums : FJ) (v_upperSums : FJ) (v_lower : FJ) (v_upper : FJ) (v_places : (Nat → FI)) (v_placeCounts : FI) (v_things : Int32) (N : Nat) (j17 : Int32) (j18 : Int64) (j19 : Int64) (c20 : FJ) (c21 : FJ) (out : Int32 × FJ × FJ) : ∀ (H : Heap) (locs : List Loc) (ls : Array Slot), va_P D vwCl [W_Bounds k b0 o0 v_least v_greatest v_lowerSums v_upperSums c20 c21 v_places v_placeCounts v_things].flatten H → va_D A [W_Bounds k b0 o0 v_least v_greatest v_lowerSums v_upperSums c20 c21 v_places v_placeCounts v_things].flatten → va_S A s.heap H locs → lv_has ls 12 [(0, .ref (b0 o0)), (1, .int j17), (2, .long j18), (4, .long j19)] → f_Bounds_narrowThing_J148 j17 j18 j19 c20 c21 = some out → W p l e rm_Bounds_narrowThing s m args below meth c H locs 0 0 (Q_Bounds_narrowThing below D k A args s b0 o0 v_least v_greatest v_lowerSums v_upperSums v_lower v_upper v_places v_placeCounts v_things out) (F0 m 148 ls []) := by
  have hx := X.1.1
  have hb := X.1.2.1
  have hml := X.1.2.2.1
  have hown := X.1.2.2.2.1
  have hts := X.1.2.2.2.2
  intro H locs ls hP hD hS hl hf
  rw [f_Bounds_narrowThing_J148] at hf
  refine lv_iconst (v := 1) hx hb dX0_narrowThing_148 (by decide) ?_
  refine lv_goto (tgt := 153) hx hb dX0_narrowThing_149 (by decide) ?_
  exact w_Bounds_narrowThing_J153 X b0 o0 v_least v_greatest v_lowerSums v_upperSums v_lower v_upper v_places v_placeCounts v_things N j17 j18 j19 1 c20 c21 out _ _ _ hP hD hS (lv_sub hl [0, 1, 2, 3] rfl) hf
set_option maxRecDepth 100000 in
set_option maxHeartbeats 1000000 in
theorem c_Bounds_narrowThing (l : Launch) (D : va_G) (k : Nat → ClassId) (t : Nat → Nat) (b0 : Nat → Nat) (o0 : Nat) (v_least : FJ) (v_greatest : FJ) (v_lowerSums : FJ) (v_upperSums : FJ) (v_lower : FJ) (v_upper : FJ) (v_places : (Nat → FI)) (v_placeCounts : FI) (v_things : Int32) (x1 : Int32) (N : Nat) (out : Int32 × FJ × FJ) (hf : f_Bounds_narrowThing N x1 v_least v_greatest v_lowerSums v_upperSums v_lower v_upper v_places v_placeCounts = some out) : CT l D k t yX0_narrowThing cX0_narrowThing 12 (some .boolean) rm_Bounds_narrowThing [.ref (b0 o0), .int x1] [W_Bounds k b0 o0 v_least v_greatest v_lowerSums v_upperSums v_lower v_upper v_places v_placeCounts v_things].flatten (some (.int out.1)) [W_Bounds k b0 o0 v_least v_greatest v_lowerSums v_upperSums out.2.1 out.2.2 v_places v_placeCounts v_things].flatten := by
  refine kofW (by decide) (Nat.le_of_ble_eq_true rfl) ?_
  intro p e s m below meth c A ls X hP hD hS hl
  have hx := X.1.1
  have hb := X.1.2.1
  have hml := X.1.2.2.1
  have hown := X.1.2.2.2.1
  have hts := X.1.2.2.2.2
  have hl : lv_has ls 12 [(0, .ref (b0 o0)), (1, .int x1)] := hl
  rw [f_Bounds_narrowThing] at hf
  refine lv_aload_n hx hb dX0_narrowThing_0 rfl (lv_at hl 0 rfl) ?_
  refine kget (v := .ref (b0 (o0+5))) X hP ff_X0_24 0 rfl rfl dX0_narrowThing_1 ?_
  refine lv_iload_n hx hb dX0_narrowThing_4 rfl (lv_at hl 1 rfl) ?_
  obtain ⟨hc, hf⟩ := ofck hf
  refine klald (f := v_lower) (n := 24) X hP 5 rfl hc dX0_narrowThing_5 ?_
  refine lv_lstore_n (lv' := [(2, .long (v_lower x1.toNatClampNeg)), (0, .ref (b0 o0)), (1, .int x1)]) hx hb dX0_narrowThing_6 rfl hl (by decide) rfl (fun ls hl => ?_)
  refine lv_aload_n hx hb dX0_narrowThing_7 rfl (lv_at hl 1 rfl) ?_
  refine kget (v := .ref (b0 (o0+6))) X hP ff_X0_27 0 rfl rfl dX0_narrowThing_8 ?_
  refine lv_iload_n hx hb dX0_narrowThing_11 rfl (lv_at hl 2 rfl) ?_
  obtain ⟨hc, hf⟩ := ofck hf
  refine klald (f := v_upper) (n := 24) X hP 6 rfl hc dX0_narrowThing_12 ?_
  refine lv_lstore (lv' := [(4, .long (v_upper x1.toNatClampNeg)), (2, .long (v_lower x1.toNatClampNeg)), (0, .ref (b0 o0)), (1, .int x1)]) hx hb dX0_narrowThing_13 hl (by decide) rfl (fun ls hl => ?_)
  refine lv_iconst (v := 0) hx hb dX0_narrowThing_15 (by decide) ?_
  refine lv_istore (lv' := [(6, .int 0), (4, .long (v_upper x1.toNatClampNeg)), (2, .long (v_lower x1.toNatClampNeg)), (0, .ref (b0 o0)), (1, .int x1)]) hx hb dX0_narrowThing_16 hl (by decide) rfl (fun ls hl => ?_)
  refine w_Bounds_narrowThing_L18 X b0 o0 v_least v_greatest v_lowerSums v_upperSums v_lower v_upper v_places v_placeCounts v_things N x1 v_lower v_upper out _ ?_ N (v_lower x1.toNatClampNeg) (v_upper x1.toNatClampNeg) 0 _ _ _ hP hD hS (lv_sub hl [3, 4, 2, 1, 0] rfl) hf
  · intro i14 i15 i16 H locs ls hP hD hS hl hf
    refine lv_lload_n hx hb dX0_narrowThing_125 rfl (lv_at hl 2 rfl) ?_
    refine lv_aload_n hx hb dX0_narrowThing_126 rfl (lv_at hl 0 rfl) ?_
    refine kget (v := .ref (b0 (o0+5))) X hP ff_X0_24 0 rfl rfl dX0_narrowThing_127 ?_
    refine lv_iload_n hx hb dX0_narrowThing_130 rfl (lv_at hl 1 rfl) ?_
    obtain ⟨hc, hf⟩ := ofck hf
    refine klald (f := v_lower) (n := 24) X hP 5 rfl hc dX0_narrowThing_131 ?_
    refine W.lcmp hx hb dX0_narrowThing_132 ?_
    refine lv_if_ne (tgt := 148) hx hb dX0_narrowThing_133 (by decide) (fun hc => ?_) (fun hc => ?_)
    · have hc := fun z => hc (lgq.mpr z)
      have hf := ofneg hf hc
      exact w_Bounds_narrowThing_J148 X b0 o0 v_least v_greatest v_lowerSums v_upperSums v_lower v_upper v_places v_placeCounts v_things N x1 i14 i15 v_lower v_upper out _ _ _ hP hD hS (lv_sub hl [0, 1, 2, 3] rfl) hf
    · have hc := lgq.mp hc
      have hf := ofpos hf hc
      refine lv_lload hx hb dX0_narrowThing_136 (lv_at hl 3 rfl) ?_
      refine lv_aload_n hx hb dX0_narrowThing_138 rfl (lv_at hl 0 rfl) ?_
      refine kget (v := .ref (b0 (o0+6))) X hP ff_X0_27 0 rfl rfl dX0_narrowThing_139 ?_
      refine lv_iload_n hx hb dX0_narrowThing_142 rfl (lv_at hl 1 rfl) ?_
      obtain ⟨hc, hf⟩ := ofck hf
      refine klald (f := v_upper) (n := 24) X hP 6 rfl hc dX0_narrowThing_143 ?_
      refine W.lcmp hx hb dX0_narrowThing_144 ?_
      refine lv_if_eq (tgt := 152) hx hb dX0_narrowThing_145 (by decide) (fun hc => ?_) (fun hc => ?_)
      · have hc := lgq.mp hc
        have hf := ofpos hf hc
        refine lv_iconst (v := 0) hx hb dX0_narrowThing_152 (by decide) ?_
        exact w_Bounds_narrowThing_J153 X b0 o0 v_least v_greatest v_lowerSums v_upperSums v_lower v_upper v_places v_placeCounts v_things N x1 i14 i15 0 v_lower v_upper out _ _ _ hP hD hS (lv_sub hl [0, 1, 2, 3] rfl) hf
      · have hc := fun z => hc (lgq.mpr z)
        have hf := ofneg hf hc
        exact w_Bounds_narrowThing_J148 X b0 o0 v_least v_greatest v_lowerSums v_upperSums v_lower v_upper v_places v_placeCounts v_things N x1 i14 i15 v_lower v_upper out _ _ _ hP hD hS (lv_sub hl [0, 1, 2, 3] rfl) hf
/-! Bounds_narrowOnce: private boolean narrowOnce(); -/
abbrev rm_Bounds_narrowOnce : Room := ({ frames := 2, cells := 0, slots := 0, locals := 46 } : Room)
def f_Bounds_narrowOnce_L8 (N : Nat) (c5 : FJ) (c6 : FJ) (v_least : FJ) (v_greatest : FJ) (v_places : (Nat → FI)) (v_placeCounts : FI) (v_things : Int32) (K32 : Int32 → Int32 → FJ → FJ → Option (Int32 × FJ × FJ × FJ × FJ)) : Nat → Int32 → Int32 → FJ → FJ → Option (Int32 × FJ × FJ × FJ × FJ)
  | 0, _, _, _, _ => none
  | n + 1, i3, i4, c7, c8 => if v_things ≤ i4 then K32 i3 i4 c7 c8 else (f_Bounds_narrowThing N i4 v_least v_greatest c5 c6 c7 c8 v_places v_placeCounts).bind (fun r9 => if r9.1 = 0 then f_Bounds_narrowOnce_L8 N c5 c6 v_least v_greatest v_places v_placeCounts v_things K32 n i3 (i4 + 1) r9.2.1 r9.2.2 else f_Bounds_narrowOnce_L8 N c5 c6 v_least v_greatest v_places v_placeCounts v_things K32 n 1 (i4 + 1) r9.2.1 r9.2.2)
def f_Bounds_narrowOnce (N : Nat) (v_least : FJ) (v_greatest : FJ) (v_lowerSums : FJ) (v_upperSums : FJ) (v_lower : FJ) (v_upper : FJ) (v_places : (Nat → FI)) (v_placeCounts : FI) (v_things : Int32) : Option (Int32 × FJ × FJ × FJ × FJ) := (f_Bounds_sumBounds N v_lowerSums v_upperSums v_lower v_upper v_places v_placeCounts v_things).bind (fun r1 => f_Bounds_narrowOnce_L8 N r1.1 r1.2 v_least v_greatest v_places v_placeCounts v_things (fun i10 i11 c12 c13 => if i10 = 0 ∨ i10 = 1 then some (i10, r1.1, r1.2, c12, c13) else none) N 0 0 v_lower v_upper)
abbrev Q_Bounds_narrowOnce (below : List Frame) (D : va_G) (k : Nat → ClassId) (A : Nat → Prop) (args : Array Value) (s : State) (b0 : Nat → Nat) (o0 : Nat) (v_least : FJ) (v_greatest : FJ) (v_lowerSums : FJ) (v_upperSums : FJ) (v_lower : FJ) (v_upper : FJ) (v_places : (Nat → FI)) (v_placeCounts : FI) (v_things : Int32) (out : Int32 × FJ × FJ × FJ × FJ) : State → Prop := MQ below (QW D k A (some (.int out.1)) [W_Bounds k b0 o0 v_least v_greatest out.2.1 out.2.2.1 out.2.2.2.1 out.2.2.2.2 v_places v_placeCounts v_things].flatten) args s 0 0 A
set_option maxRecDepth 100000 in
set_option maxHeartbeats 1000000 in
theorem w_Bounds_narrowOnce_L8 {p : Program} {l : Launch} {e : Env} {s : State} {m : MethodId} {below : List Frame} {meth : Method} {c : Code} {args : Array Value} {A : Nat → Prop} {D : va_G} {k : Nat → ClassId} {t : Nat → Nat} (X : BX l D k t p s m args meth c cX0_narrowOnce 3 RX0 (some .boolean) A) (b0 : Nat → Nat) (o0 : Nat) (v_least : FJ) (v_greatest : FJ) (v_lowerSums : FJ) (v_upperSums : FJ) (v_lower : FJ) (v_upper : FJ) (v_places : (Nat → FI)) (v_placeCounts : FI) (v_things : Int32) (N : Nat) (c5 : FJ) (c6 : FJ) (out : Int32 × FJ × FJ × FJ × FJ) (K32 : Int32 → Int32 → FJ → FJ → Option (Int32 × FJ × FJ × FJ × FJ)) (hK32 : ∀ (i3' : Int32) (i4' : Int32) (c7' : FJ) (c8' : FJ) (H : Heap) (locs : List Loc) (ls : Array Slot), va_P D vwCl [W_Bounds k b0 o0 v_least v_greatest c5 c6 c7' c8' v_places v_placeCounts v_things].flatten H → va_D A [W_Bounds k b0 o0 v_least v_greatest c5 c6 c7' c8' v_places v_placeCounts v_things].flatten → va_S A s.heap H locs → lv_has ls 3 [(1, .int i3')] → K32 i3' i4' c7' c8' = some out → W p l e rm_Bounds_narrowOnce s m args below meth c H locs 0 0 (Q_Bounds_narrowOnce below D k A args s b0 o0 v_least v_greatest v_lowerSums v_upperSums v_lower v_upper v_places v_placeCounts v_things out) (F0 m 32 ls [])) : ∀ (n : Nat) (i3 : Int32) (i4 : Int32) (c7 : FJ) (c8 : FJ) (H : Heap) (locs : List Loc) (ls : Array Slot), va_P D vwCl [W_Bounds k b0 o0 v_least v_greatest c5 c6 c7 c8 v_places v_placeCounts v_things].flatten H → va_D A [W_Bounds k b0 o0 v_least v_greatest c5 c6 c7 c8 v_places v_placeCounts v_things].flatten → va_S A s.heap H locs → lv_has ls 3 [(0, .ref (b0 o0)), (1, .int i3), (2, .int i4)] → f_Bounds_narrowOnce_L8 N c5 c6 v_least v_greatest v_places v_placeCounts v_things K32 n i3 i4 c7 c8 = some out → W p l e rm_Bounds_narrowOnce s m args below meth c H locs 0 0 (Q_Bounds_narrowOnce below D k A args s b0 o0 v_least v_greatest v_lowerSums v_upperSums v_lower v_upper v_places v_placeCounts v_things out) (F0 m 8 ls []) := by
  have hx := X.1.1
  have hb := X.1.2.1
  have hml := X.1.2.2.1
  have hown := X.1.2.2.2.1
  have hts := X.1.2.2.2.2
  intro n
  induction n with
  | zero =>
    intro i3 i4 c7 c8 H locs ls hP hD hS hl hf
    rw [f_Bounds_narrowOnce_L8] at hf
    cases hf
  | succ n ih =>
    intro i3 i4 c7 c8 H locs ls hP hD hS hl hf
    rw [f_Bounds_narrowOnce_L8] at hf
    refine lv_iload_n hx hb dX0_narrowOnce_8 rfl (lv_at hl 2 rfl) ?_
    refine lv_aload_n hx hb dX0_narrowOnce_9 rfl (lv_at hl 0 rfl) ?_
    refine kget (v := .int v_things) X hP ff_X0_39 0 rfl rfl dX0_narrowOnce_10 ?_
    refine lv_icmp_ge (tgt := 32) hx hb dX0_narrowOnce_13 (by decide) (fun hc => ?_) (fun hc => ?_)
    · have hf := ofpos hf hc
      exact hK32 i3 i4 c7 c8 _ _ _ hP hD hS (lv_sub hl [1] rfl) hf
    · have hf := ofneg hf hc
      refine lv_aload_n hx hb dX0_narrowOnce_16 rfl (lv_at hl 0 rfl) ?_
      refine lv_iload_n hx hb dX0_narrowOnce_17 rfl (lv_at hl 2 rfl) ?_
      obtain ⟨r9, hg_r9, hf⟩ := ofbind hf
      refine kcV (bs := [W_Bounds k b0 o0 v_least v_greatest c5 c6 c7 c8 v_places v_placeCounts v_things]) (br := []) (bc := [W_Bounds k b0 o0 v_least v_greatest c5 c6 c7 c8 v_places v_placeCounts v_things]) (bc' := [W_Bounds k b0 o0 v_least v_greatest c5 c6 r9.2.1 r9.2.2 v_places v_placeCounts v_things]) X hP hD hS (c_Bounds_narrowThing l D k t b0 o0 v_least v_greatest c5 c6 c7 c8 v_places v_placeCounts v_things i4 N r9 hg_r9) mv_X0_60 hl [] [0] 0 ⟨rfl, rfl⟩ ⟨Nat.le_of_ble_eq_true rfl, Nat.le_of_ble_eq_true rfl⟩ rfl rfl rfl rfl rfl rfl rfl (Nat.le_of_ble_eq_true rfl) dX0_narrowOnce_18 (fun H locs hP hD hS => ?_)
      have hP : va_P D vwCl [W_Bounds k b0 o0 v_least v_greatest c5 c6 r9.2.1 r9.2.2 v_places v_placeCounts v_things].flatten _ := hP
      have hD : va_D A [W_Bounds k b0 o0 v_least v_greatest c5 c6 r9.2.1 r9.2.2 v_places v_placeCounts v_things].flatten := hD
      refine lv_if_eq (tgt := 26) hx hb dX0_narrowOnce_21 (by decide) (fun hc => ?_) (fun hc => ?_)
      · have hf := ofpos hf hc
        refine lv_iinc (v := i4 + 1) (lv' := [(2, .int (i4 + 1)), (0, .ref (b0 o0)), (1, .int i3)]) hx hb dX0_narrowOnce_26 hl (k := 2) rfl rfl (by decide) rfl (fun ls hl => ?_)
        refine lv_goto (tgt := 8) hx hb dX0_narrowOnce_29 (by decide) ?_
        exact ih i3 (i4 + 1) r9.2.1 r9.2.2 _ _ _ hP hD hS (lv_sub hl [1, 2, 0] rfl) hf
      · have hf := ofneg hf hc
        refine lv_iconst (v := 1) hx hb dX0_narrowOnce_24 (by decide) ?_
        refine lv_istore_n (lv' := [(1, .int 1), (0, .ref (b0 o0)), (2, .int i4)]) hx hb dX0_narrowOnce_25 rfl hl (by decide) rfl (fun ls hl => ?_)
        refine lv_iinc (v := i4 + 1) (lv' := [(2, .int (i4 + 1)), (1, .int 1), (0, .ref (b0 o0))]) hx hb dX0_narrowOnce_26 hl (k := 2) rfl rfl (by decide) rfl (fun ls hl => ?_)
        refine lv_goto (tgt := 8) hx hb dX0_narrowOnce_29 (by decide) ?_
        exact ih 1 (i4 + 1) r9.2.1 r9.2.2 _ _ _ hP hD hS (lv_sub hl [2, 1, 0] rfl) hf
set_option maxRecDepth 100000 in
set_option maxHeartbeats 1000000 in
theorem c_Bounds_narrowOnce (l : Launch) (D : va_G) (k : Nat → ClassId) (t : Nat → Nat) (b0 : Nat → Nat) (o0 : Nat) (v_least : FJ) (v_greatest : FJ) (v_lowerSums : FJ) (v_upperSums : FJ) (v_lower : FJ) (v_upper : FJ) (v_places : (Nat → FI)) (v_placeCounts : FI) (v_things : Int32) (N : Nat) (out : Int32 × FJ × FJ × FJ × FJ) (hf : f_Bounds_narrowOnce N v_least v_greatest v_lowerSums v_upperSums v_lower v_upper v_places v_placeCounts v_things = some out) : CT l D k t yX0_narrowOnce cX0_narrowOnce 3 (some .boolean) rm_Bounds_narrowOnce [.ref (b0 o0)] [W_Bounds k b0 o0 v_least v_greatest v_lowerSums v_upperSums v_lower v_upper v_places v_placeCounts v_things].flatten (some (.int out.1)) [W_Bounds k b0 o0 v_least v_greatest out.2.1 out.2.2.1 out.2.2.2.1 out.2.2.2.2 v_places v_placeCounts v_things].flatten := by
  refine kofW (by decide) (Nat.le_of_ble_eq_true rfl) ?_
  intro p e s m below meth c A ls X hP hD hS hl
  have hx := X.1.1
  have hb := X.1.2.1
  have hml := X.1.2.2.1
  have hown := X.1.2.2.2.1
  have hts := X.1.2.2.2.2
  have hl : lv_has ls 3 [(0, .ref (b0 o0))] := hl
  rw [f_Bounds_narrowOnce] at hf
  refine lv_aload_n hx hb dX0_narrowOnce_0 rfl (lv_at hl 0 rfl) ?_
  obtain ⟨r1, hg_r1, hf⟩ := ofbind hf
  refine kcV (bs := [W_Bounds k b0 o0 v_least v_greatest v_lowerSums v_upperSums v_lower v_upper v_places v_placeCounts v_things]) (br := []) (bc := [W_Bounds k b0 o0 v_least v_greatest v_lowerSums v_upperSums v_lower v_upper v_places v_placeCounts v_things]) (bc' := [W_Bounds k b0 o0 v_least v_greatest r1.1 r1.2 v_lower v_upper v_places v_placeCounts v_things]) X hP hD hS (c_Bounds_sumBounds l D k t b0 o0 v_least v_greatest v_lowerSums v_upperSums v_lower v_upper v_places v_placeCounts v_things N r1 hg_r1) mv_X0_57 hl [] [0] 0 ⟨rfl, rfl⟩ ⟨Nat.le_of_ble_eq_true rfl, Nat.le_of_ble_eq_true rfl⟩ rfl rfl rfl rfl rfl rfl rfl (Nat.le_of_ble_eq_true rfl) dX0_narrowOnce_1 (fun H locs hP hD hS => ?_)
  have hP : va_P D vwCl [W_Bounds k b0 o0 v_least v_greatest r1.1 r1.2 v_lower v_upper v_places v_placeCounts v_things].flatten _ := hP
  have hD : va_D A [W_Bounds k b0 o0 v_least v_greatest r1.1 r1.2 v_lower v_upper v_places v_placeCounts v_things].flatten := hD
  refine lv_iconst (v := 0) hx hb dX0_narrowOnce_4 (by decide) ?_
  refine lv_istore_n (lv' := [(1, .int 0), (0, .ref (b0 o0))]) hx hb dX0_narrowOnce_5 rfl hl (by decide) rfl (fun ls hl => ?_)
  refine lv_iconst (v := 0) hx hb dX0_narrowOnce_6 (by decide) ?_
  refine lv_istore_n (lv' := [(2, .int 0), (1, .int 0), (0, .ref (b0 o0))]) hx hb dX0_narrowOnce_7 rfl hl (by decide) rfl (fun ls hl => ?_)
  refine w_Bounds_narrowOnce_L8 X b0 o0 v_least v_greatest v_lowerSums v_upperSums v_lower v_upper v_places v_placeCounts v_things N r1.1 r1.2 out _ ?_ N 0 0 v_lower v_upper _ _ _ hP hD hS (lv_sub hl [2, 1, 0] rfl) hf
  · intro i10 i11 c12 c13 H locs ls hP hD hS hl hf
    refine lv_iload_n hx hb dX0_narrowOnce_32 rfl (lv_at hl 0 rfl) ?_
    obtain ⟨hz, hf⟩ := ofif hf
    have hf := Option.some.inj hf
    subst hf
    exact kzret (v := i10) X hP hD hS (zck_n hz) dX0_narrowOnce_33
