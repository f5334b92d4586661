/-! Model_readsAll: private boolean readsAll(boolean); -/
abbrev rm_Model_readsAll : Room := ({ frames := 4, cells := 0, slots := 0, locals := 107 } : Room)
def f_Model_readsAll_L18 (c5 : FI) (c6 : FJ) (c10 : Int32) (K59 : Int32 → FI → FJ → Option (Int32 × FI × FJ × Int32 × FI × FJ × Int32)) : Nat → Int32 → FI → FJ → Option (Int32 × FI × FJ × Int32 × FI × FJ × Int32)
  | 0, _, _, _ => none
  | n + 1, i4, c8, c9 => if c10 ≤ i4 then K59 i4 c8 c9 else if ck (7 + i4) 1002 = true then if ck i4 16 = true then (f_Model_truthAt 0 i4 c6).bind (fun r11 => if ck i4 16 = true then f_Model_readsAll_L18 c5 c6 c10 K59 n (i4 + 1) (upd c8 i4.toNatClampNeg (c5 (7 + i4).toNatClampNeg)) (vp_updL c9 i4.toNatClampNeg r11) else none) else none else none
def f_Model_readsAll_J101 (N : Nat) (j39 : Int32) (t40 : Int32) (c41 : FI) (c42 : FJ) (c43 : Int32) (c44 : FI) (c45 : FJ) (c46 : Int32) (v_text : FI) (v_length : Int32) (B70 : Int32 → Int32 → FI → FJ → Int32 → FI → FJ → Int32 → Option (Int32 × FI × FJ × Int32 × FI × FJ × Int32)) : Option (Int32 × FI × FJ × Int32 × FI × FJ × Int32) := if t40 = 0 then B70 t40 j39 c41 c42 c43 c44 c45 c46 else (f_Model_here N v_text v_length c43).bind (fun r47 => B70 t40 r47.1 c41 c42 r47.2 c44 c45 c46)
def f_Model_readsAll_J100 (N : Nat) (j31 : Int32) (c32 : FI) (c33 : FJ) (c34 : Int32) (c35 : FI) (c36 : FJ) (c37 : Int32) (v_text : FI) (v_length : Int32) (B70 : Int32 → Int32 → FI → FJ → Int32 → FI → FJ → Int32 → Option (Int32 × FI × FJ × Int32 × FI × FJ × Int32)) : Option (Int32 × FI × FJ × Int32 × FI × FJ × Int32) := f_Model_readsAll_J101 N j31 0 c32 c33 c34 c35 c36 c37 v_text v_length B70
def f_Model_readsAll_L70 (N : Nat) (i20 : Int32) (v_text : FI) (v_length : Int32) (K118 : Int32 → Int32 → FI → FJ → Int32 → FI → FJ → Int32 → Option (Int32 × FI × FJ × Int32 × FI × FJ × Int32)) : Nat → Int32 → Int32 → FI → FJ → Int32 → FI → FJ → Int32 → Option (Int32 × FI × FJ × Int32 × FI × FJ × Int32)
  | 0, _, _, _, _, _, _, _, _ => none
  | n + 1, i21, i22, c23, c24, c25, c26, c27, c28 => if i21 = 0 then K118 i21 i22 c23 c24 c25 c26 c27 c28 else if i22 = (-1) then K118 i21 i22 c23 c24 c25 c26 c27 c28 else (f_Model_sign N 59 v_text v_length c25).bind (fun r29 => if r29.1 = 0 then f_Model_readsAll_J100 N i22 c23 c24 r29.2 c26 c27 c28 v_text v_length (f_Model_readsAll_L70 N i20 v_text v_length K118 n) else (f_Model_readsItem N i20 c23 c24 v_text v_length r29.2 c26 c27 c28).bind (fun r48 => if r48.1 = 0 then f_Model_readsAll_J100 N i22 r48.2.1 r48.2.2.1 r48.2.2.2.1 r48.2.2.2.2.1 r48.2.2.2.2.2.1 r48.2.2.2.2.2.2 v_text v_length (f_Model_readsAll_L70 N i20 v_text v_length K118 n) else f_Model_readsAll_J101 N i22 1 r48.2.1 r48.2.2.1 r48.2.2.2.1 r48.2.2.2.2.1 r48.2.2.2.2.2.1 r48.2.2.2.2.2.2 v_text v_length (f_Model_readsAll_L70 N i20 v_text v_length K118 n)))
def f_Model_readsAll (N : Nat) (x1 : Int32) (v_row : FI) (v_number : FJ) (v_text : FI) (v_length : Int32) (v_at : Int32) (v_readKey : FI) (v_readCount : FJ) (v_keys : Int32) : Option (Int32 × FI × FJ × Int32 × FI × FJ × Int32) := if ck 6 1002 = true then f_Model_readsAll_L18 v_row v_number (v_row (6 : Int32).toNatClampNeg) (fun i12 c13 c14 => (f_Model_readsItem N x1 v_row v_number v_text v_length 0 c13 c14 (v_row (6 : Int32).toNatClampNeg)).bind (fun r15 => (f_Model_here N v_text v_length r15.2.2.2.1).bind (fun r16 => f_Model_readsAll_L70 N x1 v_text v_length (fun i49 i50 c51 c52 c53 c54 c55 c56 => if i49 = 0 ∨ i49 = 1 then some (i49, c51, c52, c53, c54, c55, c56) else none) N r15.1 r16.1 r15.2.1 r15.2.2.1 r16.2 r15.2.2.2.2.1 r15.2.2.2.2.2.1 r15.2.2.2.2.2.2))) N 0 v_readKey v_readCount else none
abbrev Q_Model_readsAll (below : List Frame) (D : va_G) (k : Nat → ClassId) (A : Nat → Prop) (args : Array Value) (s : State) (b0 : Nat → Nat) (o0 : Nat) (s0 : ModelS) (out : Int32 × FI × FJ × Int32 × FI × FJ × Int32) : State → Prop := MQ below (QW D k A (some (.int out.1)) [W_Model k b0 o0 (u_Model_keys (u_Model_readCount (u_Model_readKey (u_Model_at (u_Model_number (u_Model_row s0 out.2.1) out.2.2.1) out.2.2.2.1) out.2.2.2.2.1) out.2.2.2.2.2.1) out.2.2.2.2.2.2)].flatten) args s 0 0 A
set_option maxRecDepth 100000 in
set_option maxHeartbeats 200000 in
theorem w_Model_readsAll_L18 {p : Program} {l : Launch} {e : Env} {s : State} {m : MethodId} {below : List Frame} {meth : Method} {c : Code} {args : Array Value} {A : Nat → Prop} {D : va_G} {k : Nat → ClassId} {t : Nat → Nat} (X : BX l D k t p s m args meth c cX8_readsAll 4 RX8 (some .boolean) A) (b0 : Nat → Nat) (o0 : Nat) (s0 : ModelS) (N : Nat) (i3 : Int32) (c5 : FI) (c6 : FJ) (c7 : Int32) (c10 : Int32) (out : Int32 × FI × FJ × Int32 × FI × FJ × Int32) (K59 : Int32 → FI → FJ → Option (Int32 × FI × FJ × Int32 × FI × FJ × Int32)) (hK59 : ∀ (i4' : Int32) (c8' : FI) (c9' : FJ) (H : Heap) (locs : List Loc) (ls : Array Slot), va_P D vwCl [W_Model k b0 o0 (u_Model_keys (u_Model_readCount (u_Model_readKey (u_Model_at (u_Model_number (u_Model_row s0 c5) c6) c7) c8') c9') c10)].flatten H → va_D A [W_Model k b0 o0 (u_Model_keys (u_Model_readCount (u_Model_readKey (u_Model_at (u_Model_number (u_Model_row s0 c5) c6) c7) c8') c9') c10)].flatten → va_S A s.heap H locs → lv_has ls 4 [(0, .ref (b0 o0)), (1, .int i3)] → K59 i4' c8' c9' = some out → W p l e rm_Model_readsAll s m args below meth c H locs 0 0 (Q_Model_readsAll below D k A args s b0 o0 s0 out) (F0 m 59 ls [])) : ∀ (n : Nat) (i4 : Int32) (c8 : FI) (c9 : FJ) (H : Heap) (locs : List Loc) (ls : Array Slot), va_P D vwCl [W_Model k b0 o0 (u_Model_keys (u_Model_readCount (u_Model_readKey (u_Model_at (u_Model_number (u_Model_row s0 c5) c6) c7) c8) c9) c10)].flatten H → va_D A [W_Model k b0 o0 (u_Model_keys (u_Model_readCount (u_Model_readKey (u_Model_at (u_Model_number (u_Model_row s0 c5) c6) c7) c8) c9) c10)].flatten → va_S A s.heap H locs → lv_has ls 4 [(0, .ref (b0 o0)), (1, .int i3), (2, .int i4)] → f_Model_readsAll_L18 c5 c6 c10 K59 n i4 c8 c9 = some out → W p l e rm_Model_readsAll s m args below meth c H locs 0 0 (Q_Model_readsAll below D k A args s b0 o0 s0 out) (F0 m 18 ls []) := by
  have hx := X.1.1
  have hb := X.1.2.1
  have hml := X.1.2.2.1
  have hown := X.1.2.2.2.1
  have hts := X.1.2.2.2.2
  intro n
  induction n with
  | zero =>
    intro i4 c8 c9 H locs ls hP hD hS hl hf
    rw [f_Model_readsAll_L18] at hf
    cases hf
  | succ n ih =>
    intro i4 c8 c9 H locs ls hP hD hS hl hf
    rw [f_Model_readsAll_L18] at hf
    refine lv_iload_n hx hb dX8_readsAll_18 rfl (lv_at hl 2 rfl) ?_
    refine lv_aload_n hx hb dX8_readsAll_19 rfl (lv_at hl 0 rfl) ?_
    refine kget (v := .int c10) X hP ff_X8_184 0 rfl rfl dX8_readsAll_20 ?_
    refine lv_icmp_ge (tgt := 59) hx hb dX8_readsAll_23 (by decide) (fun hc => ?_) (fun hc => ?_)
    · have hf := ofpos hf hc
      exact hK59 i4 c8 c9 _ _ _ hP hD hS (lv_sub hl [0, 1] rfl) hf
    · have hf := ofneg hf hc
      refine lv_aload_n hx hb dX8_readsAll_26 rfl (lv_at hl 0 rfl) ?_
      refine kget (v := .ref (b0 (o0+13))) X hP ff_X8_47 0 rfl rfl dX8_readsAll_27 ?_
      refine lv_iload_n hx hb dX8_readsAll_30 rfl (lv_at hl 2 rfl) ?_
      refine lv_aload_n hx hb dX8_readsAll_31 rfl (lv_at hl 0 rfl) ?_
      refine kget (v := .ref (b0 (o0+1))) X hP ff_X8_7 0 rfl rfl dX8_readsAll_32 ?_
      refine lv_bipush (v := 7) hx hb dX8_readsAll_35 (by decide) ?_
      refine lv_iload_n hx hb dX8_readsAll_37 rfl (lv_at hl 2 rfl) ?_
      refine lv_iadd hx hb dX8_readsAll_38 ?_
      obtain ⟨hc, hf⟩ := ofck hf
      refine kiald (f := c5) (n := 1002) X hP 1 rfl hc dX8_readsAll_39 ?_
      obtain ⟨hc, hf⟩ := ofck hf
      refine kiast (f := c8) (n := 16) X hP hD hS 13 rfl hc dX8_readsAll_40 (fun H locs hP hD hS => ?_)
      have hP : va_P D vwCl [W_Model k b0 o0 (u_Model_keys (u_Model_readCount (u_Model_readKey (u_Model_at (u_Model_number (u_Model_row s0 c5) c6) c7) (upd c8 i4.toNatClampNeg (c5 (7 + i4).toNatClampNeg))) c9) c10)].flatten H := hP
      have hD : va_D A [W_Model k b0 o0 (u_Model_keys (u_Model_readCount (u_Model_readKey (u_Model_at (u_Model_number (u_Model_row s0 c5) c6) c7) (upd c8 i4.toNatClampNeg (c5 (7 + i4).toNatClampNeg))) c9) c10)].flatten := hD
      refine lv_aload_n hx hb dX8_readsAll_41 rfl (lv_at hl 0 rfl) ?_
      refine kget (v := .ref (b0 (o0+14))) X hP ff_X8_50 0 rfl rfl dX8_readsAll_42 ?_
      refine lv_iload_n hx hb dX8_readsAll_45 rfl (lv_at hl 2 rfl) ?_
      refine lv_aload_n hx hb dX8_readsAll_46 rfl (lv_at hl 0 rfl) ?_
      refine lv_iconst (v := 0) hx hb dX8_readsAll_47 (by decide) ?_
      refine lv_iload_n hx hb dX8_readsAll_48 rfl (lv_at hl 2 rfl) ?_
      obtain ⟨r11, hg_r11, hf⟩ := ofbind hf
      refine kcV (bs := [W_Model k b0 o0 (u_Model_keys (u_Model_readCount (u_Model_readKey (u_Model_at (u_Model_number (u_Model_row s0 c5) c6) c7) (upd c8 i4.toNatClampNeg (c5 (7 + i4).toNatClampNeg))) c9) c10)]) (br := []) (bc := [W_Model k b0 o0 (u_Model_keys (u_Model_readCount (u_Model_readKey (u_Model_at (u_Model_number (u_Model_row s0 c5) c6) c7) (upd c8 i4.toNatClampNeg (c5 (7 + i4).toNatClampNeg))) c9) c10)]) (bc' := [W_Model k b0 o0 (u_Model_keys (u_Model_readCount (u_Model_readKey (u_Model_at (u_Model_number (u_Model_row s0 c5) c6) c7) (upd c8 i4.toNatClampNeg (c5 (7 + i4).toNatClampNeg))) c9) c10)]) X hP hD hS (c_Model_truthAt l D k t b0 o0 (u_Model_keys (u_Model_readCount (u_Model_readKey (u_Model_at (u_Model_number (u_Model_row s0 c5) c6) c7) (upd c8 i4.toNatClampNeg (c5 (7 + i4).toNatClampNeg))) c9) c10) 0 i4 r11 hg_r11) mv_X8_108 hl [] [0] 8 ⟨rfl, rfl⟩ ⟨Nat.le_of_ble_eq_true rfl, Nat.le_of_ble_eq_true rfl⟩ rfl rfl rfl rfl rfl rfl rfl (Nat.le_of_ble_eq_true rfl) dX8_readsAll_49 (fun H locs hP hD hS => ?_)
      have hP : va_P D vwCl [W_Model k b0 o0 (u_Model_keys (u_Model_readCount (u_Model_readKey (u_Model_at (u_Model_number (u_Model_row s0 c5) c6) c7) (upd c8 i4.toNatClampNeg (c5 (7 + i4).toNatClampNeg))) c9) c10)].flatten H := hP
      have hD : va_D A [W_Model k b0 o0 (u_Model_keys (u_Model_readCount (u_Model_readKey (u_Model_at (u_Model_number (u_Model_row s0 c5) c6) c7) (upd c8 i4.toNatClampNeg (c5 (7 + i4).toNatClampNeg))) c9) c10)].flatten := hD
      obtain ⟨hc, hf⟩ := ofck hf
      refine klast (f := c9) (n := 16) X hP hD hS 14 rfl hc dX8_readsAll_52 (fun H locs hP hD hS => ?_)
      have hP : va_P D vwCl [W_Model k b0 o0 (u_Model_keys (u_Model_readCount (u_Model_readKey (u_Model_at (u_Model_number (u_Model_row s0 c5) c6) c7) (upd c8 i4.toNatClampNeg (c5 (7 + i4).toNatClampNeg))) (vp_updL c9 i4.toNatClampNeg r11)) c10)].flatten H := hP
      have hD : va_D A [W_Model k b0 o0 (u_Model_keys (u_Model_readCount (u_Model_readKey (u_Model_at (u_Model_number (u_Model_row s0 c5) c6) c7) (upd c8 i4.toNatClampNeg (c5 (7 + i4).toNatClampNeg))) (vp_updL c9 i4.toNatClampNeg r11)) c10)].flatten := hD
      refine lv_iinc (v := i4 + 1) (lv' := [(2, .int (i4 + 1)), (0, .ref (b0 o0)), (1, .int i3)]) hx hb dX8_readsAll_53 hl (k := 2) rfl rfl (by decide) rfl (fun ls hl => ?_)
      refine lv_goto (tgt := 18) hx hb dX8_readsAll_56 (by decide) ?_
      exact ih (i4 + 1) (upd c8 i4.toNatClampNeg (c5 (7 + i4).toNatClampNeg)) (vp_updL c9 i4.toNatClampNeg r11) _ _ _ hP hD hS (lv_sub hl [1, 2, 0] rfl) hf
set_option maxRecDepth 100000 in
set_option maxHeartbeats 200000 in
theorem w_Model_readsAll_J101 {p : Program} {l : Launch} {e : Env} {s : State} {m : MethodId} {below : List Frame} {meth : Method} {c : Code} {args : Array Value} {A : Nat → Prop} {D : va_G} {k : Nat → ClassId} {t : Nat → Nat} (X : BX l D k t p s m args meth c cX8_readsAll 4 RX8 (some .boolean) A) (b0 : Nat → Nat) (o0 : Nat) (s0 : ModelS) (N : Nat) (j38 : Int32) (j39 : Int32) (t40 : Int32) (c41 : FI) (c42 : FJ) (c43 : Int32) (c44 : FI) (c45 : FJ) (c46 : Int32) (out : Int32 × FI × FJ × Int32 × FI × FJ × Int32) (B70 : Int32 → Int32 → FI → FJ → Int32 → FI → FJ → Int32 → Option (Int32 × FI × FJ × Int32 × FI × FJ × Int32)) (hB70 : ∀ (i21' : Int32) (i22' : Int32) (c23' : FI) (c24' : FJ) (c25' : Int32) (c26' : FI) (c27' : FJ) (c28' : Int32) (H : Heap) (locs : List Loc) (ls : Array Slot), va_P D vwCl [W_Model k b0 o0 (u_Model_keys (u_Model_readCount (u_Model_readKey (u_Model_at (u_Model_number (u_Model_row s0 c23') c24') c25') c26') c27') c28')].flatten H → va_D A [W_Model k b0 o0 (u_Model_keys (u_Model_readCount (u_Model_readKey (u_Model_at (u_Model_number (u_Model_row s0 c23') c24') c25') c26') c27') c28')].flatten → va_S A s.heap H locs → lv_has ls 4 [(0, .ref (b0 o0)), (1, .int j38), (2, .int i21'), (3, .int i22')] → B70 i21' i22' c23' c24' c25' c26' c27' c28' = some out → W p l e rm_Model_readsAll s m args below meth c H locs 0 0 (Q_Model_readsAll below D k A args s b0 o0 s0 out) (F0 m 70 ls [])) : ∀ (H : Heap) (locs : List Loc) (ls : Array Slot), va_P D vwCl [W_Model k b0 o0 (u_Model_keys (u_Model_readCount (u_Model_readKey (u_Model_at (u_Model_number (u_Model_row s0 c41) c42) c43) c44) c45) c46)].flatten H → va_D A [W_Model k b0 o0 (u_Model_keys (u_Model_readCount (u_Model_readKey (u_Model_at (u_Model_number (u_Model_row s0 c41) c42) c43) c44) c45) c46)].flatten → va_S A s.heap H locs → lv_has ls 4 [(0, .ref (b0 o0)), (1, .int j38), (3, .int j39)] → f_Model_readsAll_J101 N j39 t40 c41 c42 c43 c44 c45 c46 s0.2.1.2.1 s0.2.1.2.2 B70 = some out → W p l e rm_Model_readsAll s m args below meth c H locs 0 0 (Q_Model_readsAll below D k A args s b0 o0 s0 out) (F0 m 101 ls [.int t40]) := by
  have hx := X.1.1
  have hb := X.1.2.1
  have hml := X.1.2.2.1
  have hown := X.1.2.2.2.1
  have hts := X.1.2.2.2.2
  intro H locs ls hP hD hS hl hf
  rw [f_Model_readsAll_J101] at hf
  refine lv_istore_n (lv' := [(2, .int t40), (0, .ref (b0 o0)), (1, .int j38), (3, .int j39)]) hx hb dX8_readsAll_101 rfl hl (by decide) rfl (fun ls hl => ?_)
  refine lv_iload_n hx hb dX8_readsAll_102 rfl (lv_at hl 0 rfl) ?_
  refine lv_if_eq (tgt := 113) hx hb dX8_readsAll_103 (by decide) (fun hc => ?_) (fun hc => ?_)
  · have hf := ofpos hf hc
    refine lv_iload_n hx hb dX8_readsAll_113 rfl (lv_at hl 3 rfl) ?_
    refine lv_istore_n (lv' := [(3, .int j39), (2, .int t40), (0, .ref (b0 o0)), (1, .int j38)]) hx hb dX8_readsAll_114 rfl hl (by decide) rfl (fun ls hl => ?_)
    refine lv_goto (tgt := 70) hx hb dX8_readsAll_115 (by decide) ?_
    exact hB70 t40 j39 c41 c42 c43 c44 c45 c46 _ _ _ hP hD hS (lv_sub hl [2, 3, 1, 0] rfl) hf
  · have hf := ofneg hf hc
    refine lv_aload_n hx hb dX8_readsAll_106 rfl (lv_at hl 1 rfl) ?_
    obtain ⟨r47, hg_r47, hf⟩ := ofbind hf
    refine kcV (bs := [W_Model k b0 o0 (u_Model_keys (u_Model_readCount (u_Model_readKey (u_Model_at (u_Model_number (u_Model_row s0 c41) c42) c43) c44) c45) c46)]) (br := []) (bc := [W_Model k b0 o0 (u_Model_keys (u_Model_readCount (u_Model_readKey (u_Model_at (u_Model_number (u_Model_row s0 c41) c42) c43) c44) c45) c46)]) (bc' := [W_Model k b0 o0 (u_Model_keys (u_Model_readCount (u_Model_readKey (u_Model_at (u_Model_number (u_Model_row s0 c41) c42) r47.2) c44) c45) c46)]) X hP hD hS (c_Model_here l D k t b0 o0 (u_Model_keys (u_Model_readCount (u_Model_readKey (u_Model_at (u_Model_number (u_Model_row s0 c41) c42) c43) c44) c45) c46) N r47 hg_r47) mv_X8_181 hl [] [0] 8 ⟨rfl, rfl⟩ ⟨Nat.le_of_ble_eq_true rfl, Nat.le_of_ble_eq_true rfl⟩ rfl rfl rfl rfl rfl rfl rfl (Nat.le_of_ble_eq_true rfl) dX8_readsAll_107 (fun H locs hP hD hS => ?_)
    have hP : va_P D vwCl [W_Model k b0 o0 (u_Model_keys (u_Model_readCount (u_Model_readKey (u_Model_at (u_Model_number (u_Model_row s0 c41) c42) r47.2) c44) c45) c46)].flatten H := hP
    have hD : va_D A [W_Model k b0 o0 (u_Model_keys (u_Model_readCount (u_Model_readKey (u_Model_at (u_Model_number (u_Model_row s0 c41) c42) r47.2) c44) c45) c46)].flatten := hD
    refine lv_goto (tgt := 114) hx hb dX8_readsAll_110 (by decide) ?_
    refine lv_istore_n (lv' := [(3, .int r47.1), (2, .int t40), (0, .ref (b0 o0)), (1, .int j38)]) hx hb dX8_readsAll_114 rfl hl (by decide) rfl (fun ls hl => ?_)
    refine lv_goto (tgt := 70) hx hb dX8_readsAll_115 (by decide) ?_
    exact hB70 t40 r47.1 c41 c42 r47.2 c44 c45 c46 _ _ _ hP hD hS (lv_sub hl [2, 3, 1, 0] rfl) hf
set_option maxRecDepth 100000 in
set_option maxHeartbeats 200000 in
theorem w_Model_readsAll_J100 {p : Program} {l : Launch} {e : Env} {s : State} {m : MethodId} {below : List Frame} {meth : Method} {c : Code} {args : Array Value} {A : Nat → Prop} {D : va_G} {k : Nat → ClassId} {t : Nat → Nat} (X : BX l D k t p s m args meth c cX8_readsAll 4 RX8 (some .boolean) A) (b0 : Nat → Nat) (o0 : Nat) (s0 : ModelS) (N : Nat) (j30 : Int32) (j31 : Int32) (c32 : FI) (c33 : FJ) (c34 : Int32) (c35 : FI) (c36 : FJ) (c37 : Int32) (out : Int32 × FI × FJ × Int32 × FI × FJ × Int32) (B70 : Int32 → Int32 → FI → FJ → Int32 → FI → FJ → Int32 → Option (Int32 × FI × FJ × Int32 × FI × FJ × Int32)) (hB70 : ∀ (i21' : Int32) (i22' : Int32) (c23' : FI) (c24' : FJ) (c25' : Int32) (c26' : FI) (c27' : FJ) (c28' : Int32) (H : Heap) (locs : List Loc) (ls : Array Slot), va_P D vwCl [W_Model k b0 o0 (u_Model_keys (u_Model_readCount (u_Model_readKey (u_Model_at (u_Model_number (u_Model_row s0 c23') c24') c25') c26') c27') c28')].flatten H → va_D A [W_Model k b0 o0 (u_Model_keys (u_Model_readCount (u_Model_readKey (u_Model_at (u_Model_number (u_Model_row s0 c23') c24') c25') c26') c27') c28')].flatten → va_S A s.heap H locs → lv_has ls 4 [(0, .ref (b0 o0)), (1, .int j30), (2, .int i21'), (3, .int i22')] → B70 i21' i22' c23' c24' c25' c26' c27' c28' = some out → W p l e rm_Model_readsAll s m args below meth c H locs 0 0 (Q_Model_readsAll below D k A args s b0 o0 s0 out) (F0 m 70 ls [])) : ∀ (H : Heap) (locs : List Loc) (ls : Array Slot), va_P D vwCl [W_Model k b0 o0 (u_Model_keys (u_Model_readCount (u_Model_readKey (u_Model_at (u_Model_number (u_Model_row s0 c32) c33) c34) c35) c36) c37)].flatten H → va_D A [W_Model k b0 o0 (u_Model_keys (u_Model_readCount (u_Model_readKey (u_Model_at (u_Model_number (u_Model_row s0 c32) c33) c34) c35) c36) c37)].flatten → va_S A s.heap H locs → lv_has ls 4 [(0, .ref (b0 o0)), (1, .int j30), (3, .int j31)] → f_Model_readsAll_J100 N j31 c32 c33 c34 c35 c36 c37 s0.2.1.2.1 s0.2.1.2.2 B70 = some out → W p l e rm_Model_readsAll s m args below meth c H locs 0 0 (Q_Model_readsAll below D k A args s b0 o0 s0 out) (F0 m 100 ls []) := by
  have hx := X.1.1
  have hb := X.1.2.1
  have hml := X.1.2.2.1
  have hown := X.1.2.2.2.1
  have hts := X.1.2.2.2.2
  intro H locs ls hP hD hS hl hf
  rw [f_Model_readsAll_J100] at hf
  refine lv_iconst (v := 0) hx hb dX8_readsAll_100 (by decide) ?_
  exact w_Model_readsAll_J101 X b0 o0 s0 N j30 j31 0 c32 c33 c34 c35 c36 c37 out _ hB70 _ _ _ hP hD hS (lv_sub hl [0, 1, 2] rfl) hf
set_option maxRecDepth 100000 in
set_option maxHeartbeats 200000 in
theorem w_Model_readsAll_L70 {p : Program} {l : Launch} {e : Env} {s : State} {m : MethodId} {below : List Frame} {meth : Method} {c : Code} {args : Array Value} {A : Nat → Prop} {D : va_G} {k : Nat → ClassId} {t : Nat → Nat} (X : BX l D k t p s m args meth c cX8_readsAll 4 RX8 (some .boolean) A) (b0 : Nat → Nat) (o0 : Nat) (s0 : ModelS) (N : Nat) (i20 : Int32) (out : Int32 × FI × FJ × Int32 × FI × FJ × Int32) (K118 : Int32 → Int32 → FI → FJ → Int32 → FI → FJ → Int32 → Option (Int32 × FI × FJ × Int32 × FI × FJ × Int32)) (hK118 : ∀ (i21' : Int32) (i22' : Int32) (c23' : FI) (c24' : FJ) (c25' : Int32) (c26' : FI) (c27' : FJ) (c28' : Int32) (H : Heap) (locs : List Loc) (ls : Array Slot), va_P D vwCl [W_Model k b0 o0 (u_Model_keys (u_Model_readCount (u_Model_readKey (u_Model_at (u_Model_number (u_Model_row s0 c23') c24') c25') c26') c27') c28')].flatten H → va_D A [W_Model k b0 o0 (u_Model_keys (u_Model_readCount (u_Model_readKey (u_Model_at (u_Model_number (u_Model_row s0 c23') c24') c25') c26') c27') c28')].flatten → va_S A s.heap H locs → lv_has ls 4 [(2, .int i21')] → K118 i21' i22' c23' c24' c25' c26' c27' c28' = some out → W p l e rm_Model_readsAll s m args below meth c H locs 0 0 (Q_Model_readsAll below D k A args s b0 o0 s0 out) (F0 m 118 ls [])) : ∀ (n : Nat) (i21 : Int32) (i22 : Int32) (c23 : FI) (c24 : FJ) (c25 : Int32) (c26 : FI) (c27 : FJ) (c28 : Int32) (H : Heap) (locs : List Loc) (ls : Array Slot), va_P D vwCl [W_Model k b0 o0 (u_Model_keys (u_Model_readCount (u_Model_readKey (u_Model_at (u_Model_number (u_Model_row s0 c23) c24) c25) c26) c27) c28)].flatten H → va_D A [W_Model k b0 o0 (u_Model_keys (u_Model_readCount (u_Model_readKey (u_Model_at (u_Model_number (u_Model_row s0 c23) c24) c25) c26) c27) c28)].flatten → va_S A s.heap H locs → lv_has ls 4 [(0, .ref (b0 o0)), (1, .int i20), (2, .int i21), (3, .int i22)] → f_Model_readsAll_L70 N i20 s0.2.1.2.1 s0.2.1.2.2 K118 n i21 i22 c23 c24 c25 c26 c27 c28 = some out → W p l e rm_Model_readsAll s m args below meth c H locs 0 0 (Q_Model_readsAll below D k A args s b0 o0 s0 out) (F0 m 70 ls []) := by
  have hx := X.1.1
  have hb := X.1.2.1
  have hml := X.1.2.2.1
  have hown := X.1.2.2.2.1
  have hts := X.1.2.2.2.2
  intro n
  induction n with
  | zero =>
    intro i21 i22 c23 c24 c25 c26 c27 c28 H locs ls hP hD hS hl hf
    rw [f_Model_readsAll_L70] at hf
    cases hf
  | succ n ih =>
    intro i21 i22 c23 c24 c25 c26 c27 c28 H locs ls hP hD hS hl hf
    rw [f_Model_readsAll_L70] at hf
    refine lv_iload_n hx hb dX8_readsAll_70 rfl (lv_at hl 2 rfl) ?_
    refine lv_if_eq (tgt := 118) hx hb dX8_readsAll_71 (by decide) (fun hc => ?_) (fun hc => ?_)
    · have hf := ofpos hf hc
      exact hK118 i21 i22 c23 c24 c25 c26 c27 c28 _ _ _ hP hD hS (lv_sub hl [2] rfl) hf
    · have hf := ofneg hf hc
      refine lv_iload_n hx hb dX8_readsAll_74 rfl (lv_at hl 3 rfl) ?_
      refine lv_iconst (v := (-1)) hx hb dX8_readsAll_75 (by decide) ?_
      refine lv_icmp_eq (tgt := 118) hx hb dX8_readsAll_76 (by decide) (fun hc => ?_) (fun hc => ?_)
      · have hf := ofpos hf hc
        exact hK118 i21 i22 c23 c24 c25 c26 c27 c28 _ _ _ hP hD hS (lv_sub hl [2] rfl) hf
      · have hf := ofneg hf hc
        refine lv_aload_n hx hb dX8_readsAll_79 rfl (lv_at hl 0 rfl) ?_
        refine lv_bipush (v := 59) hx hb dX8_readsAll_80 (by decide) ?_
        obtain ⟨r29, hg_r29, hf⟩ := ofbind hf
        refine kcV (bs := [W_Model k b0 o0 (u_Model_keys (u_Model_readCount (u_Model_readKey (u_Model_at (u_Model_number (u_Model_row s0 c23) c24) c25) c26) c27) c28)]) (br := []) (bc := [W_Model k b0 o0 (u_Model_keys (u_Model_readCount (u_Model_readKey (u_Model_at (u_Model_number (u_Model_row s0 c23) c24) c25) c26) c27) c28)]) (bc' := [W_Model k b0 o0 (u_Model_keys (u_Model_readCount (u_Model_readKey (u_Model_at (u_Model_number (u_Model_row s0 c23) c24) r29.2) c26) c27) c28)]) X hP hD hS (c_Model_sign l D k t b0 o0 (u_Model_keys (u_Model_readCount (u_Model_readKey (u_Model_at (u_Model_number (u_Model_row s0 c23) c24) c25) c26) c27) c28) 59 N r29 hg_r29) mv_X8_193 hl [] [0] 8 ⟨rfl, rfl⟩ ⟨Nat.le_of_ble_eq_true rfl, Nat.le_of_ble_eq_true rfl⟩ rfl rfl rfl rfl rfl rfl rfl (Nat.le_of_ble_eq_true rfl) dX8_readsAll_82 (fun H locs hP hD hS => ?_)
        have hP : va_P D vwCl [W_Model k b0 o0 (u_Model_keys (u_Model_readCount (u_Model_readKey (u_Model_at (u_Model_number (u_Model_row s0 c23) c24) r29.2) c26) c27) c28)].flatten H := hP
        have hD : va_D A [W_Model k b0 o0 (u_Model_keys (u_Model_readCount (u_Model_readKey (u_Model_at (u_Model_number (u_Model_row s0 c23) c24) r29.2) c26) c27) c28)].flatten := hD
        refine lv_if_eq (tgt := 100) hx hb dX8_readsAll_85 (by decide) (fun hc => ?_) (fun hc => ?_)
        · have hf := ofpos hf hc
          exact w_Model_readsAll_J100 X b0 o0 s0 N i20 i22 c23 c24 r29.2 c26 c27 c28 out _ ih _ _ _ hP hD hS (lv_sub hl [0, 1, 3] rfl) hf
        · have hf := ofneg hf hc
          refine lv_aload_n hx hb dX8_readsAll_88 rfl (lv_at hl 0 rfl) ?_
          refine lv_iload_n hx hb dX8_readsAll_89 rfl (lv_at hl 1 rfl) ?_
          obtain ⟨r48, hg_r48, hf⟩ := ofbind hf
          refine kcV (bs := [W_Model k b0 o0 (u_Model_keys (u_Model_readCount (u_Model_readKey (u_Model_at (u_Model_number (u_Model_row s0 c23) c24) r29.2) c26) c27) c28)]) (br := []) (bc := [W_Model k b0 o0 (u_Model_keys (u_Model_readCount (u_Model_readKey (u_Model_at (u_Model_number (u_Model_row s0 c23) c24) r29.2) c26) c27) c28)]) (bc' := [W_Model k b0 o0 (u_Model_keys (u_Model_readCount (u_Model_readKey (u_Model_at (u_Model_number (u_Model_row s0 r48.2.1) r48.2.2.1) r48.2.2.2.1) r48.2.2.2.2.1) r48.2.2.2.2.2.1) r48.2.2.2.2.2.2)]) X hP hD hS (c_Model_readsItem l D k t b0 o0 (u_Model_keys (u_Model_readCount (u_Model_readKey (u_Model_at (u_Model_number (u_Model_row s0 c23) c24) r29.2) c26) c27) c28) i20 N r48 hg_r48) mv_X8_196 hl [] [0] 8 ⟨rfl, rfl⟩ ⟨Nat.le_of_ble_eq_true rfl, Nat.le_of_ble_eq_true rfl⟩ rfl rfl rfl rfl rfl rfl rfl (Nat.le_of_ble_eq_true rfl) dX8_readsAll_90 (fun H locs hP hD hS => ?_)
          have hP : va_P D vwCl [W_Model k b0 o0 (u_Model_keys (u_Model_readCount (u_Model_readKey (u_Model_at (u_Model_number (u_Model_row s0 r48.2.1) r48.2.2.1) r48.2.2.2.1) r48.2.2.2.2.1) r48.2.2.2.2.2.1) r48.2.2.2.2.2.2)].flatten H := hP
          have hD : va_D A [W_Model k b0 o0 (u_Model_keys (u_Model_readCount (u_Model_readKey (u_Model_at (u_Model_number (u_Model_row s0 r48.2.1) r48.2.2.1) r48.2.2.2.1) r48.2.2.2.2.1) r48.2.2.2.2.2.1) r48.2.2.2.2.2.2)].flatten := hD
          refine lv_if_eq (tgt := 100) hx hb dX8_readsAll_93 (by decide) (fun hc => ?_) (fun hc => ?_)
          · have hf := ofpos hf hc
            exact w_Model_readsAll_J100 X b0 o0 s0 N i20 i22 r48.2.1 r48.2.2.1 r48.2.2.2.1 r48.2.2.2.2.1 r48.2.2.2.2.2.1 r48.2.2.2.2.2.2 out _ ih _ _ _ hP hD hS (lv_sub hl [0, 1, 3] rfl) hf
          · have hf := ofneg hf hc
            refine lv_iconst (v := 1) hx hb dX8_readsAll_96 (by decide) ?_
            refine lv_goto (tgt := 101) hx hb dX8_readsAll_97 (by decide) ?_
            exact w_Model_readsAll_J101 X b0 o0 s0 N i20 i22 1 r48.2.1 r48.2.2.1 r48.2.2.2.1 r48.2.2.2.2.1 r48.2.2.2.2.2.1 r48.2.2.2.2.2.2 out _ ih _ _ _ hP hD hS (lv_sub hl [0, 1, 3] rfl) hf
set_option maxRecDepth 100000 in
set_option maxHeartbeats 200000 in
theorem c_Model_readsAll (l : Launch) (D : va_G) (k : Nat → ClassId) (t : Nat → Nat) (b0 : Nat → Nat) (o0 : Nat) (s0 : ModelS) (x1 : Int32) (N : Nat) (out : Int32 × FI × FJ × Int32 × FI × FJ × Int32) (hf : f_Model_readsAll N x1 s0.1.1.1.1.1 s0.1.1.1.1.2 s0.2.1.2.1 s0.2.1.2.2 s0.2.2.1.1.1 s0.2.2.1.1.2 s0.2.2.1.2 s0.2.2.2.1 = some out) : CT l D k t yX8_readsAll cX8_readsAll 4 (some .boolean) rm_Model_readsAll [.ref (b0 o0), .int x1] [W_Model k b0 o0 s0].flatten (some (.int out.1)) [W_Model k b0 o0 (u_Model_keys (u_Model_readCount (u_Model_readKey (u_Model_at (u_Model_number (u_Model_row s0 out.2.1) out.2.2.1) out.2.2.2.1) out.2.2.2.2.1) out.2.2.2.2.2.1) out.2.2.2.2.2.2)].flatten := by
  refine kofW (by decide) (Nat.le_of_ble_eq_true rfl) ?_
  intro p e s m below meth c A ls X hP hD hS hl
  have hx := X.1.1
  have hb := X.1.2.1
  have hml := X.1.2.2.1
  have hown := X.1.2.2.2.1
  have hts := X.1.2.2.2.2
  have hl : lv_has ls 4 [(0, .ref (b0 o0)), (1, .int x1)] := hl
  rw [f_Model_readsAll] at hf
  refine lv_aload_n hx hb dX8_readsAll_0 rfl (lv_at hl 0 rfl) ?_
  refine lv_iconst (v := 0) hx hb dX8_readsAll_1 (by decide) ?_
  refine kputi (v := 0) X hP hD hS fp_X8_178 0 rfl (Nat.le_of_ble_eq_true rfl) dX8_readsAll_2 (fun H locs hP hD hS => ?_)
  have hP : va_P D vwCl [W_Model k b0 o0 (u_Model_at s0 0)].flatten H := hP
  have hD : va_D A [W_Model k b0 o0 (u_Model_at s0 0)].flatten := hD
  refine lv_aload_n hx hb dX8_readsAll_5 rfl (lv_at hl 0 rfl) ?_
  refine lv_aload_n hx hb dX8_readsAll_6 rfl (lv_at hl 0 rfl) ?_
  refine kget (v := .ref (b0 (o0+1))) X hP ff_X8_7 0 rfl rfl dX8_readsAll_7 ?_
  refine lv_bipush (v := 6) hx hb dX8_readsAll_10 (by decide) ?_
  obtain ⟨hc, hf⟩ := ofck hf
  refine kiald (f := s0.1.1.1.1.1) (n := 1002) X hP 1 rfl hc dX8_readsAll_12 ?_
  refine kputi (v := y1) X hP hD hS fp_X8_184 0 rfl (Nat.le_of_ble_eq_true rfl) dX8_readsAll_13 (fun H locs hP hD hS => ?_)
  have hP : va_P D vwCl [W_Model k b0 o0 (u_Model_keys (u_Model_at s0 0) y1)].flatten H := hP
  have hD : va_D A [W_Model k b0 o0 (u_Model_keys (u_Model_at s0 0) y1)].flatten := hD
  refine lv_iconst (v := 0) hx hb dX8_readsAll_16 (by decide) ?_
  refine lv_istore_n (lv' := [(2, .int 0), (0, .ref (b0 o0)), (1, .int x1)]) hx hb dX8_readsAll_17 rfl hl (by decide) rfl (fun ls hl => ?_)
  refine w_Model_readsAll_L18 X b0 o0 s0 N x1 s0.1.1.1.1.1 s0.1.1.1.1.2 0 y1 out _ ?_ N 0 s0.2.2.1.1.2 s0.2.2.1.2 _ _ _ hP hD hS (lv_sub hl [1, 2, 0] rfl) hf
  · intro i12 c13 c14 H locs ls hP hD hS hl hf
    refine lv_aload_n hx hb dX8_readsAll_59 rfl (lv_at hl 0 rfl) ?_
    refine lv_iload_n hx hb dX8_readsAll_60 rfl (lv_at hl 1 rfl) ?_
    obtain ⟨r15, hg_r15, hf⟩ := ofbind hf
    refine kcV (bs := [W_Model k b0 o0 (u_Model_keys (u_Model_readCount (u_Model_readKey (u_Model_at s0 0) c13) c14) y1)]) (br := []) (bc := [W_Model k b0 o0 (u_Model_keys (u_Model_readCount (u_Model_readKey (u_Model_at s0 0) c13) c14) y1)]) (bc' := [W_Model k b0 o0 (u_Model_keys (u_Model_readCount (u_Model_readKey (u_Model_at (u_Model_number (u_Model_row s0 r15.2.1) r15.2.2.1) r15.2.2.2.1) r15.2.2.2.2.1) r15.2.2.2.2.2.1) r15.2.2.2.2.2.2)]) X hP hD hS (c_Model_readsItem l D k t b0 o0 (u_Model_keys (u_Model_readCount (u_Model_readKey (u_Model_at s0 0) c13) c14) y1) x1 N r15 hg_r15) mv_X8_196 hl [] [0] 8 ⟨rfl, rfl⟩ ⟨Nat.le_of_ble_eq_true rfl, Nat.le_of_ble_eq_true rfl⟩ rfl rfl rfl rfl rfl rfl rfl (Nat.le_of_ble_eq_true rfl) dX8_readsAll_61 (fun H locs hP hD hS => ?_)
    have hP : va_P D vwCl [W_Model k b0 o0 (u_Model_keys (u_Model_readCount (u_Model_readKey (u_Model_at (u_Model_number (u_Model_row s0 r15.2.1) r15.2.2.1) r15.2.2.2.1) r15.2.2.2.2.1) r15.2.2.2.2.2.1) r15.2.2.2.2.2.2)].flatten H := hP
    have hD : va_D A [W_Model k b0 o0 (u_Model_keys (u_Model_readCount (u_Model_readKey (u_Model_at (u_Model_number (u_Model_row s0 r15.2.1) r15.2.2.1) r15.2.2.2.1) r15.2.2.2.2.1) r15.2.2.2.2.2.1) r15.2.2.2.2.2.2)].flatten := hD
    refine lv_istore_n (lv' := [(2, .int r15.1), (0, .ref (b0 o0)), (1, .int x1)]) hx hb dX8_readsAll_64 rfl hl (by decide) rfl (fun ls hl => ?_)
    refine lv_aload_n hx hb dX8_readsAll_65 rfl (lv_at hl 1 rfl) ?_
    obtain ⟨r16, hg_r16, hf⟩ := ofbind hf
    refine kcV (bs := [W_Model k b0 o0 (u_Model_keys (u_Model_readCount (u_Model_readKey (u_Model_at (u_Model_number (u_Model_row s0 r15.2.1) r15.2.2.1) r15.2.2.2.1) r15.2.2.2.2.1) r15.2.2.2.2.2.1) r15.2.2.2.2.2.2)]) (br := []) (bc := [W_Model k b0 o0 (u_Model_keys (u_Model_readCount (u_Model_readKey (u_Model_at (u_Model_number (u_Model_row s0 r15.2.1) r15.2.2.1) r15.2.2.2.1) r15.2.2.2.2.1) r15.2.2.2.2.2.1) r15.2.2.2.2.2.2)]) (bc' := [W_Model k b0 o0 (u_Model_keys (u_Model_readCount (u_Model_readKey (u_Model_at (u_Model_number (u_Model_row s0 r15.2.1) r15.2.2.1) r16.2) r15.2.2.2.2.1) r15.2.2.2.2.2.1) r15.2.2.2.2.2.2)]) X hP hD hS (c_Model_here l D k t b0 o0 (u_Model_keys (u_Model_readCount (u_Model_readKey (u_Model_at (u_Model_number (u_Model_row s0 r15.2.1) r15.2.2.1) r15.2.2.2.1) r15.2.2.2.2.1) r15.2.2.2.2.2.1) r15.2.2.2.2.2.2) N r16 hg_r16) mv_X8_181 hl [] [0] 8 ⟨rfl, rfl⟩ ⟨Nat.le_of_ble_eq_true rfl, Nat.le_of_ble_eq_true rfl⟩ rfl rfl rfl rfl rfl rfl rfl (Nat.le_of_ble_eq_true rfl) dX8_readsAll_66 (fun H locs hP hD hS => ?_)
    have hP : va_P D vwCl [W_Model k b0 o0 (u_Model_keys (u_Model_readCount (u_Model_readKey (u_Model_at (u_Model_number (u_Model_row s0 r15.2.1) r15.2.2.1) r16.2) r15.2.2.2.2.1) r15.2.2.2.2.2.1) r15.2.2.2.2.2.2)].flatten H := hP
    have hD : va_D A [W_Model k b0 o0 (u_Model_keys (u_Model_readCount (u_Model_readKey (u_Model_at (u_Model_number (u_Model_row s0 r15.2.1) r15.2.2.1) r16.2) r15.2.2.2.2.1) r15.2.2.2.2.2.1) r15.2.2.2.2.2.2)].flatten := hD
    refine lv_istore_n (lv' := [(3, .int r16.1), (2, .int r15.1), (0, .ref (b0 o0)), (1, .int x1)]) hx hb dX8_readsAll_69 rfl hl (by decide) rfl (fun ls hl => ?_)
    refine w_Model_readsAll_L70 X b0 o0 s0 N x1 out _ ?_ N r15.1 r16.1 r15.2.1 r15.2.2.1 r16.2 r15.2.2.2.2.1 r15.2.2.2.2.2.1 r15.2.2.2.2.2.2 _ _ _ hP hD hS (lv_sub hl [2, 3, 1, 0] rfl) hf
    · intro i49 i50 c51 c52 c53 c54 c55 c56 H locs ls hP hD hS hl hf
      refine lv_iload_n hx hb dX8_readsAll_118 rfl (lv_at hl 0 rfl) ?_
      obtain ⟨hz, hf⟩ := ofif hf
      have hf := Option.some.inj hf
      subst hf
      exact kzret (v := i49) X hP hD hS (zck_n hz) dX8_readsAll_119
