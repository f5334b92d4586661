/-! Model_rounds: private void rounds(int); -/
abbrev rm_Model_rounds : Room := ({ frames := 2, cells := 0, slots := 0, locals := 54 } : Room)
def f_Model_rounds_L7 (N : Nat) (i2 : Int32) (v_place : FI) (v_least : FJ) (v_greatest : FJ) (v_things : Int32) (K37 : Int32 → FJ → FJ → FJ → FJ → Int32 → Option (FJ × FJ × FJ × FJ × Int32)) : Nat → Int32 → FJ → FJ → FJ → FJ → Int32 → Option (FJ × FJ × FJ × FJ × Int32)
  | 0, _, _, _, _, _, _ => none
  | n + 1, i3, c4, c5, c6, c7, c8 => if i2 < i3 then K37 i3 c4 c5 c6 c7 c8 else (f_Model_round N v_place c4 c5 c6 c7 v_least v_greatest v_things).bind (fun r9 => if r9.1 = 0 then f_Model_rounds_L7 N i2 v_place v_least v_greatest v_things K37 n (i3 + 1) r9.2.1 r9.2.2.1 r9.2.2.2.1 r9.2.2.2.2 c8 else f_Model_rounds_L7 N i2 v_place v_least v_greatest v_things K37 n (i3 + 1) r9.2.1 r9.2.2.1 r9.2.2.2.1 r9.2.2.2.2 i3)
def f_Model_rounds (N : Nat) (x1 : Int32) (v_place : FI) (v_low : FJ) (v_high : FJ) (v_lowBefore : FJ) (v_highBefore : FJ) (v_least : FJ) (v_greatest : FJ) (v_things : Int32) (v_changing : Int32) : Option (FJ × FJ × FJ × FJ × Int32) := f_Model_rounds_L7 N x1 v_place v_least v_greatest v_things (fun i10 c11 c12 c13 c14 c15 => some (c11, c12, c13, c14, c15)) N 1 v_low v_high v_lowBefore v_highBefore 0
abbrev Q_Model_rounds (below : List Frame) (D : va_G) (k : Nat → ClassId) (A : Nat → Prop) (args : Array Value) (s : State) (b0 : Nat → Nat) (o0 : Nat) (s0 : ModelS) (out : FJ × FJ × FJ × FJ × Int32) : State → Prop := MQ below (QW D k A none [W_Model k b0 o0 (u_Model_changing (u_Model_highBefore (u_Model_lowBefore (u_Model_high (u_Model_low s0 out.1) out.2.1) out.2.2.1) out.2.2.2.1) out.2.2.2.2)].flatten) args s 0 0 A
set_option maxRecDepth 100000 in
set_option maxHeartbeats 200000 in
theorem w_Model_rounds_L7 {p : Program} {l : Launch} {e : Env} {s : State} {m : MethodId} {below : List Frame} {meth : Method} {c : Code} {args : Array Value} {A : Nat → Prop} {D : va_G} {k : Nat → ClassId} {t : Nat → Nat} (X : BX l D k t p s m args meth c cX8_rounds 3 RX8 none A) (b0 : Nat → Nat) (o0 : Nat) (s0 : ModelS) (N : Nat) (i2 : Int32) (out : FJ × FJ × FJ × FJ × Int32) (K37 : Int32 → FJ → FJ → FJ → FJ → Int32 → Option (FJ × FJ × FJ × FJ × Int32)) (hK37 : ∀ (i3' : Int32) (c4' : FJ) (c5' : FJ) (c6' : FJ) (c7' : FJ) (c8' : Int32) (H : Heap) (locs : List Loc) (ls : Array Slot), va_P D vwCl [W_Model k b0 o0 (u_Model_changing (u_Model_highBefore (u_Model_lowBefore (u_Model_high (u_Model_low s0 c4') c5') c6') c7') c8')].flatten H → va_D A [W_Model k b0 o0 (u_Model_changing (u_Model_highBefore (u_Model_lowBefore (u_Model_high (u_Model_low s0 c4') c5') c6') c7') c8')].flatten → va_S A s.heap H locs → lv_has ls 3 [] → K37 i3' c4' c5' c6' c7' c8' = some out → W p l e rm_Model_rounds s m args below meth c H locs 0 0 (Q_Model_rounds below D k A args s b0 o0 s0 out) (F0 m 37 ls [])) : ∀ (n : Nat) (i3 : Int32) (c4 : FJ) (c5 : FJ) (c6 : FJ) (c7 : FJ) (c8 : Int32) (H : Heap) (locs : List Loc) (ls : Array Slot), va_P D vwCl [W_Model k b0 o0 (u_Model_changing (u_Model_highBefore (u_Model_lowBefore (u_Model_high (u_Model_low s0 c4) c5) c6) c7) c8)].flatten H → va_D A [W_Model k b0 o0 (u_Model_changing (u_Model_highBefore (u_Model_lowBefore (u_Model_high (u_Model_low s0 c4) c5) c6) c7) c8)].flatten → va_S A s.heap H locs → lv_has ls 3 [(0, .ref (b0 o0)), (1, .int i2), (2, .int i3)] → f_Model_rounds_L7 N i2 s0.1.1.2.1.1 s0.1.2.1.2 s0.1.2.2.1 s0.1.2.2.2 K37 n i3 c4 c5 c6 c7 c8 = some out → W p l e rm_Model_rounds s m args below meth c H locs 0 0 (Q_Model_rounds below D k A args s b0 o0 s0 out) (F0 m 7 ls []) := by
  have hx := X.1.1
  have hb := X.1.2.1
  have hml := X.1.2.2.1
  have hown := X.1.2.2.2.1
  have hts := X.1.2.2.2.2
  intro n
  induction n with
  | zero =>
    intro i3 c4 c5 c6 c7 c8 H locs ls hP hD hS hl hf
    rw [f_Model_rounds_L7] at hf
    cases hf
  | succ n ih =>
    intro i3 c4 c5 c6 c7 c8 H locs ls hP hD hS hl hf
    rw [f_Model_rounds_L7] at hf
    refine lv_iload_n hx hb dX8_rounds_7 rfl (lv_at hl 2 rfl) ?_
    refine lv_iload_n hx hb dX8_rounds_8 rfl (lv_at hl 1 rfl) ?_
    refine lv_icmp_gt (tgt := 37) hx hb dX8_rounds_9 (by decide) (fun hc => ?_) (fun hc => ?_)
    · have hf := ofpos hf hc
      exact hK37 i3 c4 c5 c6 c7 c8 _ _ _ hP hD hS (lv_sub hl [] rfl) hf
    · have hf := ofneg hf hc
      refine lv_aload_n hx hb dX8_rounds_12 rfl (lv_at hl 0 rfl) ?_
      refine lv_aload_n hx hb dX8_rounds_13 rfl (lv_at hl 0 rfl) ?_
      obtain ⟨r9, hg_r9, hf⟩ := ofbind hf
      refine kcV (bs := [W_Model k b0 o0 (u_Model_changing (u_Model_highBefore (u_Model_lowBefore (u_Model_high (u_Model_low s0 c4) c5) c6) c7) c8)]) (br := []) (bc := [W_Model k b0 o0 (u_Model_changing (u_Model_highBefore (u_Model_lowBefore (u_Model_high (u_Model_low s0 c4) c5) c6) c7) c8)]) (bc' := [W_Model k b0 o0 (u_Model_changing (u_Model_highBefore (u_Model_lowBefore (u_Model_high (u_Model_low s0 r9.2.1) r9.2.2.1) r9.2.2.2.1) r9.2.2.2.2) c8)]) X hP hD hS (c_Model_round l D k t b0 o0 (u_Model_changing (u_Model_highBefore (u_Model_lowBefore (u_Model_high (u_Model_low s0 c4) c5) c6) c7) c8) N r9 hg_r9) mv_X8_139 hl [] [0] 8 ⟨rfl, rfl⟩ ⟨Nat.le_of_ble_eq_true rfl, Nat.le_of_ble_eq_true rfl⟩ rfl rfl rfl rfl rfl rfl rfl (Nat.le_of_ble_eq_true rfl) dX8_rounds_14 (fun H locs hP hD hS => ?_)
      have hP : va_P D vwCl [W_Model k b0 o0 (u_Model_changing (u_Model_highBefore (u_Model_lowBefore (u_Model_high (u_Model_low s0 r9.2.1) r9.2.2.1) r9.2.2.2.1) r9.2.2.2.2) c8)].flatten H := hP
      have hD : va_D A [W_Model k b0 o0 (u_Model_changing (u_Model_highBefore (u_Model_lowBefore (u_Model_high (u_Model_low s0 r9.2.1) r9.2.2.1) r9.2.2.2.1) r9.2.2.2.2) c8)].flatten := hD
      refine lv_if_eq (tgt := 24) hx hb dX8_rounds_17 (by decide) (fun hc => ?_) (fun hc => ?_)
      · have hf := ofpos hf hc
        refine lv_aload_n hx hb dX8_rounds_24 rfl (lv_at hl 0 rfl) ?_
        refine kget (v := .int c8) X hP ff_X8_136 0 rfl rfl dX8_rounds_25 ?_
        refine kputi (v := c8) X hP hD hS fp_X8_136 0 rfl (Nat.le_of_ble_eq_true rfl) dX8_rounds_28 (fun H locs hP hD hS => ?_)
        have hP : va_P D vwCl [W_Model k b0 o0 (u_Model_changing (u_Model_highBefore (u_Model_lowBefore (u_Model_high (u_Model_low s0 r9.2.1) r9.2.2.1) r9.2.2.2.1) r9.2.2.2.2) c8)].flatten H := hP
        have hD : va_D A [W_Model k b0 o0 (u_Model_changing (u_Model_highBefore (u_Model_lowBefore (u_Model_high (u_Model_low s0 r9.2.1) r9.2.2.1) r9.2.2.2.1) r9.2.2.2.2) c8)].flatten := hD
        refine lv_iinc (v := i3 + 1) (lv' := [(2, .int (i3 + 1)), (0, .ref (b0 o0)), (1, .int i2)]) hx hb dX8_rounds_31 hl (k := 2) rfl rfl (by decide) rfl (fun ls hl => ?_)
        refine lv_goto (tgt := 7) hx hb dX8_rounds_34 (by decide) ?_
        exact ih (i3 + 1) r9.2.1 r9.2.2.1 r9.2.2.2.1 r9.2.2.2.2 c8 _ _ _ hP hD hS (lv_sub hl [1, 2, 0] rfl) hf
      · have hf := ofneg hf hc
        refine lv_iload_n hx hb dX8_rounds_20 rfl (lv_at hl 2 rfl) ?_
        refine lv_goto (tgt := 28) hx hb dX8_rounds_21 (by decide) ?_
        refine kputi (v := i3) X hP hD hS fp_X8_136 0 rfl (Nat.le_of_ble_eq_true rfl) dX8_rounds_28 (fun H locs hP hD hS => ?_)
        have hP : va_P D vwCl [W_Model k b0 o0 (u_Model_changing (u_Model_highBefore (u_Model_lowBefore (u_Model_high (u_Model_low s0 r9.2.1) r9.2.2.1) r9.2.2.2.1) r9.2.2.2.2) i3)].flatten H := hP
        have hD : va_D A [W_Model k b0 o0 (u_Model_changing (u_Model_highBefore (u_Model_lowBefore (u_Model_high (u_Model_low s0 r9.2.1) r9.2.2.1) r9.2.2.2.1) r9.2.2.2.2) i3)].flatten := hD
        refine lv_iinc (v := i3 + 1) (lv' := [(2, .int (i3 + 1)), (0, .ref (b0 o0)), (1, .int i2)]) hx hb dX8_rounds_31 hl (k := 2) rfl rfl (by decide) rfl (fun ls hl => ?_)
        refine lv_goto (tgt := 7) hx hb dX8_rounds_34 (by decide) ?_
        exact ih (i3 + 1) r9.2.1 r9.2.2.1 r9.2.2.2.1 r9.2.2.2.2 i3 _ _ _ hP hD hS (lv_sub hl [1, 2, 0] rfl) hf
set_option maxRecDepth 100000 in
set_option maxHeartbeats 200000 in
theorem c_Model_rounds (l : Launch) (D : va_G) (k : Nat → ClassId) (t : Nat → Nat) (b0 : Nat → Nat) (o0 : Nat) (s0 : ModelS) (x1 : Int32) (N : Nat) (out : FJ × FJ × FJ × FJ × Int32) (hf : f_Model_rounds N x1 s0.1.1.2.1.1 s0.1.1.2.1.2 s0.1.1.2.2 s0.1.2.1.1.1 s0.1.2.1.1.2 s0.1.2.1.2 s0.1.2.2.1 s0.1.2.2.2 s0.2.1.1.1.1 = some out) : CT l D k t yX8_rounds cX8_rounds 3 none rm_Model_rounds [.ref (b0 o0), .int x1] [W_Model k b0 o0 s0].flatten none [W_Model k b0 o0 (u_Model_changing (u_Model_highBefore (u_Model_lowBefore (u_Model_high (u_Model_low s0 out.1) out.2.1) out.2.2.1) out.2.2.2.1) out.2.2.2.2)].flatten := by
  refine kofW (by decide) (Nat.le_of_ble_eq_true rfl) ?_
  intro p e s m below meth c A ls X hP hD hS hl
  have hx := X.1.1
  have hb := X.1.2.1
  have hml := X.1.2.2.1
  have hown := X.1.2.2.2.1
  have hts := X.1.2.2.2.2
  have hl : lv_has ls 3 [(0, .ref (b0 o0)), (1, .int x1)] := hl
  rw [f_Model_rounds] at hf
  refine lv_aload_n hx hb dX8_rounds_0 rfl (lv_at hl 0 rfl) ?_
  refine lv_iconst (v := 0) hx hb dX8_rounds_1 (by decide) ?_
  refine kputi (v := 0) X hP hD hS fp_X8_136 0 rfl (Nat.le_of_ble_eq_true rfl) dX8_rounds_2 (fun H locs hP hD hS => ?_)
  have hP : va_P D vwCl [W_Model k b0 o0 (u_Model_changing s0 0)].flatten H := hP
  have hD : va_D A [W_Model k b0 o0 (u_Model_changing s0 0)].flatten := hD
  refine lv_iconst (v := 1) hx hb dX8_rounds_5 (by decide) ?_
  refine lv_istore_n (lv' := [(2, .int 1), (0, .ref (b0 o0)), (1, .int x1)]) hx hb dX8_rounds_6 rfl hl (by decide) rfl (fun ls hl => ?_)
  refine w_Model_rounds_L7 X b0 o0 s0 N x1 out _ ?_ N 1 s0.1.1.2.1.2 s0.1.1.2.2 s0.1.2.1.1.1 s0.1.2.1.1.2 0 _ _ _ hP hD hS (lv_sub hl [1, 2, 0] rfl) hf
  · intro i10 c11 c12 c13 c14 c15 H locs ls hP hD hS hl hf
    have hf := Option.some.inj hf
    subst hf
    exact kvret X hP hD hS dX8_rounds_37
/-! Model_findsOverflows: private void findsOverflows(int); -/
abbrev rm_Model_findsOverflows : Room := ({ frames := 3, cells := 0, slots := 0, locals := 76 } : Room)
def f_Model_findsOverflows_L7 (N : Nat) (i4 : Int32) (v_row : FI) (K56 : Int32 → FI → Int32 → Option (FI × FJ × FJ × FJ × FJ × FJ × FJ × Int32 × Int32 × FJ × FJ)) : Nat → Int32 → FI → Int32 → Option (FI × FJ × FJ × FJ × FJ × FJ × FJ × Int32 × Int32 × FJ × FJ)
  | 0, _, _, _ => none
  | n + 1, i5, c6, c13 => if ck 0 1002 = true then if (v_row (0 : Int32).toNatClampNeg) ≤ i5 then K56 i5 c6 c13 else (f_Model_marked i4 i5 v_row).bind (fun r17 => if r17 = 0 then f_Model_findsOverflows_L7 N i4 v_row K56 n (i5 + 1) c6 c13 else (f_Model_placesUp N i5 v_row).bind (fun r18 => if ck c13 24 = true then f_Model_findsOverflows_L7 N i4 v_row K56 n (i5 + 1) (upd c6 c13.toNatClampNeg r18) (c13 + 1) else none)) else none
def f_Model_findsOverflows_L58 (i25 : Int32) (v_row : FI) (v_number : FJ) (K98 : Int32 → FJ → FJ → Option (FI × FJ × FJ × FJ × FJ × FJ × FJ × Int32 × Int32 × FJ × FJ)) : Nat → Int32 → FJ → FJ → Option (FI × FJ × FJ × FJ × FJ × FJ × FJ × Int32 × Int32 × FJ × FJ)
  | 0, _, _, _ => none
  | n + 1, i26, c32, c33 => if ck 3 1002 = true then if (v_row (3 : Int32).toNatClampNeg) ≤ i26 then K98 i26 c32 c33 else (f_Model_aboveAt i25 i26 v_number).bind (fun r38 => if ck i26 24 = true then (f_Model_aboveAt i25 i26 v_number).bind (fun r39 => if ck i26 24 = true then f_Model_findsOverflows_L58 i25 v_row v_number K98 n (i26 + 1) (vp_updL c32 i26.toNatClampNeg r38) (vp_updL c33 i26.toNatClampNeg r39) else none) else none) else none
def f_Model_findsOverflows_J176 (j80 : Int32) (j81 : Int32) (j82 : Int32) (t83 : Int32) (t84 : Int64) (c94 : FJ) (c95 : FJ) (B117 : Int32 → Int32 → FJ → FJ → Option (FI × FJ × FJ × FJ × FJ × FJ × FJ × Int32 × Int32 × FJ × FJ)) : Option (FI × FJ × FJ × FJ × FJ × FJ × FJ × Int32 × Int32 × FJ × FJ) := if ck t83 24 = true then if j82 = 0 then B117 (j80 + 0) (j81 + 1) c94 (vp_updL c95 t83.toNatClampNeg t84) else B117 (j80 + 1) (j81 + 1) c94 (vp_updL c95 t83.toNatClampNeg t84) else none
def f_Model_findsOverflows_J155 (j63 : Int32) (j64 : Int32) (j65 : Int32) (t66 : Int32) (t67 : Int64) (c70 : FJ) (c77 : FJ) (c78 : FJ) (B117 : Int32 → Int32 → FJ → FJ → Option (FI × FJ × FJ × FJ × FJ × FJ × FJ × Int32 × Int32 × FJ × FJ)) : Option (FI × FJ × FJ × FJ × FJ × FJ × FJ × Int32 × Int32 × FJ × FJ) := if ck t66 24 = true then if j65 = 0 then f_Model_findsOverflows_J176 j63 j64 j65 j64 0 (vp_updL c77 t66.toNatClampNeg t67) c78 B117 else if ck j63 24 = true then f_Model_findsOverflows_J176 j63 j64 j65 j64 (c70 j63.toNatClampNeg) (vp_updL c77 t66.toNatClampNeg t67) c78 B117 else none else none
def f_Model_findsOverflows_L117 (i47 : Int32) (c51 : FJ) (c52 : FJ) (v_row : FI) (K196 : Int32 → Int32 → FJ → FJ → Option (FI × FJ × FJ × FJ × FJ × FJ × FJ × Int32 × Int32 × FJ × FJ)) : Nat → Int32 → Int32 → FJ → FJ → Option (FI × FJ × FJ × FJ × FJ × FJ × FJ × Int32 × Int32 × FJ × FJ)
  | 0, _, _, _, _ => none
  | n + 1, i48, i49, c59, c60 => if ck 0 1002 = true then if (v_row (0 : Int32).toNatClampNeg) ≤ i49 then K196 i48 i49 c59 c60 else (f_Model_marked i47 i49 v_row).bind (fun r61 => if r61 = 0 then f_Model_findsOverflows_J155 i48 i49 r61 i49 0 c52 c59 c60 (f_Model_findsOverflows_L117 i47 c51 c52 v_row K196 n) else if ck i48 24 = true then f_Model_findsOverflows_J155 i48 i49 r61 i49 (c51 i48.toNatClampNeg) c52 c59 c60 (f_Model_findsOverflows_L117 i47 c51 c52 v_row K196 n) else none) else none
def f_Model_findsOverflows (N : Nat) (x1 : Int32) (v_row : FI) (v_number : FJ) (v_place : FI) (v_low : FJ) (v_high : FJ) (v_lowBefore : FJ) (v_highBefore : FJ) (v_least : FJ) (v_greatest : FJ) (v_things : Int32) (v_changing : Int32) (v_overLow : FJ) (v_overHigh : FJ) : Option (FI × FJ × FJ × FJ × FJ × FJ × FJ × Int32 × Int32 × FJ × FJ) := f_Model_findsOverflows_L7 N x1 v_row (fun i20 c21 c22 => f_Model_findsOverflows_L58 x1 v_row v_number (fun i40 c41 c42 => (f_Model_begins N 1 c21 v_low v_high c42 c22).bind (fun r43 => if ck 5 1002 = true then (f_Model_rounds N (v_row (5 : Int32).toNatClampNeg) c21 r43.1 r43.2 v_lowBefore v_highBefore c41 c42 c22 v_changing).bind (fun r44 => f_Model_findsOverflows_L117 x1 r44.1 r44.2.1 v_row (fun i96 i97 c98 c99 => some (c21, r44.1, r44.2.1, r44.2.2.1, r44.2.2.2.1, c41, c42, c22, r44.2.2.2.2, c98, c99)) N 0 0 v_overLow v_overHigh) else none)) N 0 v_least v_greatest) N 0 v_place 0
abbrev Q_Model_findsOverflows (below : List Frame) (D : va_G) (k : Nat → ClassId) (A : Nat → Prop) (args : Array Value) (s : State) (b0 : Nat → Nat) (o0 : Nat) (s0 : ModelS) (out : FI × FJ × FJ × FJ × FJ × FJ × FJ × Int32 × Int32 × FJ × FJ) : State → Prop := MQ below (QW D k A none [W_Model k b0 o0 (u_Model_overHigh (u_Model_overLow (u_Model_changing (u_Model_things (u_Model_greatest (u_Model_least (u_Model_highBefore (u_Model_lowBefore (u_Model_high (u_Model_low (u_Model_place s0 out.1) out.2.1) out.2.2.1) out.2.2.2.1) out.2.2.2.2.1) out.2.2.2.2.2.1) out.2.2.2.2.2.2.1) out.2.2.2.2.2.2.2.1) out.2.2.2.2.2.2.2.2.1) out.2.2.2.2.2.2.2.2.2.1) out.2.2.2.2.2.2.2.2.2.2)].flatten) args s 0 0 A
set_option maxRecDepth 100000 in
set_option maxHeartbeats 200000 in
theorem w_Model_findsOverflows_L7 {p : Program} {l : Launch} {e : Env} {s : State} {m : MethodId} {below : List Frame} {meth : Method} {c : Code} {args : Array Value} {A : Nat → Prop} {D : va_G} {k : Nat → ClassId} {t : Nat → Nat} (X : BX l D k t p s m args meth c cX8_findsOverflows 5 RX8 none A) (b0 : Nat → Nat) (o0 : Nat) (s0 : ModelS) (N : Nat) (i4 : Int32) (c7 : FJ) (c8 : FJ) (c9 : FJ) (c10 : FJ) (c11 : FJ) (c12 : FJ) (c14 : Int32) (c15 : FJ) (c16 : FJ) (out : FI × FJ × FJ × FJ × FJ × FJ × FJ × Int32 × Int32 × FJ × FJ) (K56 : Int32 → FI → Int32 → Option (FI × FJ × FJ × FJ × FJ × FJ × FJ × Int32 × Int32 × FJ × FJ)) (hK56 : ∀ (i5' : Int32) (c6' : FI) (c13' : Int32) (H : Heap) (locs : List Loc) (ls : Array Slot), va_P D vwCl [W_Model k b0 o0 (u_Model_overHigh (u_Model_overLow (u_Model_changing (u_Model_things (u_Model_greatest (u_Model_least (u_Model_highBefore (u_Model_lowBefore (u_Model_high (u_Model_low (u_Model_place s0 c6') c7) c8) c9) c10) c11) c12) c13') c14) c15) c16)].flatten H → va_D A [W_Model k b0 o0 (u_Model_overHigh (u_Model_overLow (u_Model_changing (u_Model_things (u_Model_greatest (u_Model_least (u_Model_highBefore (u_Model_lowBefore (u_Model_high (u_Model_low (u_Model_place s0 c6') c7) c8) c9) c10) c11) c12) c13') c14) c15) c16)].flatten → va_S A s.heap H locs → lv_has ls 5 [(0, .ref (b0 o0)), (1, .int i4)] → K56 i5' c6' c13' = some out → W p l e rm_Model_findsOverflows s m args below meth c H locs 0 0 (Q_Model_findsOverflows below D k A args s b0 o0 s0 out) (F0 m 56 ls [])) : ∀ (n : Nat) (i5 : Int32) (c6 : FI) (c13 : Int32) (H : Heap) (locs : List Loc) (ls : Array Slot), va_P D vwCl [W_Model k b0 o0 (u_Model_overHigh (u_Model_overLow (u_Model_changing (u_Model_things (u_Model_greatest (u_Model_least (u_Model_highBefore (u_Model_lowBefore (u_Model_high (u_Model_low (u_Model_place s0 c6) c7) c8) c9) c10) c11) c12) c13) c14) c15) c16)].flatten H → va_D A [W_Model k b0 o0 (u_Model_overHigh (u_Model_overLow (u_Model_changing (u_Model_things (u_Model_greatest (u_Model_least (u_Model_highBefore (u_Model_lowBefore (u_Model_high (u_Model_low (u_Model_place s0 c6) c7) c8) c9) c10) c11) c12) c13) c14) c15) c16)].flatten → va_S A s.heap H locs → lv_has ls 5 [(0, .ref (b0 o0)), (1, .int i4), (2, .int i5)] → f_Model_findsOverflows_L7 N i4 s0.1.1.1.1.1 K56 n i5 c6 c13 = some out → W p l e rm_Model_findsOverflows s m args below meth c H locs 0 0 (Q_Model_findsOverflows below D k A args s b0 o0 s0 out) (F0 m 7 ls []) := by
  have hx := X.1.1
  have hb := X.1.2.1
  have hml := X.1.2.2.1
  have hown := X.1.2.2.2.1
  have hts := X.1.2.2.2.2
  intro n
  induction n with
  | zero =>
    intro i5 c6 c13 H locs ls hP hD hS hl hf
    rw [f_Model_findsOverflows_L7] at hf
    cases hf
  | succ n ih =>
    intro i5 c6 c13 H locs ls hP hD hS hl hf
    rw [f_Model_findsOverflows_L7] at hf
    refine lv_iload_n hx hb dX8_findsOverflows_7 rfl (lv_at hl 2 rfl) ?_
    refine lv_aload_n hx hb dX8_findsOverflows_8 rfl (lv_at hl 0 rfl) ?_
    refine kget (v := .ref (b0 (o0+1))) X hP ff_X8_7 0 rfl rfl dX8_findsOverflows_9 ?_
    refine lv_iconst (v := 0) hx hb dX8_findsOverflows_12 (by decide) ?_
    obtain ⟨hc, hf⟩ := ofck hf
    refine kiald (f := s0.1.1.1.1.1) (n := 1002) X hP 1 rfl hc dX8_findsOverflows_13 ?_
    refine lv_icmp_ge (tgt := 56) hx hb dX8_findsOverflows_14 (by decide) (fun hc => ?_) (fun hc => ?_)
    · have hf := ofpos hf hc
      exact hK56 i5 c6 c13 _ _ _ hP hD hS (lv_sub hl [0, 1] rfl) hf
    · have hf := ofneg hf hc
      refine lv_aload_n hx hb dX8_findsOverflows_17 rfl (lv_at hl 0 rfl) ?_
      refine lv_iload_n hx hb dX8_findsOverflows_18 rfl (lv_at hl 1 rfl) ?_
      refine lv_iload_n hx hb dX8_findsOverflows_19 rfl (lv_at hl 2 rfl) ?_
      obtain ⟨r17, hg_r17, hf⟩ := ofbind hf
      refine kcV (bs := [W_Model k b0 o0 (u_Model_overHigh (u_Model_overLow (u_Model_changing (u_Model_things (u_Model_greatest (u_Model_least (u_Model_highBefore (u_Model_lowBefore (u_Model_high (u_Model_low (u_Model_place s0 c6) c7) c8) c9) c10) c11) c12) c13) c14) c15) c16)]) (br := []) (bc := [W_Model k b0 o0 (u_Model_overHigh (u_Model_overLow (u_Model_changing (u_Model_things (u_Model_greatest (u_Model_least (u_Model_highBefore (u_Model_lowBefore (u_Model_high (u_Model_low (u_Model_place s0 c6) c7) c8) c9) c10) c11) c12) c13) c14) c15) c16)]) (bc' := [W_Model k b0 o0 (u_Model_overHigh (u_Model_overLow (u_Model_changing (u_Model_things (u_Model_greatest (u_Model_least (u_Model_highBefore (u_Model_lowBefore (u_Model_high (u_Model_low (u_Model_place s0 c6) c7) c8) c9) c10) c11) c12) c13) c14) c15) c16)]) X hP hD hS (c_Model_marked l D k t b0 o0 (u_Model_overHigh (u_Model_overLow (u_Model_changing (u_Model_things (u_Model_greatest (u_Model_least (u_Model_highBefore (u_Model_lowBefore (u_Model_high (u_Model_low (u_Model_place s0 c6) c7) c8) c9) c10) c11) c12) c13) c14) c15) c16) i4 i5 r17 hg_r17) mv_X8_120 hl [] [0] 8 ⟨rfl, rfl⟩ ⟨Nat.le_of_ble_eq_true rfl, Nat.le_of_ble_eq_true rfl⟩ rfl rfl rfl rfl rfl rfl rfl (Nat.le_of_ble_eq_true rfl) dX8_findsOverflows_20 (fun H locs hP hD hS => ?_)
      have hP : va_P D vwCl [W_Model k b0 o0 (u_Model_overHigh (u_Model_overLow (u_Model_changing (u_Model_things (u_Model_greatest (u_Model_least (u_Model_highBefore (u_Model_lowBefore (u_Model_high (u_Model_low (u_Model_place s0 c6) c7) c8) c9) c10) c11) c12) c13) c14) c15) c16)].flatten H := hP
      have hD : va_D A [W_Model k b0 o0 (u_Model_overHigh (u_Model_overLow (u_Model_changing (u_Model_things (u_Model_greatest (u_Model_least (u_Model_highBefore (u_Model_lowBefore (u_Model_high (u_Model_low (u_Model_place s0 c6) c7) c8) c9) c10) c11) c12) c13) c14) c15) c16)].flatten := hD
      refine lv_if_eq (tgt := 50) hx hb dX8_findsOverflows_23 (by decide) (fun hc => ?_) (fun hc => ?_)
      · have hf := ofpos hf hc
        refine lv_iinc (v := i5 + 1) (lv' := [(2, .int (i5 + 1)), (0, .ref (b0 o0)), (1, .int i4)]) hx hb dX8_findsOverflows_50 hl (k := 2) rfl rfl (by decide) rfl (fun ls hl => ?_)
        refine lv_goto (tgt := 7) hx hb dX8_findsOverflows_53 (by decide) ?_
        exact ih (i5 + 1) c6 c13 _ _ _ hP hD hS (lv_sub hl [1, 2, 0] rfl) hf
      · have hf := ofneg hf hc
        refine lv_aload_n hx hb dX8_findsOverflows_26 rfl (lv_at hl 0 rfl) ?_
        refine kget (v := .ref (b0 (o0+3))) X hP ff_X8_17 0 rfl rfl dX8_findsOverflows_27 ?_
        refine lv_aload_n hx hb dX8_findsOverflows_30 rfl (lv_at hl 0 rfl) ?_
        refine kget (v := .int c13) X hP ff_X8_127 0 rfl rfl dX8_findsOverflows_31 ?_
        refine lv_aload_n hx hb dX8_findsOverflows_34 rfl (lv_at hl 0 rfl) ?_
        refine lv_iload_n hx hb dX8_findsOverflows_35 rfl (lv_at hl 2 rfl) ?_
        obtain ⟨r18, hg_r18, hf⟩ := ofbind hf
        refine kcV (bs := [W_Model k b0 o0 (u_Model_overHigh (u_Model_overLow (u_Model_changing (u_Model_things (u_Model_greatest (u_Model_least (u_Model_highBefore (u_Model_lowBefore (u_Model_high (u_Model_low (u_Model_place s0 c6) c7) c8) c9) c10) c11) c12) c13) c14) c15) c16)]) (br := []) (bc := [W_Model k b0 o0 (u_Model_overHigh (u_Model_overLow (u_Model_changing (u_Model_things (u_Model_greatest (u_Model_least (u_Model_highBefore (u_Model_lowBefore (u_Model_high (u_Model_low (u_Model_place s0 c6) c7) c8) c9) c10) c11) c12) c13) c14) c15) c16)]) (bc' := [W_Model k b0 o0 (u_Model_overHigh (u_Model_overLow (u_Model_changing (u_Model_things (u_Model_greatest (u_Model_least (u_Model_highBefore (u_Model_lowBefore (u_Model_high (u_Model_low (u_Model_place s0 c6) c7) c8) c9) c10) c11) c12) c13) c14) c15) c16)]) X hP hD hS (c_Model_placesUp l D k t b0 o0 (u_Model_overHigh (u_Model_overLow (u_Model_changing (u_Model_things (u_Model_greatest (u_Model_least (u_Model_highBefore (u_Model_lowBefore (u_Model_high (u_Model_low (u_Model_place s0 c6) c7) c8) c9) c10) c11) c12) c13) c14) c15) c16) i5 N r18 hg_r18) mv_X8_89 hl [] [0] 8 ⟨rfl, rfl⟩ ⟨Nat.le_of_ble_eq_true rfl, Nat.le_of_ble_eq_true rfl⟩ rfl rfl rfl rfl rfl rfl rfl (Nat.le_of_ble_eq_true rfl) dX8_findsOverflows_36 (fun H locs hP hD hS => ?_)
        have hP : va_P D vwCl [W_Model k b0 o0 (u_Model_overHigh (u_Model_overLow (u_Model_changing (u_Model_things (u_Model_greatest (u_Model_least (u_Model_highBefore (u_Model_lowBefore (u_Model_high (u_Model_low (u_Model_place s0 c6) c7) c8) c9) c10) c11) c12) c13) c14) c15) c16)].flatten H := hP
        have hD : va_D A [W_Model k b0 o0 (u_Model_overHigh (u_Model_overLow (u_Model_changing (u_Model_things (u_Model_greatest (u_Model_least (u_Model_highBefore (u_Model_lowBefore (u_Model_high (u_Model_low (u_Model_place s0 c6) c7) c8) c9) c10) c11) c12) c13) c14) c15) c16)].flatten := hD
        obtain ⟨hc, hf⟩ := ofck hf
        refine kiast (f := c6) (n := 24) X hP hD hS 3 rfl hc dX8_findsOverflows_39 (fun H locs hP hD hS => ?_)
        have hP : va_P D vwCl [W_Model k b0 o0 (u_Model_overHigh (u_Model_overLow (u_Model_changing (u_Model_things (u_Model_greatest (u_Model_least (u_Model_highBefore (u_Model_lowBefore (u_Model_high (u_Model_low (u_Model_place s0 (upd c6 c13.toNatClampNeg r18)) c7) c8) c9) c10) c11) c12) c13) c14) c15) c16)].flatten H := hP
        have hD : va_D A [W_Model k b0 o0 (u_Model_overHigh (u_Model_overLow (u_Model_changing (u_Model_things (u_Model_greatest (u_Model_least (u_Model_highBefore (u_Model_lowBefore (u_Model_high (u_Model_low (u_Model_place s0 (upd c6 c13.toNatClampNeg r18)) c7) c8) c9) c10) c11) c12) c13) c14) c15) c16)].flatten := hD
        refine lv_aload_n hx hb dX8_findsOverflows_40 rfl (lv_at hl 0 rfl) ?_
        refine lv_dup hx hb dX8_findsOverflows_41 rfl ?_
        refine kget (v := .int c13) X hP ff_X8_127 0 rfl rfl dX8_findsOverflows_42 ?_
        refine lv_iconst (v := 1) hx hb dX8_findsOverflows_45 (by decide) ?_
        refine lv_iadd hx hb dX8_findsOverflows_46 ?_
        generalize hy19 : c13 + 1 = y19 at hf ⊢
        refine kputi (v := y19) X hP hD hS fp_X8_127 0 rfl (Nat.le_of_ble_eq_true rfl) dX8_findsOverflows_47 (fun H locs hP hD hS => ?_)
        have hP : va_P D vwCl [W_Model k b0 o0 (u_Model_overHigh (u_Model_overLow (u_Model_changing (u_Model_things (u_Model_greatest (u_Model_least (u_Model_highBefore (u_Model_lowBefore (u_Model_high (u_Model_low (u_Model_place s0 (upd c6 c13.toNatClampNeg r18)) c7) c8) c9) c10) c11) c12) y19) c14) c15) c16)].flatten H := hP
        have hD : va_D A [W_Model k b0 o0 (u_Model_overHigh (u_Model_overLow (u_Model_changing (u_Model_things (u_Model_greatest (u_Model_least (u_Model_highBefore (u_Model_lowBefore (u_Model_high (u_Model_low (u_Model_place s0 (upd c6 c13.toNatClampNeg r18)) c7) c8) c9) c10) c11) c12) y19) c14) c15) c16)].flatten := hD
        refine lv_iinc (v := i5 + 1) (lv' := [(2, .int (i5 + 1)), (0, .ref (b0 o0)), (1, .int i4)]) hx hb dX8_findsOverflows_50 hl (k := 2) rfl rfl (by decide) rfl (fun ls hl => ?_)
        refine lv_goto (tgt := 7) hx hb dX8_findsOverflows_53 (by decide) ?_
        exact ih (i5 + 1) (upd c6 c13.toNatClampNeg r18) y19 _ _ _ hP hD hS (lv_sub hl [1, 2, 0] rfl) hf
set_option maxRecDepth 100000 in
set_option maxHeartbeats 200000 in
theorem w_Model_findsOverflows_L58 {p : Program} {l : Launch} {e : Env} {s : State} {m : MethodId} {below : List Frame} {meth : Method} {c : Code} {args : Array Value} {A : Nat → Prop} {D : va_G} {k : Nat → ClassId} {t : Nat → Nat} (X : BX l D k t p s m args meth c cX8_findsOverflows 5 RX8 none A) (b0 : Nat → Nat) (o0 : Nat) (s0 : ModelS) (N : Nat) (i25 : Int32) (c27 : FI) (c28 : FJ) (c29 : FJ) (c30 : FJ) (c31 : FJ) (c34 : Int32) (c35 : Int32) (c36 : FJ) (c37 : FJ) (out : FI × FJ × FJ × FJ × FJ × FJ × FJ × Int32 × Int32 × FJ × FJ) (K98 : Int32 → FJ → FJ → Option (FI × FJ × FJ × FJ × FJ × FJ × FJ × Int32 × Int32 × FJ × FJ)) (hK98 : ∀ (i26' : Int32) (c32' : FJ) (c33' : FJ) (H : Heap) (locs : List Loc) (ls : Array Slot), va_P D vwCl [W_Model k b0 o0 (u_Model_overHigh (u_Model_overLow (u_Model_changing (u_Model_things (u_Model_greatest (u_Model_least (u_Model_highBefore (u_Model_lowBefore (u_Model_high (u_Model_low (u_Model_place s0 c27) c28) c29) c30) c31) c32') c33') c34) c35) c36) c37)].flatten H → va_D A [W_Model k b0 o0 (u_Model_overHigh (u_Model_overLow (u_Model_changing (u_Model_things (u_Model_greatest (u_Model_least (u_Model_highBefore (u_Model_lowBefore (u_Model_high (u_Model_low (u_Model_place s0 c27) c28) c29) c30) c31) c32') c33') c34) c35) c36) c37)].flatten → va_S A s.heap H locs → lv_has ls 5 [(0, .ref (b0 o0)), (1, .int i25)] → K98 i26' c32' c33' = some out → W p l e rm_Model_findsOverflows s m args below meth c H locs 0 0 (Q_Model_findsOverflows below D k A args s b0 o0 s0 out) (F0 m 98 ls [])) : ∀ (n : Nat) (i26 : Int32) (c32 : FJ) (c33 : FJ) (H : Heap) (locs : List Loc) (ls : Array Slot), va_P D vwCl [W_Model k b0 o0 (u_Model_overHigh (u_Model_overLow (u_Model_changing (u_Model_things (u_Model_greatest (u_Model_least (u_Model_highBefore (u_Model_lowBefore (u_Model_high (u_Model_low (u_Model_place s0 c27) c28) c29) c30) c31) c32) c33) c34) c35) c36) c37)].flatten H → va_D A [W_Model k b0 o0 (u_Model_overHigh (u_Model_overLow (u_Model_changing (u_Model_things (u_Model_greatest (u_Model_least (u_Model_highBefore (u_Model_lowBefore (u_Model_high (u_Model_low (u_Model_place s0 c27) c28) c29) c30) c31) c32) c33) c34) c35) c36) c37)].flatten → va_S A s.heap H locs → lv_has ls 5 [(0, .ref (b0 o0)), (1, .int i25), (2, .int i26)] → f_Model_findsOverflows_L58 i25 s0.1.1.1.1.1 s0.1.1.1.1.2 K98 n i26 c32 c33 = some out → W p l e rm_Model_findsOverflows s m args below meth c H locs 0 0 (Q_Model_findsOverflows below D k A args s b0 o0 s0 out) (F0 m 58 ls []) := by
  have hx := X.1.1
  have hb := X.1.2.1
  have hml := X.1.2.2.1
  have hown := X.1.2.2.2.1
  have hts := X.1.2.2.2.2
  intro n
  induction n with
  | zero =>
    intro i26 c32 c33 H locs ls hP hD hS hl hf
    rw [f_Model_findsOverflows_L58] at hf
    cases hf
  | succ n ih =>
    intro i26 c32 c33 H locs ls hP hD hS hl hf
    rw [f_Model_findsOverflows_L58] at hf
    refine lv_iload_n hx hb dX8_findsOverflows_58 rfl (lv_at hl 2 rfl) ?_
    refine lv_aload_n hx hb dX8_findsOverflows_59 rfl (lv_at hl 0 rfl) ?_
    refine kget (v := .ref (b0 (o0+1))) X hP ff_X8_7 0 rfl rfl dX8_findsOverflows_60 ?_
    refine lv_iconst (v := 3) hx hb dX8_findsOverflows_63 (by decide) ?_
    obtain ⟨hc, hf⟩ := ofck hf
    refine kiald (f := s0.1.1.1.1.1) (n := 1002) X hP 1 rfl hc dX8_findsOverflows_64 ?_
    refine lv_icmp_ge (tgt := 98) hx hb dX8_findsOverflows_65 (by decide) (fun hc => ?_) (fun hc => ?_)
    · have hf := ofpos hf hc
      exact hK98 i26 c32 c33 _ _ _ hP hD hS (lv_sub hl [0, 1] rfl) hf
    · have hf := ofneg hf hc
      refine lv_aload_n hx hb dX8_findsOverflows_68 rfl (lv_at hl 0 rfl) ?_
      refine kget (v := .ref (b0 (o0+8))) X hP ff_X8_32 0 rfl rfl dX8_findsOverflows_69 ?_
      refine lv_iload_n hx hb dX8_findsOverflows_72 rfl (lv_at hl 2 rfl) ?_
      refine lv_aload_n hx hb dX8_findsOverflows_73 rfl (lv_at hl 0 rfl) ?_
      refine lv_iload_n hx hb dX8_findsOverflows_74 rfl (lv_at hl 1 rfl) ?_
      refine lv_iload_n hx hb dX8_findsOverflows_75 rfl (lv_at hl 2 rfl) ?_
      obtain ⟨r38, hg_r38, hf⟩ := ofbind hf
      refine kcV (bs := [W_Model k b0 o0 (u_Model_overHigh (u_Model_overLow (u_Model_changing (u_Model_things (u_Model_greatest (u_Model_least (u_Model_highBefore (u_Model_lowBefore (u_Model_high (u_Model_low (u_Model_place s0 c27) c28) c29) c30) c31) c32) c33) c34) c35) c36) c37)]) (br := []) (bc := [W_Model k b0 o0 (u_Model_overHigh (u_Model_overLow (u_Model_changing (u_Model_things (u_Model_greatest (u_Model_least (u_Model_highBefore (u_Model_lowBefore (u_Model_high (u_Model_low (u_Model_place s0 c27) c28) c29) c30) c31) c32) c33) c34) c35) c36) c37)]) (bc' := [W_Model k b0 o0 (u_Model_overHigh (u_Model_overLow (u_Model_changing (u_Model_things (u_Model_greatest (u_Model_least (u_Model_highBefore (u_Model_lowBefore (u_Model_high (u_Model_low (u_Model_place s0 c27) c28) c29) c30) c31) c32) c33) c34) c35) c36) c37)]) X hP hD hS (c_Model_aboveAt l D k t b0 o0 (u_Model_overHigh (u_Model_overLow (u_Model_changing (u_Model_things (u_Model_greatest (u_Model_least (u_Model_highBefore (u_Model_lowBefore (u_Model_high (u_Model_low (u_Model_place s0 c27) c28) c29) c30) c31) c32) c33) c34) c35) c36) c37) i25 i26 r38 hg_r38) mv_X8_124 hl [] [0] 8 ⟨rfl, rfl⟩ ⟨Nat.le_of_ble_eq_true rfl, Nat.le_of_ble_eq_true rfl⟩ rfl rfl rfl rfl rfl rfl rfl (Nat.le_of_ble_eq_true rfl) dX8_findsOverflows_76 (fun H locs hP hD hS => ?_)
      have hP : va_P D vwCl [W_Model k b0 o0 (u_Model_overHigh (u_Model_overLow (u_Model_changing (u_Model_things (u_Model_greatest (u_Model_least (u_Model_highBefore (u_Model_lowBefore (u_Model_high (u_Model_low (u_Model_place s0 c27) c28) c29) c30) c31) c32) c33) c34) c35) c36) c37)].flatten H := hP
      have hD : va_D A [W_Model k b0 o0 (u_Model_overHigh (u_Model_overLow (u_Model_changing (u_Model_things (u_Model_greatest (u_Model_least (u_Model_highBefore (u_Model_lowBefore (u_Model_high (u_Model_low (u_Model_place s0 c27) c28) c29) c30) c31) c32) c33) c34) c35) c36) c37)].flatten := hD
      obtain ⟨hc, hf⟩ := ofck hf
      refine klast (f := c32) (n := 24) X hP hD hS 8 rfl hc dX8_findsOverflows_79 (fun H locs hP hD hS => ?_)
      have hP : va_P D vwCl [W_Model k b0 o0 (u_Model_overHigh (u_Model_overLow (u_Model_changing (u_Model_things (u_Model_greatest (u_Model_least (u_Model_highBefore (u_Model_lowBefore (u_Model_high (u_Model_low (u_Model_place s0 c27) c28) c29) c30) c31) (vp_updL c32 i26.toNatClampNeg r38)) c33) c34) c35) c36) c37)].flatten H := hP
      have hD : va_D A [W_Model k b0 o0 (u_Model_overHigh (u_Model_overLow (u_Model_changing (u_Model_things (u_Model_greatest (u_Model_least (u_Model_highBefore (u_Model_lowBefore (u_Model_high (u_Model_low (u_Model_place s0 c27) c28) c29) c30) c31) (vp_updL c32 i26.toNatClampNeg r38)) c33) c34) c35) c36) c37)].flatten := hD
      refine lv_aload_n hx hb dX8_findsOverflows_80 rfl (lv_at hl 0 rfl) ?_
      refine kget (v := .ref (b0 (o0+9))) X hP ff_X8_35 0 rfl rfl dX8_findsOverflows_81 ?_
      refine lv_iload_n hx hb dX8_findsOverflows_84 rfl (lv_at hl 2 rfl) ?_
      refine lv_aload_n hx hb dX8_findsOverflows_85 rfl (lv_at hl 0 rfl) ?_
      refine lv_iload_n hx hb dX8_findsOverflows_86 rfl (lv_at hl 1 rfl) ?_
      refine lv_iload_n hx hb dX8_findsOverflows_87 rfl (lv_at hl 2 rfl) ?_
      obtain ⟨r39, hg_r39, hf⟩ := ofbind hf
      refine kcV (bs := [W_Model k b0 o0 (u_Model_overHigh (u_Model_overLow (u_Model_changing (u_Model_things (u_Model_greatest (u_Model_least (u_Model_highBefore (u_Model_lowBefore (u_Model_high (u_Model_low (u_Model_place s0 c27) c28) c29) c30) c31) (vp_updL c32 i26.toNatClampNeg r38)) c33) c34) c35) c36) c37)]) (br := []) (bc := [W_Model k b0 o0 (u_Model_overHigh (u_Model_overLow (u_Model_changing (u_Model_things (u_Model_greatest (u_Model_least (u_Model_highBefore (u_Model_lowBefore (u_Model_high (u_Model_low (u_Model_place s0 c27) c28) c29) c30) c31) (vp_updL c32 i26.toNatClampNeg r38)) c33) c34) c35) c36) c37)]) (bc' := [W_Model k b0 o0 (u_Model_overHigh (u_Model_overLow (u_Model_changing (u_Model_things (u_Model_greatest (u_Model_least (u_Model_highBefore (u_Model_lowBefore (u_Model_high (u_Model_low (u_Model_place s0 c27) c28) c29) c30) c31) (vp_updL c32 i26.toNatClampNeg r38)) c33) c34) c35) c36) c37)]) X hP hD hS (c_Model_aboveAt l D k t b0 o0 (u_Model_overHigh (u_Model_overLow (u_Model_changing (u_Model_things (u_Model_greatest (u_Model_least (u_Model_highBefore (u_Model_lowBefore (u_Model_high (u_Model_low (u_Model_place s0 c27) c28) c29) c30) c31) (vp_updL c32 i26.toNatClampNeg r38)) c33) c34) c35) c36) c37) i25 i26 r39 hg_r39) mv_X8_124 hl [] [0] 8 ⟨rfl, rfl⟩ ⟨Nat.le_of_ble_eq_true rfl, Nat.le_of_ble_eq_true rfl⟩ rfl rfl rfl rfl rfl rfl rfl (Nat.le_of_ble_eq_true rfl) dX8_findsOverflows_88 (fun H locs hP hD hS => ?_)
      have hP : va_P D vwCl [W_Model k b0 o0 (u_Model_overHigh (u_Model_overLow (u_Model_changing (u_Model_things (u_Model_greatest (u_Model_least (u_Model_highBefore (u_Model_lowBefore (u_Model_high (u_Model_low (u_Model_place s0 c27) c28) c29) c30) c31) (vp_updL c32 i26.toNatClampNeg r38)) c33) c34) c35) c36) c37)].flatten H := hP
      have hD : va_D A [W_Model k b0 o0 (u_Model_overHigh (u_Model_overLow (u_Model_changing (u_Model_things (u_Model_greatest (u_Model_least (u_Model_highBefore (u_Model_lowBefore (u_Model_high (u_Model_low (u_Model_place s0 c27) c28) c29) c30) c31) (vp_updL c32 i26.toNatClampNeg r38)) c33) c34) c35) c36) c37)].flatten := hD
      obtain ⟨hc, hf⟩ := ofck hf
      refine klast (f := c33) (n := 24) X hP hD hS 9 rfl hc dX8_findsOverflows_91 (fun H locs hP hD hS => ?_)
      have hP : va_P D vwCl [W_Model k b0 o0 (u_Model_overHigh (u_Model_overLow (u_Model_changing (u_Model_things (u_Model_greatest (u_Model_least (u_Model_highBefore (u_Model_lowBefore (u_Model_high (u_Model_low (u_Model_place s0 c27) c28) c29) c30) c31) (vp_updL c32 i26.toNatClampNeg r38)) (vp_updL c33 i26.toNatClampNeg r39)) c34) c35) c36) c37)].flatten H := hP
      have hD : va_D A [W_Model k b0 o0 (u_Model_overHigh (u_Model_overLow (u_Model_changing (u_Model_things (u_Model_greatest (u_Model_least (u_Model_highBefore (u_Model_lowBefore (u_Model_high (u_Model_low (u_Model_place s0 c27) c28) c29) c30) c31) (vp_updL c32 i26.toNatClampNeg r38)) (vp_updL c33 i26.toNatClampNeg r39)) c34) c35) c36) c37)].flatten := hD
      refine lv_iinc (v := i26 + 1) (lv' := [(2, .int (i26 + 1)), (0, .ref (b0 o0)), (1, .int i25)]) hx hb dX8_findsOverflows_92 hl (k := 2) rfl rfl (by decide) rfl (fun ls hl => ?_)
      refine lv_goto (tgt := 58) hx hb dX8_findsOverflows_95 (by decide) ?_
      exact ih (i26 + 1) (vp_updL c32 i26.toNatClampNeg r38) (vp_updL c33 i26.toNatClampNeg r39) _ _ _ hP hD hS (lv_sub hl [1, 2, 0] rfl) hf
set_option maxRecDepth 100000 in
set_option maxHeartbeats 200000 in
theorem w_Model_findsOverflows_J176 {p : Program} {l : Launch} {e : Env} {s : State} {m : MethodId} {below : List Frame} {meth : Method} {c : Code} {args : Array Value} {A : Nat → Prop} {D : va_G} {k : Nat → ClassId} {t : Nat → Nat} (X : BX l D k t p s m args meth c cX8_findsOverflows 5 RX8 none A) (b0 : Nat → Nat) (o0 : Nat) (s0 : ModelS) (N : Nat) (j79 : Int32) (j80 : Int32) (j81 : Int32) (j82 : Int32) (t83 : Int32) (t84 : Int64) (c85 : FI) (c86 : FJ) (c87 : FJ) (c88 : FJ) (c89 : FJ) (c90 : FJ) (c91 : FJ) (c92 : Int32) (c93 : Int32) (c94 : FJ) (c95 : FJ) (out : FI × FJ × FJ × FJ × FJ × FJ × FJ × Int32 × Int32 × FJ × FJ) (B117 : Int32 → Int32 → FJ → FJ → Option (FI × FJ × FJ × FJ × FJ × FJ × FJ × Int32 × Int32 × FJ × FJ)) (hB117 : ∀ (i48' : Int32) (i49' : Int32) (c59' : FJ) (c60' : FJ) (H : Heap) (locs : List Loc) (ls : Array Slot), va_P D vwCl [W_Model k b0 o0 (u_Model_overHigh (u_Model_overLow (u_Model_changing (u_Model_things (u_Model_greatest (u_Model_least (u_Model_highBefore (u_Model_lowBefore (u_Model_high (u_Model_low (u_Model_place s0 c85) c86) c87) c88) c89) c90) c91) c92) c93) c59') c60')].flatten H → va_D A [W_Model k b0 o0 (u_Model_overHigh (u_Model_overLow (u_Model_changing (u_Model_things (u_Model_greatest (u_Model_least (u_Model_highBefore (u_Model_lowBefore (u_Model_high (u_Model_low (u_Model_place s0 c85) c86) c87) c88) c89) c90) c91) c92) c93) c59') c60')].flatten → va_S A s.heap H locs → lv_has ls 5 [(0, .ref (b0 o0)), (1, .int j79), (2, .int i48'), (3, .int i49')] → B117 i48' i49' c59' c60' = some out → W p l e rm_Model_findsOverflows s m args below meth c H locs 0 0 (Q_Model_findsOverflows below D k A args s b0 o0 s0 out) (F0 m 117 ls [])) : ∀ (H : Heap) (locs : List Loc) (ls : Array Slot), va_P D vwCl [W_Model k b0 o0 (u_Model_overHigh (u_Model_overLow (u_Model_changing (u_Model_things (u_Model_greatest (u_Model_least (u_Model_highBefore (u_Model_lowBefore (u_Model_high (u_Model_low (u_Model_place s0 c85) c86) c87) c88) c89) c90) c91) c92) c93) c94) c95)].flatten H → va_D A [W_Model k b0 o0 (u_Model_overHigh (u_Model_overLow (u_Model_changing (u_Model_things (u_Model_greatest (u_Model_least (u_Model_highBefore (u_Model_lowBefore (u_Model_high (u_Model_low (u_Model_place s0 c85) c86) c87) c88) c89) c90) c91) c92) c93) c94) c95)].flatten → va_S A s.heap H locs → lv_has ls 5 [(0, .ref (b0 o0)), (1, .int j79), (2, .int j80), (3, .int j81), (4, .int j82)] → f_Model_findsOverflows_J176 j80 j81 j82 t83 t84 c94 c95 B117 = some out → W p l e rm_Model_findsOverflows s m args below meth c H locs 0 0 (Q_Model_findsOverflows below D k A args s b0 o0 s0 out) (F0 m 176 ls [.long t84, .int t83, .ref (b0 (o0+11))]) := by
  have hx := X.1.1
  have hb := X.1.2.1
  have hml := X.1.2.2.1
  have hown := X.1.2.2.2.1
  have hts := X.1.2.2.2.2
  intro H locs ls hP hD hS hl hf
  rw [f_Model_findsOverflows_J176] at hf
  obtain ⟨hc, hf⟩ := ofck hf
  refine klast (f := c95) (n := 24) X hP hD hS 11 rfl hc dX8_findsOverflows_176 (fun H locs hP hD hS => ?_)
  have hP : va_P D vwCl [W_Model k b0 o0 (u_Model_overHigh (u_Model_overLow (u_Model_changing (u_Model_things (u_Model_greatest (u_Model_least (u_Model_highBefore (u_Model_lowBefore (u_Model_high (u_Model_low (u_Model_place s0 c85) c86) c87) c88) c89) c90) c91) c92) c93) c94) (vp_updL c95 t83.toNatClampNeg t84))].flatten H := hP
  have hD : va_D A [W_Model k b0 o0 (u_Model_overHigh (u_Model_overLow (u_Model_changing (u_Model_things (u_Model_greatest (u_Model_least (u_Model_highBefore (u_Model_lowBefore (u_Model_high (u_Model_low (u_Model_place s0 c85) c86) c87) c88) c89) c90) c91) c92) c93) c94) (vp_updL c95 t83.toNatClampNeg t84))].flatten := hD
  refine lv_iload_n hx hb dX8_findsOverflows_177 rfl (lv_at hl 2 rfl) ?_
  refine lv_iload hx hb dX8_findsOverflows_178 (lv_at hl 4 rfl) ?_
  refine lv_if_eq (tgt := 187) hx hb dX8_findsOverflows_180 (by decide) (fun hc => ?_) (fun hc => ?_)
  · have hf := ofpos hf hc
    refine lv_iconst (v := 0) hx hb dX8_findsOverflows_187 (by decide) ?_
    refine lv_iadd hx hb dX8_findsOverflows_188 ?_
    refine lv_istore_n (lv' := [(2, .int (j80 + 0)), (0, .ref (b0 o0)), (1, .int j79), (3, .int j81), (4, .int j82)]) hx hb dX8_findsOverflows_189 rfl hl (by decide) rfl (fun ls hl => ?_)
    refine lv_iinc (v := j81 + 1) (lv' := [(3, .int (j81 + 1)), (2, .int (j80 + 0)), (0, .ref (b0 o0)), (1, .int j79), (4, .int j82)]) hx hb dX8_findsOverflows_190 hl (k := 3) rfl rfl (by decide) rfl (fun ls hl => ?_)
    refine lv_goto (tgt := 117) hx hb dX8_findsOverflows_193 (by decide) ?_
    exact hB117 (j80 + 0) (j81 + 1) c94 (vp_updL c95 t83.toNatClampNeg t84) _ _ _ hP hD hS (lv_sub hl [2, 3, 1, 0] rfl) hf
  · have hf := ofneg hf hc
    refine lv_iconst (v := 1) hx hb dX8_findsOverflows_183 (by decide) ?_
    refine lv_goto (tgt := 188) hx hb dX8_findsOverflows_184 (by decide) ?_
    refine lv_iadd hx hb dX8_findsOverflows_188 ?_
    refine lv_istore_n (lv' := [(2, .int (j80 + 1)), (0, .ref (b0 o0)), (1, .int j79), (3, .int j81), (4, .int j82)]) hx hb dX8_findsOverflows_189 rfl hl (by decide) rfl (fun ls hl => ?_)
    refine lv_iinc (v := j81 + 1) (lv' := [(3, .int (j81 + 1)), (2, .int (j80 + 1)), (0, .ref (b0 o0)), (1, .int j79), (4, .int j82)]) hx hb dX8_findsOverflows_190 hl (k := 3) rfl rfl (by decide) rfl (fun ls hl => ?_)
    refine lv_goto (tgt := 117) hx hb dX8_findsOverflows_193 (by decide) ?_
    exact hB117 (j80 + 1) (j81 + 1) c94 (vp_updL c95 t83.toNatClampNeg t84) _ _ _ hP hD hS (lv_sub hl [2, 3, 1, 0] rfl) hf
set_option maxRecDepth 100000 in
set_option maxHeartbeats 200000 in
theorem w_Model_findsOverflows_J155 {p : Program} {l : Launch} {e : Env} {s : State} {m : MethodId} {below : List Frame} {meth : Method} {c : Code} {args : Array Value} {A : Nat → Prop} {D : va_G} {k : Nat → ClassId} {t : Nat → Nat} (X : BX l D k t p s m args meth c cX8_findsOverflows 5 RX8 none A) (b0 : Nat → Nat) (o0 : Nat) (s0 : ModelS) (N : Nat) (j62 : Int32) (j63 : Int32) (j64 : Int32) (j65 : Int32) (t66 : Int32) (t67 : Int64) (c68 : FI) (c69 : FJ) (c70 : FJ) (c71 : FJ) (c72 : FJ) (c73 : FJ) (c74 : FJ) (c75 : Int32) (c76 : Int32) (c77 : FJ) (c78 : FJ) (out : FI × FJ × FJ × FJ × FJ × FJ × FJ × Int32 × Int32 × FJ × FJ) (B117 : Int32 → Int32 → FJ → FJ → Option (FI × FJ × FJ × FJ × FJ × FJ × FJ × Int32 × Int32 × FJ × FJ)) (hB117 : ∀ (i48' : Int32) (i49' : Int32) (c59' : FJ) (c60' : FJ) (H : Heap) (locs : List Loc) (ls : Array Slot), va_P D vwCl [W_Model k b0 o0 (u_Model_overHigh (u_Model_overLow (u_Model_changing (u_Model_things (u_Model_greatest (u_Model_least (u_Model_highBefore (u_Model_lowBefore (u_Model_high (u_Model_low (u_Model_place s0 c68) c69) c70) c71) c72) c73) c74) c75) c76) c59') c60')].flatten H → va_D A [W_Model k b0 o0 (u_Model_overHigh (u_Model_overLow (u_Model_changing (u_Model_things (u_Model_greatest (u_Model_least (u_Model_highBefore (u_Model_lowBefore (u_Model_high (u_Model_low (u_Model_place s0 c68) c69) c70) c71) c72) c73) c74) c75) c76) c59') c60')].flatten → va_S A s.heap H locs → lv_has ls 5 [(0, .ref (b0 o0)), (1, .int j62), (2, .int i48'), (3, .int i49')] → B117 i48' i49' c59' c60' = some out → W p l e rm_Model_findsOverflows s m args below meth c H locs 0 0 (Q_Model_findsOverflows below D k A args s b0 o0 s0 out) (F0 m 117 ls [])) : ∀ (H : Heap) (locs : List Loc) (ls : Array Slot), va_P D vwCl [W_Model k b0 o0 (u_Model_overHigh (u_Model_overLow (u_Model_changing (u_Model_things (u_Model_greatest (u_Model_least (u_Model_highBefore (u_Model_lowBefore (u_Model_high (u_Model_low (u_Model_place s0 c68) c69) c70) c71) c72) c73) c74) c75) c76) c77) c78)].flatten H → va_D A [W_Model k b0 o0 (u_Model_overHigh (u_Model_overLow (u_Model_changing (u_Model_things (u_Model_greatest (u_Model_least (u_Model_highBefore (u_Model_lowBefore (u_Model_high (u_Model_low (u_Model_place s0 c68) c69) c70) c71) c72) c73) c74) c75) c76) c77) c78)].flatten → va_S A s.heap H locs → lv_has ls 5 [(0, .ref (b0 o0)), (1, .int j62), (2, .int j63), (3, .int j64), (4, .int j65)] → f_Model_findsOverflows_J155 j63 j64 j65 t66 t67 c70 c77 c78 B117 = some out → W p l e rm_Model_findsOverflows s m args below meth c H locs 0 0 (Q_Model_findsOverflows below D k A args s b0 o0 s0 out) (F0 m 155 ls [.long t67, .int t66, .ref (b0 (o0+10))]) := by
  have hx := X.1.1
  have hb := X.1.2.1
  have hml := X.1.2.2.1
  have hown := X.1.2.2.2.1
  have hts := X.1.2.2.2.2
  intro H locs ls hP hD hS hl hf
  rw [f_Model_findsOverflows_J155] at hf
  obtain ⟨hc, hf⟩ := ofck hf
  refine klast (f := c77) (n := 24) X hP hD hS 10 rfl hc dX8_findsOverflows_155 (fun H locs hP hD hS => ?_)
  have hP : va_P D vwCl [W_Model k b0 o0 (u_Model_overHigh (u_Model_overLow (u_Model_changing (u_Model_things (u_Model_greatest (u_Model_least (u_Model_highBefore (u_Model_lowBefore (u_Model_high (u_Model_low (u_Model_place s0 c68) c69) c70) c71) c72) c73) c74) c75) c76) (vp_updL c77 t66.toNatClampNeg t67)) c78)].flatten H := hP
  have hD : va_D A [W_Model k b0 o0 (u_Model_overHigh (u_Model_overLow (u_Model_changing (u_Model_things (u_Model_greatest (u_Model_least (u_Model_highBefore (u_Model_lowBefore (u_Model_high (u_Model_low (u_Model_place s0 c68) c69) c70) c71) c72) c73) c74) c75) c76) (vp_updL c77 t66.toNatClampNeg t67)) c78)].flatten := hD
  refine lv_aload_n hx hb dX8_findsOverflows_156 rfl (lv_at hl 0 rfl) ?_
  refine kget (v := .ref (b0 (o0+11))) X hP ff_X8_41 0 rfl rfl dX8_findsOverflows_157 ?_
  refine lv_iload_n hx hb dX8_findsOverflows_160 rfl (lv_at hl 3 rfl) ?_
  refine lv_iload hx hb dX8_findsOverflows_161 (lv_at hl 4 rfl) ?_
  refine lv_if_eq (tgt := 175) hx hb dX8_findsOverflows_163 (by decide) (fun hc => ?_) (fun hc => ?_)
  · have hf := ofpos hf hc
    refine lv_lconst (v := 0) hx hb dX8_findsOverflows_175 (by decide) ?_
    exact w_Model_findsOverflows_J176 X b0 o0 s0 N j62 j63 j64 j65 j64 0 c68 c69 c70 c71 c72 c73 c74 c75 c76 (vp_updL c77 t66.toNatClampNeg t67) c78 out _ hB117 _ _ _ hP hD hS (lv_sub hl [0, 1, 2, 3, 4] rfl) hf
  · have hf := ofneg hf hc
    refine lv_aload_n hx hb dX8_findsOverflows_166 rfl (lv_at hl 0 rfl) ?_
    refine kget (v := .ref (b0 (o0+5))) X hP ff_X8_23 0 rfl rfl dX8_findsOverflows_167 ?_
    refine lv_iload_n hx hb dX8_findsOverflows_170 rfl (lv_at hl 2 rfl) ?_
    obtain ⟨hc, hf⟩ := ofck hf
    refine klald (f := c70) (n := 24) X hP 5 rfl hc dX8_findsOverflows_171 ?_
    refine lv_goto (tgt := 176) hx hb dX8_findsOverflows_172 (by decide) ?_
    exact w_Model_findsOverflows_J176 X b0 o0 s0 N j62 j63 j64 j65 j64 (c70 j63.toNatClampNeg) c68 c69 c70 c71 c72 c73 c74 c75 c76 (vp_updL c77 t66.toNatClampNeg t67) c78 out _ hB117 _ _ _ hP hD hS (lv_sub hl [0, 1, 2, 3, 4] rfl) hf
set_option maxRecDepth 100000 in
set_option maxHeartbeats 200000 in
theorem w_Model_findsOverflows_L117 {p : Program} {l : Launch} {e : Env} {s : State} {m : MethodId} {below : List Frame} {meth : Method} {c : Code} {args : Array Value} {A : Nat → Prop} {D : va_G} {k : Nat → ClassId} {t : Nat → Nat} (X : BX l D k t p s m args meth c cX8_findsOverflows 5 RX8 none A) (b0 : Nat → Nat) (o0 : Nat) (s0 : ModelS) (N : Nat) (i47 : Int32) (c50 : FI) (c51 : FJ) (c52 : FJ) (c53 : FJ) (c54 : FJ) (c55 : FJ) (c56 : FJ) (c57 : Int32) (c58 : Int32) (out : FI × FJ × FJ × FJ × FJ × FJ × FJ × Int32 × Int32 × FJ × FJ) (K196 : Int32 → Int32 → FJ → FJ → Option (FI × FJ × FJ × FJ × FJ × FJ × FJ × Int32 × Int32 × FJ × FJ)) (hK196 : ∀ (i48' : Int32) (i49' : Int32) (c59' : FJ) (c60' : FJ) (H : Heap) (locs : List Loc) (ls : Array Slot), va_P D vwCl [W_Model k b0 o0 (u_Model_overHigh (u_Model_overLow (u_Model_changing (u_Model_things (u_Model_greatest (u_Model_least (u_Model_highBefore (u_Model_lowBefore (u_Model_high (u_Model_low (u_Model_place s0 c50) c51) c52) c53) c54) c55) c56) c57) c58) c59') c60')].flatten H → va_D A [W_Model k b0 o0 (u_Model_overHigh (u_Model_overLow (u_Model_changing (u_Model_things (u_Model_greatest (u_Model_least (u_Model_highBefore (u_Model_lowBefore (u_Model_high (u_Model_low (u_Model_place s0 c50) c51) c52) c53) c54) c55) c56) c57) c58) c59') c60')].flatten → va_S A s.heap H locs → lv_has ls 5 [] → K196 i48' i49' c59' c60' = some out → W p l e rm_Model_findsOverflows s m args below meth c H locs 0 0 (Q_Model_findsOverflows below D k A args s b0 o0 s0 out) (F0 m 196 ls [])) : ∀ (n : Nat) (i48 : Int32) (i49 : Int32) (c59 : FJ) (c60 : FJ) (H : Heap) (locs : List Loc) (ls : Array Slot), va_P D vwCl [W_Model k b0 o0 (u_Model_overHigh (u_Model_overLow (u_Model_changing (u_Model_things (u_Model_greatest (u_Model_least (u_Model_highBefore (u_Model_lowBefore (u_Model_high (u_Model_low (u_Model_place s0 c50) c51) c52) c53) c54) c55) c56) c57) c58) c59) c60)].flatten H → va_D A [W_Model k b0 o0 (u_Model_overHigh (u_Model_overLow (u_Model_changing (u_Model_things (u_Model_greatest (u_Model_least (u_Model_highBefore (u_Model_lowBefore (u_Model_high (u_Model_low (u_Model_place s0 c50) c51) c52) c53) c54) c55) c56) c57) c58) c59) c60)].flatten → va_S A s.heap H locs → lv_has ls 5 [(0, .ref (b0 o0)), (1, .int i47), (2, .int i48), (3, .int i49)] → f_Model_findsOverflows_L117 i47 c51 c52 s0.1.1.1.1.1 K196 n i48 i49 c59 c60 = some out → W p l e rm_Model_findsOverflows s m args below meth c H locs 0 0 (Q_Model_findsOverflows below D k A args s b0 o0 s0 out) (F0 m 117 ls []) := by
  have hx := X.1.1
  have hb := X.1.2.1
  have hml := X.1.2.2.1
  have hown := X.1.2.2.2.1
  have hts := X.1.2.2.2.2
  intro n
  induction n with
  | zero =>
    intro i48 i49 c59 c60 H locs ls hP hD hS hl hf
    rw [f_Model_findsOverflows_L117] at hf
    cases hf
  | succ n ih =>
    intro i48 i49 c59 c60 H locs ls hP hD hS hl hf
    rw [f_Model_findsOverflows_L117] at hf
    refine lv_iload_n hx hb dX8_findsOverflows_117 rfl (lv_at hl 3 rfl) ?_
    refine lv_aload_n hx hb dX8_findsOverflows_118 rfl (lv_at hl 0 rfl) ?_
    refine kget (v := .ref (b0 (o0+1))) X hP ff_X8_7 0 rfl rfl dX8_findsOverflows_119 ?_
    refine lv_iconst (v := 0) hx hb dX8_findsOverflows_122 (by decide) ?_
    obtain ⟨hc, hf⟩ := ofck hf
    refine kiald (f := s0.1.1.1.1.1) (n := 1002) X hP 1 rfl hc dX8_findsOverflows_123 ?_
    refine lv_icmp_ge (tgt := 196) hx hb dX8_findsOverflows_124 (by decide) (fun hc => ?_) (fun hc => ?_)
    · have hf := ofpos hf hc
      exact hK196 i48 i49 c59 c60 _ _ _ hP hD hS (lv_sub hl [] rfl) hf
    · have hf := ofneg hf hc
      refine lv_aload_n hx hb dX8_findsOverflows_127 rfl (lv_at hl 0 rfl) ?_
      refine lv_iload_n hx hb dX8_findsOverflows_128 rfl (lv_at hl 1 rfl) ?_
      refine lv_iload_n hx hb dX8_findsOverflows_129 rfl (lv_at hl 3 rfl) ?_
      obtain ⟨r61, hg_r61, hf⟩ := ofbind hf
      refine kcV (bs := [W_Model k b0 o0 (u_Model_overHigh (u_Model_overLow (u_Model_changing (u_Model_things (u_Model_greatest (u_Model_least (u_Model_highBefore (u_Model_lowBefore (u_Model_high (u_Model_low (u_Model_place s0 c50) c51) c52) c53) c54) c55) c56) c57) c58) c59) c60)]) (br := []) (bc := [W_Model k b0 o0 (u_Model_overHigh (u_Model_overLow (u_Model_changing (u_Model_things (u_Model_greatest (u_Model_least (u_Model_highBefore (u_Model_lowBefore (u_Model_high (u_Model_low (u_Model_place s0 c50) c51) c52) c53) c54) c55) c56) c57) c58) c59) c60)]) (bc' := [W_Model k b0 o0 (u_Model_overHigh (u_Model_overLow (u_Model_changing (u_Model_things (u_Model_greatest (u_Model_least (u_Model_highBefore (u_Model_lowBefore (u_Model_high (u_Model_low (u_Model_place s0 c50) c51) c52) c53) c54) c55) c56) c57) c58) c59) c60)]) X hP hD hS (c_Model_marked l D k t b0 o0 (u_Model_overHigh (u_Model_overLow (u_Model_changing (u_Model_things (u_Model_greatest (u_Model_least (u_Model_highBefore (u_Model_lowBefore (u_Model_high (u_Model_low (u_Model_place s0 c50) c51) c52) c53) c54) c55) c56) c57) c58) c59) c60) i47 i49 r61 hg_r61) mv_X8_120 hl [] [0] 8 ⟨rfl, rfl⟩ ⟨Nat.le_of_ble_eq_true rfl, Nat.le_of_ble_eq_true rfl⟩ rfl rfl rfl rfl rfl rfl rfl (Nat.le_of_ble_eq_true rfl) dX8_findsOverflows_130 (fun H locs hP hD hS => ?_)
      have hP : va_P D vwCl [W_Model k b0 o0 (u_Model_overHigh (u_Model_overLow (u_Model_changing (u_Model_things (u_Model_greatest (u_Model_least (u_Model_highBefore (u_Model_lowBefore (u_Model_high (u_Model_low (u_Model_place s0 c50) c51) c52) c53) c54) c55) c56) c57) c58) c59) c60)].flatten H := hP
      have hD : va_D A [W_Model k b0 o0 (u_Model_overHigh (u_Model_overLow (u_Model_changing (u_Model_things (u_Model_greatest (u_Model_least (u_Model_highBefore (u_Model_lowBefore (u_Model_high (u_Model_low (u_Model_place s0 c50) c51) c52) c53) c54) c55) c56) c57) c58) c59) c60)].flatten := hD
      refine lv_istore (lv' := [(4, .int r61), (0, .ref (b0 o0)), (1, .int i47), (2, .int i48), (3, .int i49)]) hx hb dX8_findsOverflows_133 hl (by decide) rfl (fun ls hl => ?_)
      refine lv_aload_n hx hb dX8_findsOverflows_135 rfl (lv_at hl 1 rfl) ?_
      refine kget (v := .ref (b0 (o0+10))) X hP ff_X8_38 0 rfl rfl dX8_findsOverflows_136 ?_
      refine lv_iload_n hx hb dX8_findsOverflows_139 rfl (lv_at hl 4 rfl) ?_
      refine lv_iload hx hb dX8_findsOverflows_140 (lv_at hl 0 rfl) ?_
      refine lv_if_eq (tgt := 154) hx hb dX8_findsOverflows_142 (by decide) (fun hc => ?_) (fun hc => ?_)
      · have hf := ofpos hf hc
        refine lv_lconst (v := 0) hx hb dX8_findsOverflows_154 (by decide) ?_
        exact w_Model_findsOverflows_J155 X b0 o0 s0 N i47 i48 i49 r61 i49 0 c50 c51 c52 c53 c54 c55 c56 c57 c58 c59 c60 out _ ih _ _ _ hP hD hS (lv_sub hl [1, 2, 3, 4, 0] rfl) hf
      · have hf := ofneg hf hc
        refine lv_aload_n hx hb dX8_findsOverflows_145 rfl (lv_at hl 1 rfl) ?_
        refine kget (v := .ref (b0 (o0+4))) X hP ff_X8_20 0 rfl rfl dX8_findsOverflows_146 ?_
        refine lv_iload_n hx hb dX8_findsOverflows_149 rfl (lv_at hl 3 rfl) ?_
        obtain ⟨hc, hf⟩ := ofck hf
        refine klald (f := c51) (n := 24) X hP 4 rfl hc dX8_findsOverflows_150 ?_
        refine lv_goto (tgt := 155) hx hb dX8_findsOverflows_151 (by decide) ?_
        exact w_Model_findsOverflows_J155 X b0 o0 s0 N i47 i48 i49 r61 i49 (c51 i48.toNatClampNeg) c50 c51 c52 c53 c54 c55 c56 c57 c58 c59 c60 out _ ih _ _ _ hP hD hS (lv_sub hl [1, 2, 3, 4, 0] rfl) hf
set_option maxRecDepth 100000 in
set_option maxHeartbeats 200000 in
theorem c_Model_findsOverflows (l : Launch) (D : va_G) (k : Nat → ClassId) (t : Nat → Nat) (b0 : Nat → Nat) (o0 : Nat) (s0 : ModelS) (x1 : Int32) (N : Nat) (out : FI × FJ × FJ × FJ × FJ × FJ × FJ × Int32 × Int32 × FJ × FJ) (hf : f_Model_findsOverflows N x1 s0.1.1.1.1.1 s0.1.1.1.1.2 s0.1.1.2.1.1 s0.1.1.2.1.2 s0.1.1.2.2 s0.1.2.1.1.1 s0.1.2.1.1.2 s0.1.2.1.2 s0.1.2.2.1 s0.1.2.2.2 s0.2.1.1.1.1 s0.2.1.1.1.2 s0.2.1.1.2 = some out) : CT l D k t yX8_findsOverflows cX8_findsOverflows 5 none rm_Model_findsOverflows [.ref (b0 o0), .int x1] [W_Model k b0 o0 s0].flatten none [W_Model k b0 o0 (u_Model_overHigh (u_Model_overLow (u_Model_changing (u_Model_things (u_Model_greatest (u_Model_least (u_Model_highBefore (u_Model_lowBefore (u_Model_high (u_Model_low (u_Model_place s0 out.1) out.2.1) out.2.2.1) out.2.2.2.1) out.2.2.2.2.1) out.2.2.2.2.2.1) out.2.2.2.2.2.2.1) out.2.2.2.2.2.2.2.1) out.2.2.2.2.2.2.2.2.1) out.2.2.2.2.2.2.2.2.2.1) out.2.2.2.2.2.2.2.2.2.2)].flatten := by
  refine kofW (by decide) (Nat.le_of_ble_eq_true rfl) ?_
  intro p e s m below meth c A ls X hP hD hS hl
  have hx := X.1.1
  have hb := X.1.2.1
  have hml := X.1.2.2.1
  have hown := X.1.2.2.2.1
  have hts := X.1.2.2.2.2
  have hl : lv_has ls 5 [(0, .ref (b0 o0)), (1, .int x1)] := hl
  rw [f_Model_findsOverflows] at hf
  refine lv_aload_n hx hb dX8_findsOverflows_0 rfl (lv_at hl 0 rfl) ?_
  refine lv_iconst (v := 0) hx hb dX8_findsOverflows_1 (by decide) ?_
  refine kputi (v := 0) X hP hD hS fp_X8_127 0 rfl (Nat.le_of_ble_eq_true rfl) dX8_findsOverflows_2 (fun H locs hP hD hS => ?_)
  have hP : va_P D vwCl [W_Model k b0 o0 (u_Model_things s0 0)].flatten H := hP
  have hD : va_D A [W_Model k b0 o0 (u_Model_things s0 0)].flatten := hD
  refine lv_iconst (v := 0) hx hb dX8_findsOverflows_5 (by decide) ?_
  refine lv_istore_n (lv' := [(2, .int 0), (0, .ref (b0 o0)), (1, .int x1)]) hx hb dX8_findsOverflows_6 rfl hl (by decide) rfl (fun ls hl => ?_)
  refine w_Model_findsOverflows_L7 X b0 o0 s0 N x1 s0.1.1.2.1.2 s0.1.1.2.2 s0.1.2.1.1.1 s0.1.2.1.1.2 s0.1.2.1.2 s0.1.2.2.1 s0.2.1.1.1.1 s0.2.1.1.1.2 s0.2.1.1.2 out _ ?_ N 0 s0.1.1.2.1.1 0 _ _ _ hP hD hS (lv_sub hl [1, 2, 0] rfl) hf
  · intro i20 c21 c22 H locs ls hP hD hS hl hf
    refine lv_iconst (v := 0) hx hb dX8_findsOverflows_56 (by decide) ?_
    refine lv_istore_n (lv' := [(2, .int 0), (0, .ref (b0 o0)), (1, .int x1)]) hx hb dX8_findsOverflows_57 rfl hl (by decide) rfl (fun ls hl => ?_)
    refine w_Model_findsOverflows_L58 X b0 o0 s0 N x1 c21 s0.1.1.2.1.2 s0.1.1.2.2 s0.1.2.1.1.1 s0.1.2.1.1.2 c22 s0.2.1.1.1.1 s0.2.1.1.1.2 s0.2.1.1.2 out _ ?_ N 0 s0.1.2.1.2 s0.1.2.2.1 _ _ _ hP hD hS (lv_sub hl [1, 2, 0] rfl) hf
    · intro i40 c41 c42 H locs ls hP hD hS hl hf
      refine lv_aload_n hx hb dX8_findsOverflows_98 rfl (lv_at hl 0 rfl) ?_
      refine lv_lconst (v := 1) hx hb dX8_findsOverflows_99 (by decide) ?_
      obtain ⟨r43, hg_r43, hf⟩ := ofbind hf
      refine kcV (bs := [W_Model k b0 o0 (u_Model_things (u_Model_greatest (u_Model_least (u_Model_place s0 c21) c41) c42) c22)]) (br := []) (bc := [W_Model k b0 o0 (u_Model_things (u_Model_greatest (u_Model_least (u_Model_place s0 c21) c41) c42) c22)]) (bc' := [W_Model k b0 o0 (u_Model_things (u_Model_greatest (u_Model_least (u_Model_high (u_Model_low (u_Model_place s0 c21) r43.1) r43.2) c41) c42) c22)]) X hP hD hS (c_Model_begins l D k t b0 o0 (u_Model_things (u_Model_greatest (u_Model_least (u_Model_place s0 c21) c41) c42) c22) 1 N r43 hg_r43) mv_X8_143 hl [] [0] 8 ⟨rfl, rfl⟩ ⟨Nat.le_of_ble_eq_true rfl, Nat.le_of_ble_eq_true rfl⟩ rfl rfl rfl rfl rfl rfl rfl (Nat.le_of_ble_eq_true rfl) dX8_findsOverflows_100 (fun H locs hP hD hS => ?_)
      have hP : va_P D vwCl [W_Model k b0 o0 (u_Model_things (u_Model_greatest (u_Model_least (u_Model_high (u_Model_low (u_Model_place s0 c21) r43.1) r43.2) c41) c42) c22)].flatten H := hP
      have hD : va_D A [W_Model k b0 o0 (u_Model_things (u_Model_greatest (u_Model_least (u_Model_high (u_Model_low (u_Model_place s0 c21) r43.1) r43.2) c41) c42) c22)].flatten := hD
      refine lv_aload_n hx hb dX8_findsOverflows_103 rfl (lv_at hl 0 rfl) ?_
      refine lv_aload_n hx hb dX8_findsOverflows_104 rfl (lv_at hl 0 rfl) ?_
      refine kget (v := .ref (b0 (o0+1))) X hP ff_X8_7 0 rfl rfl dX8_findsOverflows_105 ?_
      refine lv_iconst (v := 5) hx hb dX8_findsOverflows_108 (by decide) ?_
      obtain ⟨hc, hf⟩ := ofck hf
      refine kiald (f := s0.1.1.1.1.1) (n := 1002) X hP 1 rfl hc dX8_findsOverflows_109 ?_
      obtain ⟨r44, hg_r44, hf⟩ := ofbind hf
      refine kcV (bs := [W_Model k b0 o0 (u_Model_things (u_Model_greatest (u_Model_least (u_Model_high (u_Model_low (u_Model_place s0 c21) r43.1) r43.2) c41) c42) c22)]) (br := []) (bc := [W_Model k b0 o0 (u_Model_things (u_Model_greatest (u_Model_least (u_Model_high (u_Model_low (u_Model_place s0 c21) r43.1) r43.2) c41) c42) c22)]) (bc' := [W_Model k b0 o0 (u_Model_changing (u_Model_things (u_Model_greatest (u_Model_least (u_Model_highBefore (u_Model_lowBefore (u_Model_high (u_Model_low (u_Model_place s0 c21) r44.1) r44.2.1) r44.2.2.1) r44.2.2.2.1) c41) c42) c22) r44.2.2.2.2)]) X hP hD hS (c_Model_rounds l D k t b0 o0 (u_Model_things (u_Model_greatest (u_Model_least (u_Model_high (u_Model_low (u_Model_place s0 c21) r43.1) r43.2) c41) c42) c22) (s0.1.1.1.1.1 (5 : Int32).toNatClampNeg) N r44 hg_r44) mv_X8_147 hl [] [0] 8 ⟨rfl, rfl⟩ ⟨Nat.le_of_ble_eq_true rfl, Nat.le_of_ble_eq_true rfl⟩ rfl rfl rfl rfl rfl rfl rfl (Nat.le_of_ble_eq_true rfl) dX8_findsOverflows_110 (fun H locs hP hD hS => ?_)
      have hP : va_P D vwCl [W_Model k b0 o0 (u_Model_changing (u_Model_things (u_Model_greatest (u_Model_least (u_Model_highBefore (u_Model_lowBefore (u_Model_high (u_Model_low (u_Model_place s0 c21) r44.1) r44.2.1) r44.2.2.1) r44.2.2.2.1) c41) c42) c22) r44.2.2.2.2)].flatten H := hP
      have hD : va_D A [W_Model k b0 o0 (u_Model_changing (u_Model_things (u_Model_greatest (u_Model_least (u_Model_highBefore (u_Model_lowBefore (u_Model_high (u_Model_low (u_Model_place s0 c21) r44.1) r44.2.1) r44.2.2.1) r44.2.2.2.1) c41) c42) c22) r44.2.2.2.2)].flatten := hD
      refine lv_iconst (v := 0) hx hb dX8_findsOverflows_113 (by decide) ?_
      refine lv_istore_n (lv' := [(2, .int 0), (0, .ref (b0 o0)), (1, .int x1)]) hx hb dX8_findsOverflows_114 rfl hl (by decide) rfl (fun ls hl => ?_)
      refine lv_iconst (v := 0) hx hb dX8_findsOverflows_115 (by decide) ?_
      refine lv_istore_n (lv' := [(3, .int 0), (2, .int 0), (0, .ref (b0 o0)), (1, .int x1)]) hx hb dX8_findsOverflows_116 rfl hl (by decide) rfl (fun ls hl => ?_)
      refine w_Model_findsOverflows_L117 X b0 o0 s0 N x1 c21 r44.1 r44.2.1 r44.2.2.1 r44.2.2.2.1 c41 c42 c22 r44.2.2.2.2 out _ ?_ N 0 0 s0.2.1.1.1.2 s0.2.1.1.2 _ _ _ hP hD hS (lv_sub hl [2, 3, 1, 0] rfl) hf
      · intro i96 i97 c98 c99 H locs ls hP hD hS hl hf
        have hf := Option.some.inj hf
        subst hf
        exact kvret X hP hD hS dX8_findsOverflows_196
/-! Model_findsFlows: private void findsFlows(int, int); -/
abbrev rm_Model_findsFlows : Room := ({ frames := 4, cells := 0, slots := 0, locals := 100 } : Room)
def f_Model_findsFlows_L7 (i4 : Int32) (c16 : FJ) (c17 : FJ) (v_row : FI) (K77 : Int32 → FJ → FJ → Option (FI × FJ × FJ × FJ × FJ × FJ × FJ × Int32 × Int32 × FJ × FJ)) : Nat → Int32 → FJ → FJ → Option (FI × FJ × FJ × FJ × FJ × FJ × FJ × Int32 × Int32 × FJ × FJ)
  | 0, _, _, _ => none
  | n + 1, i6, c12, c13 => if ck 0 1002 = true then if (v_row (0 : Int32).toNatClampNeg) ≤ i6 then K77 i6 c12 c13 else (f_Model_restAt i4 i6 v_row).bind (fun r18 => if ck i6 24 = true then if ck 1 1002 = true then if ck i6 24 = true then (f_Model_restAt i4 i6 v_row).bind (fun r19 => if ck i6 24 = true then if ck 1 1002 = true then if ck i6 24 = true then f_Model_findsFlows_L7 i4 c16 c17 v_row K77 n (i6 + 1) (vp_updL c12 i6.toNatClampNeg (r18.toInt64 + ((c16 i6.toNatClampNeg) <<< ((v_row (1 : Int32).toNatClampNeg).toInt64 &&& 63)))) (vp_updL c13 i6.toNatClampNeg (r19.toInt64 + ((c17 i6.toNatClampNeg) <<< ((v_row (1 : Int32).toNatClampNeg).toInt64 &&& 63)))) else none else none else none) else none else none else none) else none
def f_Model_findsFlows_L90 (N : Nat) (c34 : Int32) (v_row : FI) (K123 : Int32 → FI → Option (FI × FJ × FJ × FJ × FJ × FJ × FJ × Int32 × Int32 × FJ × FJ)) : Nat → Int32 → FI → Option (FI × FJ × FJ × FJ × FJ × FJ × FJ × Int32 × Int32 × FJ × FJ)
  | 0, _, _ => none
  | n + 1, i26, c27 => if c34 ≤ i26 then K123 i26 c27 else if ck (7 + i26) 1002 = true then (f_Model_placesOf N (v_row (7 + i26).toNatClampNeg) v_row).bind (fun r38 => if ck i26 24 = true then f_Model_findsFlows_L90 N c34 v_row K123 n (i26 + 1) (upd c27 i26.toNatClampNeg r38) else none) else none
def f_Model_findsFlows (N : Nat) (x1 : Int32) (x2 : Int32) (v_row : FI) (v_number : FJ) (v_place : FI) (v_low : FJ) (v_high : FJ) (v_lowBefore : FJ) (v_highBefore : FJ) (v_least : FJ) (v_greatest : FJ) (v_things : Int32) (v_changing : Int32) (v_overLow : FJ) (v_overHigh : FJ) : Option (FI × FJ × FJ × FJ × FJ × FJ × FJ × Int32 × Int32 × FJ × FJ) := (f_Model_findsOverflows N x1 v_row v_number v_place v_low v_high v_lowBefore v_highBefore v_least v_greatest v_things v_changing v_overLow v_overHigh).bind (fun r1 => f_Model_findsFlows_L7 x1 r1.2.2.2.2.2.2.2.2.2.1 r1.2.2.2.2.2.2.2.2.2.2 v_row (fun i20 c21 c22 => if ck 6 1002 = true then f_Model_findsFlows_L90 N (v_row (6 : Int32).toNatClampNeg) v_row (fun i39 c40 => (f_Model_begins N 0 c40 r1.2.1 r1.2.2.1 c22 (v_row (6 : Int32).toNatClampNeg)).bind (fun r41 => (f_Model_rounds N x2 c40 r41.1 r41.2 r1.2.2.2.1 r1.2.2.2.2.1 c21 c22 (v_row (6 : Int32).toNatClampNeg) r1.2.2.2.2.2.2.2.2.1).bind (fun r42 => some (c40, r42.1, r42.2.1, r42.2.2.1, r42.2.2.2.1, c21, c22, (v_row (6 : Int32).toNatClampNeg), r42.2.2.2.2, r1.2.2.2.2.2.2.2.2.2.1, r1.2.2.2.2.2.2.2.2.2.2)))) N 0 r1.1 else none) N 0 r1.2.2.2.2.2.1 r1.2.2.2.2.2.2.1)
abbrev Q_Model_findsFlows (below : List Frame) (D : va_G) (k : Nat → ClassId) (A : Nat → Prop) (args : Array Value) (s : State) (b0 : Nat → Nat) (o0 : Nat) (s0 : ModelS) (out : FI × FJ × FJ × FJ × FJ × FJ × FJ × Int32 × Int32 × FJ × FJ) : State → Prop := MQ below (QW D k A none [W_Model k b0 o0 (u_Model_overHigh (u_Model_overLow (u_Model_changing (u_Model_things (u_Model_greatest (u_Model_least (u_Model_highBefore (u_Model_lowBefore (u_Model_high (u_Model_low (u_Model_place s0 out.1) out.2.1) out.2.2.1) out.2.2.2.1) out.2.2.2.2.1) out.2.2.2.2.2.1) out.2.2.2.2.2.2.1) out.2.2.2.2.2.2.2.1) out.2.2.2.2.2.2.2.2.1) out.2.2.2.2.2.2.2.2.2.1) out.2.2.2.2.2.2.2.2.2.2)].flatten) args s 0 0 A
set_option maxRecDepth 100000 in
set_option maxHeartbeats 200000 in
theorem w_Model_findsFlows_L7 {p : Program} {l : Launch} {e : Env} {s : State} {m : MethodId} {below : List Frame} {meth : Method} {c : Code} {args : Array Value} {A : Nat → Prop} {D : va_G} {k : Nat → ClassId} {t : Nat → Nat} (X : BX l D k t p s m args meth c cX8_findsFlows 4 RX8 none A) (b0 : Nat → Nat) (o0 : Nat) (s0 : ModelS) (N : Nat) (i4 : Int32) (i5 : Int32) (c7 : FI) (c8 : FJ) (c9 : FJ) (c10 : FJ) (c11 : FJ) (c14 : Int32) (c15 : Int32) (c16 : FJ) (c17 : FJ) (out : FI × FJ × FJ × FJ × FJ × FJ × FJ × Int32 × Int32 × FJ × FJ) (K77 : Int32 → FJ → FJ → Option (FI × FJ × FJ × FJ × FJ × FJ × FJ × Int32 × Int32 × FJ × FJ)) (hK77 : ∀ (i6' : Int32) (c12' : FJ) (c13' : FJ) (H : Heap) (locs : List Loc) (ls : Array Slot), va_P D vwCl [W_Model k b0 o0 (u_Model_overHigh (u_Model_overLow (u_Model_changing (u_Model_things (u_Model_greatest (u_Model_least (u_Model_highBefore (u_Model_lowBefore (u_Model_high (u_Model_low (u_Model_place s0 c7) c8) c9) c10) c11) c12') c13') c14) c15) c16) c17)].flatten H → va_D A [W_Model k b0 o0 (u_Model_overHigh (u_Model_overLow (u_Model_changing (u_Model_things (u_Model_greatest (u_Model_least (u_Model_highBefore (u_Model_lowBefore (u_Model_high (u_Model_low (u_Model_place s0 c7) c8) c9) c10) c11) c12') c13') c14) c15) c16) c17)].flatten → va_S A s.heap H locs → lv_has ls 4 [(0, .ref (b0 o0)), (2, .int i5)] → K77 i6' c12' c13' = some out → W p l e rm_Model_findsFlows s m args below meth c H locs 0 0 (Q_Model_findsFlows below D k A args s b0 o0 s0 out) (F0 m 77 ls [])) : ∀ (n : Nat) (i6 : Int32) (c12 : FJ) (c13 : FJ) (H : Heap) (locs : List Loc) (ls : Array Slot), va_P D vwCl [W_Model k b0 o0 (u_Model_overHigh (u_Model_overLow (u_Model_changing (u_Model_things (u_Model_greatest (u_Model_least (u_Model_highBefore (u_Model_lowBefore (u_Model_high (u_Model_low (u_Model_place s0 c7) c8) c9) c10) c11) c12) c13) c14) c15) c16) c17)].flatten H → va_D A [W_Model k b0 o0 (u_Model_overHigh (u_Model_overLow (u_Model_changing (u_Model_things (u_Model_greatest (u_Model_least (u_Model_highBefore (u_Model_lowBefore (u_Model_high (u_Model_low (u_Model_place s0 c7) c8) c9) c10) c11) c12) c13) c14) c15) c16) c17)].flatten → va_S A s.heap H locs → lv_has ls 4 [(0, .ref (b0 o0)), (1, .int i4), (2, .int i5), (3, .int i6)] → f_Model_findsFlows_L7 i4 c16 c17 s0.1.1.1.1.1 K77 n i6 c12 c13 = some out → W p l e rm_Model_findsFlows s m args below meth c H locs 0 0 (Q_Model_findsFlows below D k A args s b0 o0 s0 out) (F0 m 7 ls []) := by
  have hx := X.1.1
  have hb := X.1.2.1
  have hml := X.1.2.2.1
  have hown := X.1.2.2.2.1
  have hts := X.1.2.2.2.2
  intro n
  induction n with
  | zero =>
    intro i6 c12 c13 H locs ls hP hD hS hl hf
    rw [f_Model_findsFlows_L7] at hf
    cases hf
  | succ n ih =>
    intro i6 c12 c13 H locs ls hP hD hS hl hf
    rw [f_Model_findsFlows_L7] at hf
    refine lv_iload_n hx hb dX8_findsFlows_7 rfl (lv_at hl 3 rfl) ?_
    refine lv_aload_n hx hb dX8_findsFlows_8 rfl (lv_at hl 0 rfl) ?_
    refine kget (v := .ref (b0 (o0+1))) X hP ff_X8_7 0 rfl rfl dX8_findsFlows_9 ?_
    refine lv_iconst (v := 0) hx hb dX8_findsFlows_12 (by decide) ?_
    obtain ⟨hc, hf⟩ := ofck hf
    refine kiald (f := s0.1.1.1.1.1) (n := 1002) X hP 1 rfl hc dX8_findsFlows_13 ?_
    refine lv_icmp_ge (tgt := 77) hx hb dX8_findsFlows_14 (by decide) (fun hc => ?_) (fun hc => ?_)
    · have hf := ofpos hf hc
      exact hK77 i6 c12 c13 _ _ _ hP hD hS (lv_sub hl [0, 2] rfl) hf
    · have hf := ofneg hf hc
      refine lv_aload_n hx hb dX8_findsFlows_17 rfl (lv_at hl 0 rfl) ?_
      refine kget (v := .ref (b0 (o0+8))) X hP ff_X8_32 0 rfl rfl dX8_findsFlows_18 ?_
      refine lv_iload_n hx hb dX8_findsFlows_21 rfl (lv_at hl 3 rfl) ?_
      refine lv_aload_n hx hb dX8_findsFlows_22 rfl (lv_at hl 0 rfl) ?_
      refine lv_iload_n hx hb dX8_findsFlows_23 rfl (lv_at hl 1 rfl) ?_
      refine lv_iload_n hx hb dX8_findsFlows_24 rfl (lv_at hl 3 rfl) ?_
      obtain ⟨r18, hg_r18, hf⟩ := ofbind hf
      refine kcV (bs := [W_Model k b0 o0 (u_Model_overHigh (u_Model_overLow (u_Model_changing (u_Model_things (u_Model_greatest (u_Model_least (u_Model_highBefore (u_Model_lowBefore (u_Model_high (u_Model_low (u_Model_place s0 c7) c8) c9) c10) c11) c12) c13) c14) c15) c16) c17)]) (br := []) (bc := [W_Model k b0 o0 (u_Model_overHigh (u_Model_overLow (u_Model_changing (u_Model_things (u_Model_greatest (u_Model_least (u_Model_highBefore (u_Model_lowBefore (u_Model_high (u_Model_low (u_Model_place s0 c7) c8) c9) c10) c11) c12) c13) c14) c15) c16) c17)]) (bc' := [W_Model k b0 o0 (u_Model_overHigh (u_Model_overLow (u_Model_changing (u_Model_things (u_Model_greatest (u_Model_least (u_Model_highBefore (u_Model_lowBefore (u_Model_high (u_Model_low (u_Model_place s0 c7) c8) c9) c10) c11) c12) c13) c14) c15) c16) c17)]) X hP hD hS (c_Model_restAt l D k t b0 o0 (u_Model_overHigh (u_Model_overLow (u_Model_changing (u_Model_things (u_Model_greatest (u_Model_least (u_Model_highBefore (u_Model_lowBefore (u_Model_high (u_Model_low (u_Model_place s0 c7) c8) c9) c10) c11) c12) c13) c14) c15) c16) c17) i4 i6 r18 hg_r18) mv_X8_92 hl [] [0] 8 ⟨rfl, rfl⟩ ⟨Nat.le_of_ble_eq_true rfl, Nat.le_of_ble_eq_true rfl⟩ rfl rfl rfl rfl rfl rfl rfl (Nat.le_of_ble_eq_true rfl) dX8_findsFlows_25 (fun H locs hP hD hS => ?_)
      have hP : va_P D vwCl [W_Model k b0 o0 (u_Model_overHigh (u_Model_overLow (u_Model_changing (u_Model_things (u_Model_greatest (u_Model_least (u_Model_highBefore (u_Model_lowBefore (u_Model_high (u_Model_low (u_Model_place s0 c7) c8) c9) c10) c11) c12) c13) c14) c15) c16) c17)].flatten H := hP
      have hD : va_D A [W_Model k b0 o0 (u_Model_overHigh (u_Model_overLow (u_Model_changing (u_Model_things (u_Model_greatest (u_Model_least (u_Model_highBefore (u_Model_lowBefore (u_Model_high (u_Model_low (u_Model_place s0 c7) c8) c9) c10) c11) c12) c13) c14) c15) c16) c17)].flatten := hD
      refine lv_i2l (v := r18.toInt64) hx hb dX8_findsFlows_28 rfl ?_
      refine lv_aload_n hx hb dX8_findsFlows_29 rfl (lv_at hl 0 rfl) ?_
      refine kget (v := .ref (b0 (o0+10))) X hP ff_X8_38 0 rfl rfl dX8_findsFlows_30 ?_
      refine lv_iload_n hx hb dX8_findsFlows_33 rfl (lv_at hl 3 rfl) ?_
      obtain ⟨hc, hf⟩ := ofck hf
      refine klald (f := c16) (n := 24) X hP 10 rfl hc dX8_findsFlows_34 ?_
      refine lv_aload_n hx hb dX8_findsFlows_35 rfl (lv_at hl 0 rfl) ?_
      refine kget (v := .ref (b0 (o0+1))) X hP ff_X8_7 0 rfl rfl dX8_findsFlows_36 ?_
      refine lv_iconst (v := 1) hx hb dX8_findsFlows_39 (by decide) ?_
      obtain ⟨hc, hf⟩ := ofck hf
      refine kiald (f := s0.1.1.1.1.1) (n := 1002) X hP 1 rfl hc dX8_findsFlows_40 ?_
      refine lv_lshl (v := (c16 i6.toNatClampNeg) <<< ((s0.1.1.1.1.1 (1 : Int32).toNatClampNeg).toInt64 &&& 63)) hx hb dX8_findsFlows_41 rfl ?_
      refine lv_ladd hx hb dX8_findsFlows_42 ?_
      obtain ⟨hc, hf⟩ := ofck hf
      refine klast (f := c12) (n := 24) X hP hD hS 8 rfl hc dX8_findsFlows_43 (fun H locs hP hD hS => ?_)
      have hP : va_P D vwCl [W_Model k b0 o0 (u_Model_overHigh (u_Model_overLow (u_Model_changing (u_Model_things (u_Model_greatest (u_Model_least (u_Model_highBefore (u_Model_lowBefore (u_Model_high (u_Model_low (u_Model_place s0 c7) c8) c9) c10) c11) (vp_updL c12 i6.toNatClampNeg (r18.toInt64 + ((c16 i6.toNatClampNeg) <<< ((s0.1.1.1.1.1 (1 : Int32).toNatClampNeg).toInt64 &&& 63))))) c13) c14) c15) c16) c17)].flatten H := hP
      have hD : va_D A [W_Model k b0 o0 (u_Model_overHigh (u_Model_overLow (u_Model_changing (u_Model_things (u_Model_greatest (u_Model_least (u_Model_highBefore (u_Model_lowBefore (u_Model_high (u_Model_low (u_Model_place s0 c7) c8) c9) c10) c11) (vp_updL c12 i6.toNatClampNeg (r18.toInt64 + ((c16 i6.toNatClampNeg) <<< ((s0.1.1.1.1.1 (1 : Int32).toNatClampNeg).toInt64 &&& 63))))) c13) c14) c15) c16) c17)].flatten := hD
      refine lv_aload_n hx hb dX8_findsFlows_44 rfl (lv_at hl 0 rfl) ?_
      refine kget (v := .ref (b0 (o0+9))) X hP ff_X8_35 0 rfl rfl dX8_findsFlows_45 ?_
      refine lv_iload_n hx hb dX8_findsFlows_48 rfl (lv_at hl 3 rfl) ?_
      refine lv_aload_n hx hb dX8_findsFlows_49 rfl (lv_at hl 0 rfl) ?_
      refine lv_iload_n hx hb dX8_findsFlows_50 rfl (lv_at hl 1 rfl) ?_
      refine lv_iload_n hx hb dX8_findsFlows_51 rfl (lv_at hl 3 rfl) ?_
      obtain ⟨r19, hg_r19, hf⟩ := ofbind hf
      refine kcV (bs := [W_Model k b0 o0 (u_Model_overHigh (u_Model_overLow (u_Model_changing (u_Model_things (u_Model_greatest (u_Model_least (u_Model_highBefore (u_Model_lowBefore (u_Model_high (u_Model_low (u_Model_place s0 c7) c8) c9) c10) c11) (vp_updL c12 i6.toNatClampNeg (r18.toInt64 + ((c16 i6.toNatClampNeg) <<< ((s0.1.1.1.1.1 (1 : Int32).toNatClampNeg).toInt64 &&& 63))))) c13) c14) c15) c16) c17)]) (br := []) (bc := [W_Model k b0 o0 (u_Model_overHigh (u_Model_overLow (u_Model_changing (u_Model_things (u_Model_greatest (u_Model_least (u_Model_highBefore (u_Model_lowBefore (u_Model_high (u_Model_low (u_Model_place s0 c7) c8) c9) c10) c11) (vp_updL c12 i6.toNatClampNeg (r18.toInt64 + ((c16 i6.toNatClampNeg) <<< ((s0.1.1.1.1.1 (1 : Int32).toNatClampNeg).toInt64 &&& 63))))) c13) c14) c15) c16) c17)]) (bc' := [W_Model k b0 o0 (u_Model_overHigh (u_Model_overLow (u_Model_changing (u_Model_things (u_Model_greatest (u_Model_least (u_Model_highBefore (u_Model_lowBefore (u_Model_high (u_Model_low (u_Model_place s0 c7) c8) c9) c10) c11) (vp_updL c12 i6.toNatClampNeg (r18.toInt64 + ((c16 i6.toNatClampNeg) <<< ((s0.1.1.1.1.1 (1 : Int32).toNatClampNeg).toInt64 &&& 63))))) c13) c14) c15) c16) c17)]) X hP hD hS (c_Model_restAt l D k t b0 o0 (u_Model_overHigh (u_Model_overLow (u_Model_changing (u_Model_things (u_Model_greatest (u_Model_least (u_Model_highBefore (u_Model_lowBefore (u_Model_high (u_Model_low (u_Model_place s0 c7) c8) c9) c10) c11) (vp_updL c12 i6.toNatClampNeg (r18.toInt64 + ((c16 i6.toNatClampNeg) <<< ((s0.1.1.1.1.1 (1 : Int32).toNatClampNeg).toInt64 &&& 63))))) c13) c14) c15) c16) c17) i4 i6 r19 hg_r19) mv_X8_92 hl [] [0] 8 ⟨rfl, rfl⟩ ⟨Nat.le_of_ble_eq_true rfl, Nat.le_of_ble_eq_true rfl⟩ rfl rfl rfl rfl rfl rfl rfl (Nat.le_of_ble_eq_true rfl) dX8_findsFlows_52 (fun H locs hP hD hS => ?_)
      have hP : va_P D vwCl [W_Model k b0 o0 (u_Model_overHigh (u_Model_overLow (u_Model_changing (u_Model_things (u_Model_greatest (u_Model_least (u_Model_highBefore (u_Model_lowBefore (u_Model_high (u_Model_low (u_Model_place s0 c7) c8) c9) c10) c11) (vp_updL c12 i6.toNatClampNeg (r18.toInt64 + ((c16 i6.toNatClampNeg) <<< ((s0.1.1.1.1.1 (1 : Int32).toNatClampNeg).toInt64 &&& 63))))) c13) c14) c15) c16) c17)].flatten H := hP
      have hD : va_D A [W_Model k b0 o0 (u_Model_overHigh (u_Model_overLow (u_Model_changing (u_Model_things (u_Model_greatest (u_Model_least (u_Model_highBefore (u_Model_lowBefore (u_Model_high (u_Model_low (u_Model_place s0 c7) c8) c9) c10) c11) (vp_updL c12 i6.toNatClampNeg (r18.toInt64 + ((c16 i6.toNatClampNeg) <<< ((s0.1.1.1.1.1 (1 : Int32).toNatClampNeg).toInt64 &&& 63))))) c13) c14) c15) c16) c17)].flatten := hD
      refine lv_i2l (v := r19.toInt64) hx hb dX8_findsFlows_55 rfl ?_
      refine lv_aload_n hx hb dX8_findsFlows_56 rfl (lv_at hl 0 rfl) ?_
      refine kget (v := .ref (b0 (o0+11))) X hP ff_X8_41 0 rfl rfl dX8_findsFlows_57 ?_
      refine lv_iload_n hx hb dX8_findsFlows_60 rfl (lv_at hl 3 rfl) ?_
      obtain ⟨hc, hf⟩ := ofck hf
      refine klald (f := c17) (n := 24) X hP 11 rfl hc dX8_findsFlows_61 ?_
      refine lv_aload_n hx hb dX8_findsFlows_62 rfl (lv_at hl 0 rfl) ?_
      refine kget (v := .ref (b0 (o0+1))) X hP ff_X8_7 0 rfl rfl dX8_findsFlows_63 ?_
      refine lv_iconst (v := 1) hx hb dX8_findsFlows_66 (by decide) ?_
      obtain ⟨hc, hf⟩ := ofck hf
      refine kiald (f := s0.1.1.1.1.1) (n := 1002) X hP 1 rfl hc dX8_findsFlows_67 ?_
      refine lv_lshl (v := (c17 i6.toNatClampNeg) <<< ((s0.1.1.1.1.1 (1 : Int32).toNatClampNeg).toInt64 &&& 63)) hx hb dX8_findsFlows_68 rfl ?_
      refine lv_ladd hx hb dX8_findsFlows_69 ?_
      obtain ⟨hc, hf⟩ := ofck hf
      refine klast (f := c13) (n := 24) X hP hD hS 9 rfl hc dX8_findsFlows_70 (fun H locs hP hD hS => ?_)
      have hP : va_P D vwCl [W_Model k b0 o0 (u_Model_overHigh (u_Model_overLow (u_Model_changing (u_Model_things (u_Model_greatest (u_Model_least (u_Model_highBefore (u_Model_lowBefore (u_Model_high (u_Model_low (u_Model_place s0 c7) c8) c9) c10) c11) (vp_updL c12 i6.toNatClampNeg (r18.toInt64 + ((c16 i6.toNatClampNeg) <<< ((s0.1.1.1.1.1 (1 : Int32).toNatClampNeg).toInt64 &&& 63))))) (vp_updL c13 i6.toNatClampNeg (r19.toInt64 + ((c17 i6.toNatClampNeg) <<< ((s0.1.1.1.1.1 (1 : Int32).toNatClampNeg).toInt64 &&& 63))))) c14) c15) c16) c17)].flatten H := hP
      have hD : va_D A [W_Model k b0 o0 (u_Model_overHigh (u_Model_overLow (u_Model_changing (u_Model_things (u_Model_greatest (u_Model_least (u_Model_highBefore (u_Model_lowBefore (u_Model_high (u_Model_low (u_Model_place s0 c7) c8) c9) c10) c11) (vp_updL c12 i6.toNatClampNeg (r18.toInt64 + ((c16 i6.toNatClampNeg) <<< ((s0.1.1.1.1.1 (1 : Int32).toNatClampNeg).toInt64 &&& 63))))) (vp_updL c13 i6.toNatClampNeg (r19.toInt64 + ((c17 i6.toNatClampNeg) <<< ((s0.1.1.1.1.1 (1 : Int32).toNatClampNeg).toInt64 &&& 63))))) c14) c15) c16) c17)].flatten := hD
      refine lv_iinc (v := i6 + 1) (lv' := [(3, .int (i6 + 1)), (0, .ref (b0 o0)), (1, .int i4), (2, .int i5)]) hx hb dX8_findsFlows_71 hl (k := 3) rfl rfl (by decide) rfl (fun ls hl => ?_)
      refine lv_goto (tgt := 7) hx hb dX8_findsFlows_74 (by decide) ?_
      exact ih (i6 + 1) (vp_updL c12 i6.toNatClampNeg (r18.toInt64 + ((c16 i6.toNatClampNeg) <<< ((s0.1.1.1.1.1 (1 : Int32).toNatClampNeg).toInt64 &&& 63)))) (vp_updL c13 i6.toNatClampNeg (r19.toInt64 + ((c17 i6.toNatClampNeg) <<< ((s0.1.1.1.1.1 (1 : Int32).toNatClampNeg).toInt64 &&& 63)))) _ _ _ hP hD hS (lv_sub hl [1, 2, 3, 0] rfl) hf
set_option maxRecDepth 100000 in
set_option maxHeartbeats 200000 in
theorem w_Model_findsFlows_L90 {p : Program} {l : Launch} {e : Env} {s : State} {m : MethodId} {below : List Frame} {meth : Method} {c : Code} {args : Array Value} {A : Nat → Prop} {D : va_G} {k : Nat → ClassId} {t : Nat → Nat} (X : BX l D k t p s m args meth c cX8_findsFlows 4 RX8 none A) (b0 : Nat → Nat) (o0 : Nat) (s0 : ModelS) (N : Nat) (i25 : Int32) (c28 : FJ) (c29 : FJ) (c30 : FJ) (c31 : FJ) (c32 : FJ) (c33 : FJ) (c34 : Int32) (c35 : Int32) (c36 : FJ) (c37 : FJ) (out : FI × FJ × FJ × FJ × FJ × FJ × FJ × Int32 × Int32 × FJ × FJ) (K123 : Int32 → FI → Option (FI × FJ × FJ × FJ × FJ × FJ × FJ × Int32 × Int32 × FJ × FJ)) (hK123 : ∀ (i26' : Int32) (c27' : FI) (H : Heap) (locs : List Loc) (ls : Array Slot), va_P D vwCl [W_Model k b0 o0 (u_Model_overHigh (u_Model_overLow (u_Model_changing (u_Model_things (u_Model_greatest (u_Model_least (u_Model_highBefore (u_Model_lowBefore (u_Model_high (u_Model_low (u_Model_place s0 c27') c28) c29) c30) c31) c32) c33) c34) c35) c36) c37)].flatten H → va_D A [W_Model k b0 o0 (u_Model_overHigh (u_Model_overLow (u_Model_changing (u_Model_things (u_Model_greatest (u_Model_least (u_Model_highBefore (u_Model_lowBefore (u_Model_high (u_Model_low (u_Model_place s0 c27') c28) c29) c30) c31) c32) c33) c34) c35) c36) c37)].flatten → va_S A s.heap H locs → lv_has ls 4 [(0, .ref (b0 o0)), (2, .int i25)] → K123 i26' c27' = some out → W p l e rm_Model_findsFlows s m args below meth c H locs 0 0 (Q_Model_findsFlows below D k A args s b0 o0 s0 out) (F0 m 123 ls [])) : ∀ (n : Nat) (i26 : Int32) (c27 : FI) (H : Heap) (locs : List Loc) (ls : Array Slot), va_P D vwCl [W_Model k b0 o0 (u_Model_overHigh (u_Model_overLow (u_Model_changing (u_Model_things (u_Model_greatest (u_Model_least (u_Model_highBefore (u_Model_lowBefore (u_Model_high (u_Model_low (u_Model_place s0 c27) c28) c29) c30) c31) c32) c33) c34) c35) c36) c37)].flatten H → va_D A [W_Model k b0 o0 (u_Model_overHigh (u_Model_overLow (u_Model_changing (u_Model_things (u_Model_greatest (u_Model_least (u_Model_highBefore (u_Model_lowBefore (u_Model_high (u_Model_low (u_Model_place s0 c27) c28) c29) c30) c31) c32) c33) c34) c35) c36) c37)].flatten → va_S A s.heap H locs → lv_has ls 4 [(0, .ref (b0 o0)), (2, .int i25), (3, .int i26)] → f_Model_findsFlows_L90 N c34 s0.1.1.1.1.1 K123 n i26 c27 = some out → W p l e rm_Model_findsFlows s m args below meth c H locs 0 0 (Q_Model_findsFlows below D k A args s b0 o0 s0 out) (F0 m 90 ls []) := by
  have hx := X.1.1
  have hb := X.1.2.1
  have hml := X.1.2.2.1
  have hown := X.1.2.2.2.1
  have hts := X.1.2.2.2.2
  intro n
  induction n with
  | zero =>
    intro i26 c27 H locs ls hP hD hS hl hf
    rw [f_Model_findsFlows_L90] at hf
    cases hf
  | succ n ih =>
    intro i26 c27 H locs ls hP hD hS hl hf
    rw [f_Model_findsFlows_L90] at hf
    refine lv_iload_n hx hb dX8_findsFlows_90 rfl (lv_at hl 2 rfl) ?_
    refine lv_aload_n hx hb dX8_findsFlows_91 rfl (lv_at hl 0 rfl) ?_
    refine kget (v := .int c34) X hP ff_X8_127 0 rfl rfl dX8_findsFlows_92 ?_
    refine lv_icmp_ge (tgt := 123) hx hb dX8_findsFlows_95 (by decide) (fun hc => ?_) (fun hc => ?_)
    · have hf := ofpos hf hc
      exact hK123 i26 c27 _ _ _ hP hD hS (lv_sub hl [0, 1] rfl) hf
    · have hf := ofneg hf hc
      refine lv_aload_n hx hb dX8_findsFlows_98 rfl (lv_at hl 0 rfl) ?_
      refine kget (v := .ref (b0 (o0+3))) X hP ff_X8_17 0 rfl rfl dX8_findsFlows_99 ?_
      refine lv_iload_n hx hb dX8_findsFlows_102 rfl (lv_at hl 2 rfl) ?_
      refine lv_aload_n hx hb dX8_findsFlows_103 rfl (lv_at hl 0 rfl) ?_
      refine lv_aload_n hx hb dX8_findsFlows_104 rfl (lv_at hl 0 rfl) ?_
      refine kget (v := .ref (b0 (o0+1))) X hP ff_X8_7 0 rfl rfl dX8_findsFlows_105 ?_
      refine lv_bipush (v := 7) hx hb dX8_findsFlows_108 (by decide) ?_
      refine lv_iload_n hx hb dX8_findsFlows_110 rfl (lv_at hl 2 rfl) ?_
      refine lv_iadd hx hb dX8_findsFlows_111 ?_
      obtain ⟨hc, hf⟩ := ofck hf
      refine kiald (f := s0.1.1.1.1.1) (n := 1002) X hP 1 rfl hc dX8_findsFlows_112 ?_
      obtain ⟨r38, hg_r38, hf⟩ := ofbind hf
      refine kcV (bs := [W_Model k b0 o0 (u_Model_overHigh (u_Model_overLow (u_Model_changing (u_Model_things (u_Model_greatest (u_Model_least (u_Model_highBefore (u_Model_lowBefore (u_Model_high (u_Model_low (u_Model_place s0 c27) c28) c29) c30) c31) c32) c33) c34) c35) c36) c37)]) (br := []) (bc := [W_Model k b0 o0 (u_Model_overHigh (u_Model_overLow (u_Model_changing (u_Model_things (u_Model_greatest (u_Model_least (u_Model_highBefore (u_Model_lowBefore (u_Model_high (u_Model_low (u_Model_place s0 c27) c28) c29) c30) c31) c32) c33) c34) c35) c36) c37)]) (bc' := [W_Model k b0 o0 (u_Model_overHigh (u_Model_overLow (u_Model_changing (u_Model_things (u_Model_greatest (u_Model_least (u_Model_highBefore (u_Model_lowBefore (u_Model_high (u_Model_low (u_Model_place s0 c27) c28) c29) c30) c31) c32) c33) c34) c35) c36) c37)]) X hP hD hS (c_Model_placesOf l D k t b0 o0 (u_Model_overHigh (u_Model_overLow (u_Model_changing (u_Model_things (u_Model_greatest (u_Model_least (u_Model_highBefore (u_Model_lowBefore (u_Model_high (u_Model_low (u_Model_place s0 c27) c28) c29) c30) c31) c32) c33) c34) c35) c36) c37) (s0.1.1.1.1.1 (7 + i26).toNatClampNeg) N r38 hg_r38) mv_X8_83 hl [] [0] 8 ⟨rfl, rfl⟩ ⟨Nat.le_of_ble_eq_true rfl, Nat.le_of_ble_eq_true rfl⟩ rfl rfl rfl rfl rfl rfl rfl (Nat.le_of_ble_eq_true rfl) dX8_findsFlows_113 (fun H locs hP hD hS => ?_)
      have hP : va_P D vwCl [W_Model k b0 o0 (u_Model_overHigh (u_Model_overLow (u_Model_changing (u_Model_things (u_Model_greatest (u_Model_least (u_Model_highBefore (u_Model_lowBefore (u_Model_high (u_Model_low (u_Model_place s0 c27) c28) c29) c30) c31) c32) c33) c34) c35) c36) c37)].flatten H := hP
      have hD : va_D A [W_Model k b0 o0 (u_Model_overHigh (u_Model_overLow (u_Model_changing (u_Model_things (u_Model_greatest (u_Model_least (u_Model_highBefore (u_Model_lowBefore (u_Model_high (u_Model_low (u_Model_place s0 c27) c28) c29) c30) c31) c32) c33) c34) c35) c36) c37)].flatten := hD
      obtain ⟨hc, hf⟩ := ofck hf
      refine kiast (f := c27) (n := 24) X hP hD hS 3 rfl hc dX8_findsFlows_116 (fun H locs hP hD hS => ?_)
      have hP : va_P D vwCl [W_Model k b0 o0 (u_Model_overHigh (u_Model_overLow (u_Model_changing (u_Model_things (u_Model_greatest (u_Model_least (u_Model_highBefore (u_Model_lowBefore (u_Model_high (u_Model_low (u_Model_place s0 (upd c27 i26.toNatClampNeg r38)) c28) c29) c30) c31) c32) c33) c34) c35) c36) c37)].flatten H := hP
      have hD : va_D A [W_Model k b0 o0 (u_Model_overHigh (u_Model_overLow (u_Model_changing (u_Model_things (u_Model_greatest (u_Model_least (u_Model_highBefore (u_Model_lowBefore (u_Model_high (u_Model_low (u_Model_place s0 (upd c27 i26.toNatClampNeg r38)) c28) c29) c30) c31) c32) c33) c34) c35) c36) c37)].flatten := hD
      refine lv_iinc (v := i26 + 1) (lv' := [(3, .int (i26 + 1)), (0, .ref (b0 o0)), (2, .int i25)]) hx hb dX8_findsFlows_117 hl (k := 2) rfl rfl (by decide) rfl (fun ls hl => ?_)
      refine lv_goto (tgt := 90) hx hb dX8_findsFlows_120 (by decide) ?_
      exact ih (i26 + 1) (upd c27 i26.toNatClampNeg r38) _ _ _ hP hD hS (lv_sub hl [1, 2, 0] rfl) hf
set_option maxRecDepth 100000 in
set_option maxHeartbeats 200000 in
theorem c_Model_findsFlows (l : Launch) (D : va_G) (k : Nat → ClassId) (t : Nat → Nat) (b0 : Nat → Nat) (o0 : Nat) (s0 : ModelS) (x1 : Int32) (x2 : Int32) (N : Nat) (out : FI × FJ × FJ × FJ × FJ × FJ × FJ × Int32 × Int32 × FJ × FJ) (hf : f_Model_findsFlows N x1 x2 s0.1.1.1.1.1 s0.1.1.1.1.2 s0.1.1.2.1.1 s0.1.1.2.1.2 s0.1.1.2.2 s0.1.2.1.1.1 s0.1.2.1.1.2 s0.1.2.1.2 s0.1.2.2.1 s0.1.2.2.2 s0.2.1.1.1.1 s0.2.1.1.1.2 s0.2.1.1.2 = some out) : CT l D k t yX8_findsFlows cX8_findsFlows 4 none rm_Model_findsFlows [.ref (b0 o0), .int x1, .int x2] [W_Model k b0 o0 s0].flatten none [W_Model k b0 o0 (u_Model_overHigh (u_Model_overLow (u_Model_changing (u_Model_things (u_Model_greatest (u_Model_least (u_Model_highBefore (u_Model_lowBefore (u_Model_high (u_Model_low (u_Model_place s0 out.1) out.2.1) out.2.2.1) out.2.2.2.1) out.2.2.2.2.1) out.2.2.2.2.2.1) out.2.2.2.2.2.2.1) out.2.2.2.2.2.2.2.1) out.2.2.2.2.2.2.2.2.1) out.2.2.2.2.2.2.2.2.2.1) out.2.2.2.2.2.2.2.2.2.2)].flatten := by
  refine kofW (by decide) (Nat.le_of_ble_eq_true rfl) ?_
  intro p e s m below meth c A ls X hP hD hS hl
  have hx := X.1.1
  have hb := X.1.2.1
  have hml := X.1.2.2.1
  have hown := X.1.2.2.2.1
  have hts := X.1.2.2.2.2
  have hl : lv_has ls 4 [(0, .ref (b0 o0)), (1, .int x1), (2, .int x2)] := hl
  rw [f_Model_findsFlows] at hf
  refine lv_aload_n hx hb dX8_findsFlows_0 rfl (lv_at hl 0 rfl) ?_
  refine lv_iload_n hx hb dX8_findsFlows_1 rfl (lv_at hl 1 rfl) ?_
  obtain ⟨r1, hg_r1, hf⟩ := ofbind hf
  refine kcV (bs := [W_Model k b0 o0 s0]) (br := []) (bc := [W_Model k b0 o0 s0]) (bc' := [W_Model k b0 o0 (u_Model_overHigh (u_Model_overLow (u_Model_changing (u_Model_things (u_Model_greatest (u_Model_least (u_Model_highBefore (u_Model_lowBefore (u_Model_high (u_Model_low (u_Model_place s0 r1.1) r1.2.1) r1.2.2.1) r1.2.2.2.1) r1.2.2.2.2.1) r1.2.2.2.2.2.1) r1.2.2.2.2.2.2.1) r1.2.2.2.2.2.2.2.1) r1.2.2.2.2.2.2.2.2.1) r1.2.2.2.2.2.2.2.2.2.1) r1.2.2.2.2.2.2.2.2.2.2)]) X hP hD hS (c_Model_findsOverflows l D k t b0 o0 s0 x1 N r1 hg_r1) mv_X8_150 hl [] [0] 8 ⟨rfl, rfl⟩ ⟨Nat.le_of_ble_eq_true rfl, Nat.le_of_ble_eq_true rfl⟩ rfl rfl rfl rfl rfl rfl rfl (Nat.le_of_ble_eq_true rfl) dX8_findsFlows_2 (fun H locs hP hD hS => ?_)
  have hP : va_P D vwCl [W_Model k b0 o0 (u_Model_overHigh (u_Model_overLow (u_Model_changing (u_Model_things (u_Model_greatest (u_Model_least (u_Model_highBefore (u_Model_lowBefore (u_Model_high (u_Model_low (u_Model_place s0 r1.1) r1.2.1) r1.2.2.1) r1.2.2.2.1) r1.2.2.2.2.1) r1.2.2.2.2.2.1) r1.2.2.2.2.2.2.1) r1.2.2.2.2.2.2.2.1) r1.2.2.2.2.2.2.2.2.1) r1.2.2.2.2.2.2.2.2.2.1) r1.2.2.2.2.2.2.2.2.2.2)].flatten H := hP
  have hD : va_D A [W_Model k b0 o0 (u_Model_overHigh (u_Model_overLow (u_Model_changing (u_Model_things (u_Model_greatest (u_Model_least (u_Model_highBefore (u_Model_lowBefore (u_Model_high (u_Model_low (u_Model_place s0 r1.1) r1.2.1) r1.2.2.1) r1.2.2.2.1) r1.2.2.2.2.1) r1.2.2.2.2.2.1) r1.2.2.2.2.2.2.1) r1.2.2.2.2.2.2.2.1) r1.2.2.2.2.2.2.2.2.1) r1.2.2.2.2.2.2.2.2.2.1) r1.2.2.2.2.2.2.2.2.2.2)].flatten := hD
  refine lv_iconst (v := 0) hx hb dX8_findsFlows_5 (by decide) ?_
  refine lv_istore_n (lv' := [(3, .int 0), (0, .ref (b0 o0)), (1, .int x1), (2, .int x2)]) hx hb dX8_findsFlows_6 rfl hl (by decide) rfl (fun ls hl => ?_)
  refine w_Model_findsFlows_L7 X b0 o0 s0 N x1 x2 r1.1 r1.2.1 r1.2.2.1 r1.2.2.2.1 r1.2.2.2.2.1 r1.2.2.2.2.2.2.2.1 r1.2.2.2.2.2.2.2.2.1 r1.2.2.2.2.2.2.2.2.2.1 r1.2.2.2.2.2.2.2.2.2.2 out _ ?_ N 0 r1.2.2.2.2.2.1 r1.2.2.2.2.2.2.1 _ _ _ hP hD hS (lv_sub hl [1, 2, 3, 0] rfl) hf
  · intro i20 c21 c22 H locs ls hP hD hS hl hf
    refine lv_aload_n hx hb dX8_findsFlows_77 rfl (lv_at hl 0 rfl) ?_
    refine lv_aload_n hx hb dX8_findsFlows_78 rfl (lv_at hl 0 rfl) ?_
    refine kget (v := .ref (b0 (o0+1))) X hP ff_X8_7 0 rfl rfl dX8_findsFlows_79 ?_
    refine lv_bipush (v := 6) hx hb dX8_findsFlows_82 (by decide) ?_
    obtain ⟨hc, hf⟩ := ofck hf
    refine kiald (f := s0.1.1.1.1.1) (n := 1002) X hP 1 rfl hc dX8_findsFlows_84 ?_
    generalize hy23 : s0.1.1.1.1.1 (6 : Int32).toNatClampNeg = y23 at hf ⊢
    refine kputi (v := y23) X hP hD hS fp_X8_127 0 rfl (Nat.le_of_ble_eq_true rfl) dX8_findsFlows_85 (fun H locs hP hD hS => ?_)
    have hP : va_P D vwCl [W_Model k b0 o0 (u_Model_overHigh (u_Model_overLow (u_Model_changing (u_Model_things (u_Model_greatest (u_Model_least (u_Model_highBefore (u_Model_lowBefore (u_Model_high (u_Model_low (u_Model_place s0 r1.1) r1.2.1) r1.2.2.1) r1.2.2.2.1) r1.2.2.2.2.1) c21) c22) y23) r1.2.2.2.2.2.2.2.2.1) r1.2.2.2.2.2.2.2.2.2.1) r1.2.2.2.2.2.2.2.2.2.2)].flatten H := hP
    have hD : va_D A [W_Model k b0 o0 (u_Model_overHigh (u_Model_overLow (u_Model_changing (u_Model_things (u_Model_greatest (u_Model_least (u_Model_highBefore (u_Model_lowBefore (u_Model_high (u_Model_low (u_Model_place s0 r1.1) r1.2.1) r1.2.2.1) r1.2.2.2.1) r1.2.2.2.2.1) c21) c22) y23) r1.2.2.2.2.2.2.2.2.1) r1.2.2.2.2.2.2.2.2.2.1) r1.2.2.2.2.2.2.2.2.2.2)].flatten := hD
    refine lv_iconst (v := 0) hx hb dX8_findsFlows_88 (by decide) ?_
    refine lv_istore_n (lv' := [(3, .int 0), (0, .ref (b0 o0)), (2, .int x2)]) hx hb dX8_findsFlows_89 rfl hl (by decide) rfl (fun ls hl => ?_)
    refine w_Model_findsFlows_L90 X b0 o0 s0 N x2 r1.2.1 r1.2.2.1 r1.2.2.2.1 r1.2.2.2.2.1 c21 c22 y23 r1.2.2.2.2.2.2.2.2.1 r1.2.2.2.2.2.2.2.2.2.1 r1.2.2.2.2.2.2.2.2.2.2 out _ ?_ N 0 r1.1 _ _ _ hP hD hS (lv_sub hl [1, 2, 0] rfl) hf
    · intro i39 c40 H locs ls hP hD hS hl hf
      refine lv_aload_n hx hb dX8_findsFlows_123 rfl (lv_at hl 0 rfl) ?_
      refine lv_lconst (v := 0) hx hb dX8_findsFlows_124 (by decide) ?_
      obtain ⟨r41, hg_r41, hf⟩ := ofbind hf
      refine kcV (bs := [W_Model k b0 o0 (u_Model_overHigh (u_Model_overLow (u_Model_changing (u_Model_things (u_Model_greatest (u_Model_least (u_Model_highBefore (u_Model_lowBefore (u_Model_high (u_Model_low (u_Model_place s0 c40) r1.2.1) r1.2.2.1) r1.2.2.2.1) r1.2.2.2.2.1) c21) c22) y23) r1.2.2.2.2.2.2.2.2.1) r1.2.2.2.2.2.2.2.2.2.1) r1.2.2.2.2.2.2.2.2.2.2)]) (br := []) (bc := [W_Model k b0 o0 (u_Model_overHigh (u_Model_overLow (u_Model_changing (u_Model_things (u_Model_greatest (u_Model_least (u_Model_highBefore (u_Model_lowBefore (u_Model_high (u_Model_low (u_Model_place s0 c40) r1.2.1) r1.2.2.1) r1.2.2.2.1) r1.2.2.2.2.1) c21) c22) y23) r1.2.2.2.2.2.2.2.2.1) r1.2.2.2.2.2.2.2.2.2.1) r1.2.2.2.2.2.2.2.2.2.2)]) (bc' := [W_Model k b0 o0 (u_Model_overHigh (u_Model_overLow (u_Model_changing (u_Model_things (u_Model_greatest (u_Model_least (u_Model_highBefore (u_Model_lowBefore (u_Model_high (u_Model_low (u_Model_place s0 c40) r41.1) r41.2) r1.2.2.2.1) r1.2.2.2.2.1) c21) c22) y23) r1.2.2.2.2.2.2.2.2.1) r1.2.2.2.2.2.2.2.2.2.1) r1.2.2.2.2.2.2.2.2.2.2)]) X hP hD hS (c_Model_begins l D k t b0 o0 (u_Model_overHigh (u_Model_overLow (u_Model_changing (u_Model_things (u_Model_greatest (u_Model_least (u_Model_highBefore (u_Model_lowBefore (u_Model_high (u_Model_low (u_Model_place s0 c40) r1.2.1) r1.2.2.1) r1.2.2.2.1) r1.2.2.2.2.1) c21) c22) y23) r1.2.2.2.2.2.2.2.2.1) r1.2.2.2.2.2.2.2.2.2.1) r1.2.2.2.2.2.2.2.2.2.2) 0 N r41 hg_r41) mv_X8_143 hl [] [0] 8 ⟨rfl, rfl⟩ ⟨Nat.le_of_ble_eq_true rfl, Nat.le_of_ble_eq_true rfl⟩ rfl rfl rfl rfl rfl rfl rfl (Nat.le_of_ble_eq_true rfl) dX8_findsFlows_125 (fun H locs hP hD hS => ?_)
      have hP : va_P D vwCl [W_Model k b0 o0 (u_Model_overHigh (u_Model_overLow (u_Model_changing (u_Model_things (u_Model_greatest (u_Model_least (u_Model_highBefore (u_Model_lowBefore (u_Model_high (u_Model_low (u_Model_place s0 c40) r41.1) r41.2) r1.2.2.2.1) r1.2.2.2.2.1) c21) c22) y23) r1.2.2.2.2.2.2.2.2.1) r1.2.2.2.2.2.2.2.2.2.1) r1.2.2.2.2.2.2.2.2.2.2)].flatten H := hP
      have hD : va_D A [W_Model k b0 o0 (u_Model_overHigh (u_Model_overLow (u_Model_changing (u_Model_things (u_Model_greatest (u_Model_least (u_Model_highBefore (u_Model_lowBefore (u_Model_high (u_Model_low (u_Model_place s0 c40) r41.1) r41.2) r1.2.2.2.1) r1.2.2.2.2.1) c21) c22) y23) r1.2.2.2.2.2.2.2.2.1) r1.2.2.2.2.2.2.2.2.2.1) r1.2.2.2.2.2.2.2.2.2.2)].flatten := hD
      refine lv_aload_n hx hb dX8_findsFlows_128 rfl (lv_at hl 0 rfl) ?_
      refine lv_iload_n hx hb dX8_findsFlows_129 rfl (lv_at hl 1 rfl) ?_
      obtain ⟨r42, hg_r42, hf⟩ := ofbind hf
      refine kcV (bs := [W_Model k b0 o0 (u_Model_overHigh (u_Model_overLow (u_Model_changing (u_Model_things (u_Model_greatest (u_Model_least (u_Model_highBefore (u_Model_lowBefore (u_Model_high (u_Model_low (u_Model_place s0 c40) r41.1) r41.2) r1.2.2.2.1) r1.2.2.2.2.1) c21) c22) y23) r1.2.2.2.2.2.2.2.2.1) r1.2.2.2.2.2.2.2.2.2.1) r1.2.2.2.2.2.2.2.2.2.2)]) (br := []) (bc := [W_Model k b0 o0 (u_Model_overHigh (u_Model_overLow (u_Model_changing (u_Model_things (u_Model_greatest (u_Model_least (u_Model_highBefore (u_Model_lowBefore (u_Model_high (u_Model_low (u_Model_place s0 c40) r41.1) r41.2) r1.2.2.2.1) r1.2.2.2.2.1) c21) c22) y23) r1.2.2.2.2.2.2.2.2.1) r1.2.2.2.2.2.2.2.2.2.1) r1.2.2.2.2.2.2.2.2.2.2)]) (bc' := [W_Model k b0 o0 (u_Model_overHigh (u_Model_overLow (u_Model_changing (u_Model_things (u_Model_greatest (u_Model_least (u_Model_highBefore (u_Model_lowBefore (u_Model_high (u_Model_low (u_Model_place s0 c40) r42.1) r42.2.1) r42.2.2.1) r42.2.2.2.1) c21) c22) y23) r42.2.2.2.2) r1.2.2.2.2.2.2.2.2.2.1) r1.2.2.2.2.2.2.2.2.2.2)]) X hP hD hS (c_Model_rounds l D k t b0 o0 (u_Model_overHigh (u_Model_overLow (u_Model_changing (u_Model_things (u_Model_greatest (u_Model_least (u_Model_highBefore (u_Model_lowBefore (u_Model_high (u_Model_low (u_Model_place s0 c40) r41.1) r41.2) r1.2.2.2.1) r1.2.2.2.2.1) c21) c22) y23) r1.2.2.2.2.2.2.2.2.1) r1.2.2.2.2.2.2.2.2.2.1) r1.2.2.2.2.2.2.2.2.2.2) x2 N r42 hg_r42) mv_X8_147 hl [] [0] 8 ⟨rfl, rfl⟩ ⟨Nat.le_of_ble_eq_true rfl, Nat.le_of_ble_eq_true rfl⟩ rfl rfl rfl rfl rfl rfl rfl (Nat.le_of_ble_eq_true rfl) dX8_findsFlows_130 (fun H locs hP hD hS => ?_)
      have hP : va_P D vwCl [W_Model k b0 o0 (u_Model_overHigh (u_Model_overLow (u_Model_changing (u_Model_things (u_Model_greatest (u_Model_least (u_Model_highBefore (u_Model_lowBefore (u_Model_high (u_Model_low (u_Model_place s0 c40) r42.1) r42.2.1) r42.2.2.1) r42.2.2.2.1) c21) c22) y23) r42.2.2.2.2) r1.2.2.2.2.2.2.2.2.2.1) r1.2.2.2.2.2.2.2.2.2.2)].flatten H := hP
      have hD : va_D A [W_Model k b0 o0 (u_Model_overHigh (u_Model_overLow (u_Model_changing (u_Model_things (u_Model_greatest (u_Model_least (u_Model_highBefore (u_Model_lowBefore (u_Model_high (u_Model_low (u_Model_place s0 c40) r42.1) r42.2.1) r42.2.2.1) r42.2.2.2.1) c21) c22) y23) r42.2.2.2.2) r1.2.2.2.2.2.2.2.2.2.1) r1.2.2.2.2.2.2.2.2.2.2)].flatten := hD
      have hf := Option.some.inj hf
      subst hf
      exact kvret X hP hD hS dX8_findsFlows_133
/-! Model_overflow: public long overflow(int, int, boolean); -/
abbrev rm_Model_overflow : Room := ({ frames := 4, cells := 0, slots := 0, locals := 100 } : Room)
def f_Model_overflow (N : Nat) (x1 : Int32) (x2 : Int32) (x3 : Int32) (v_row : FI) (v_number : FJ) (v_place : FI) (v_low : FJ) (v_high : FJ) (v_lowBefore : FJ) (v_highBefore : FJ) (v_least : FJ) (v_greatest : FJ) (v_things : Int32) (v_changing : Int32) (v_overLow : FJ) (v_overHigh : FJ) : Option (Int64 × FI × FJ × FJ × FJ × FJ × FJ × FJ × Int32 × Int32 × FJ × FJ) := (f_Model_isBraid x1).bind (fun r1 => if r1 = 0 then some ((-2), v_place, v_low, v_high, v_lowBefore, v_highBefore, v_least, v_greatest, v_things, v_changing, v_overLow, v_overHigh) else (f_Model_isCounter x2 v_row).bind (fun r2 => if r2 = 0 then some ((-2), v_place, v_low, v_high, v_lowBefore, v_highBefore, v_least, v_greatest, v_things, v_changing, v_overLow, v_overHigh) else (f_Model_findsOverflows N x1 v_row v_number v_place v_low v_high v_lowBefore v_highBefore v_least v_greatest v_things v_changing v_overLow v_overHigh).bind (fun r3 => if x3 = 0 then if ck x2 24 = true then some (r3.2.2.2.2.2.2.2.2.2.1 x2.toNatClampNeg, r3.1, r3.2.1, r3.2.2.1, r3.2.2.2.1, r3.2.2.2.2.1, r3.2.2.2.2.2.1, r3.2.2.2.2.2.2.1, r3.2.2.2.2.2.2.2.1, r3.2.2.2.2.2.2.2.2.1, r3.2.2.2.2.2.2.2.2.2.1, r3.2.2.2.2.2.2.2.2.2.2) else none else if ck x2 24 = true then some (r3.2.2.2.2.2.2.2.2.2.2 x2.toNatClampNeg, r3.1, r3.2.1, r3.2.2.1, r3.2.2.2.1, r3.2.2.2.2.1, r3.2.2.2.2.2.1, r3.2.2.2.2.2.2.1, r3.2.2.2.2.2.2.2.1, r3.2.2.2.2.2.2.2.2.1, r3.2.2.2.2.2.2.2.2.2.1, r3.2.2.2.2.2.2.2.2.2.2) else none)))
abbrev Q_Model_overflow (below : List Frame) (D : va_G) (k : Nat → ClassId) (A : Nat → Prop) (args : Array Value) (s : State) (b0 : Nat → Nat) (o0 : Nat) (s0 : ModelS) (out : Int64 × FI × FJ × FJ × FJ × FJ × FJ × FJ × Int32 × Int32 × FJ × FJ) : State → Prop := MQ below (QW D k A (some (.long out.1)) [W_Model k b0 o0 (u_Model_overHigh (u_Model_overLow (u_Model_changing (u_Model_things (u_Model_greatest (u_Model_least (u_Model_highBefore (u_Model_lowBefore (u_Model_high (u_Model_low (u_Model_place s0 out.2.1) out.2.2.1) out.2.2.2.1) out.2.2.2.2.1) out.2.2.2.2.2.1) out.2.2.2.2.2.2.1) out.2.2.2.2.2.2.2.1) out.2.2.2.2.2.2.2.2.1) out.2.2.2.2.2.2.2.2.2.1) out.2.2.2.2.2.2.2.2.2.2.1) out.2.2.2.2.2.2.2.2.2.2.2)].flatten) args s 0 0 A
set_option maxRecDepth 100000 in
set_option maxHeartbeats 200000 in
theorem c_Model_overflow (l : Launch) (D : va_G) (k : Nat → ClassId) (t : Nat → Nat) (b0 : Nat → Nat) (o0 : Nat) (s0 : ModelS) (x1 : Int32) (x2 : Int32) (x3 : Int32) (N : Nat) (out : Int64 × FI × FJ × FJ × FJ × FJ × FJ × FJ × Int32 × Int32 × FJ × FJ) (hf : f_Model_overflow N x1 x2 x3 s0.1.1.1.1.1 s0.1.1.1.1.2 s0.1.1.2.1.1 s0.1.1.2.1.2 s0.1.1.2.2 s0.1.2.1.1.1 s0.1.2.1.1.2 s0.1.2.1.2 s0.1.2.2.1 s0.1.2.2.2 s0.2.1.1.1.1 s0.2.1.1.1.2 s0.2.1.1.2 = some out) : CT l D k t yX8_overflow cX8_overflow 4 (some .long) rm_Model_overflow [.ref (b0 o0), .int x1, .int x2, .int x3] [W_Model k b0 o0 s0].flatten (some (.long out.1)) [W_Model k b0 o0 (u_Model_overHigh (u_Model_overLow (u_Model_changing (u_Model_things (u_Model_greatest (u_Model_least (u_Model_highBefore (u_Model_lowBefore (u_Model_high (u_Model_low (u_Model_place s0 out.2.1) out.2.2.1) out.2.2.2.1) out.2.2.2.2.1) out.2.2.2.2.2.1) out.2.2.2.2.2.2.1) out.2.2.2.2.2.2.2.1) out.2.2.2.2.2.2.2.2.1) out.2.2.2.2.2.2.2.2.2.1) out.2.2.2.2.2.2.2.2.2.2.1) out.2.2.2.2.2.2.2.2.2.2.2)].flatten := by
  refine kofW (by decide) (Nat.le_of_ble_eq_true rfl) ?_
  intro p e s m below meth c A ls X hP hD hS hl
  have hx := X.1.1
  have hb := X.1.2.1
  have hml := X.1.2.2.1
  have hown := X.1.2.2.2.1
  have hts := X.1.2.2.2.2
  have hl : lv_has ls 4 [(0, .ref (b0 o0)), (1, .int x1), (2, .int x2), (3, .int x3)] := hl
  rw [f_Model_overflow] at hf
  refine lv_iload_n hx hb dX8_overflow_0 rfl (lv_at hl 1 rfl) ?_
  obtain ⟨r1, hg_r1, hf⟩ := ofbind hf
  refine kcS (bs := [W_Model k b0 o0 s0]) (br := [W_Model k b0 o0 s0]) (bc := []) (bc' := []) X hP hD hS (c_Model_isBraid l D k t x1 r1 hg_r1) ms_X8_100 hl [0] [] ⟨rfl, rfl⟩ ⟨Nat.le_of_ble_eq_true rfl, Nat.le_of_ble_eq_true rfl⟩ rfl rfl rfl rfl (Nat.le_of_ble_eq_true rfl) dX8_overflow_1 (fun H locs hP hD hS => ?_)
  have hP : va_P D vwCl [W_Model k b0 o0 s0].flatten H := hP
  have hD : va_D A [W_Model k b0 o0 s0].flatten := hD
  refine lv_if_eq (tgt := 15) hx hb dX8_overflow_4 (by decide) (fun hc => ?_) (fun hc => ?_)
  · have hf := ofpos hf hc
    refine lv_ldc2 (v := (-2)) hx hb hown (hts _ kc_X8_103) dX8_overflow_15 ?_
    have hf := Option.some.inj hf
    subst hf
    exact klret (v := (-2)) X hP hD hS dX8_overflow_18
  · have hf := ofneg hf hc
    refine lv_aload_n hx hb dX8_overflow_7 rfl (lv_at hl 0 rfl) ?_
    refine lv_iload_n hx hb dX8_overflow_8 rfl (lv_at hl 2 rfl) ?_
    obtain ⟨r2, hg_r2, hf⟩ := ofbind hf
    refine kcV (bs := [W_Model k b0 o0 s0]) (br := []) (bc := [W_Model k b0 o0 s0]) (bc' := [W_Model k b0 o0 s0]) X hP hD hS (c_Model_isCounter l D k t b0 o0 s0 x2 r2 hg_r2) mv_X8_86 hl [] [0] 8 ⟨rfl, rfl⟩ ⟨Nat.le_of_ble_eq_true rfl, Nat.le_of_ble_eq_true rfl⟩ rfl rfl rfl rfl rfl rfl rfl (Nat.le_of_ble_eq_true rfl) dX8_overflow_9 (fun H locs hP hD hS => ?_)
    have hP : va_P D vwCl [W_Model k b0 o0 s0].flatten H := hP
    have hD : va_D A [W_Model k b0 o0 s0].flatten := hD
    refine lv_if_ne (tgt := 19) hx hb dX8_overflow_12 (by decide) (fun hc => ?_) (fun hc => ?_)
    · have hf := ofneg hf hc
      refine lv_aload_n hx hb dX8_overflow_19 rfl (lv_at hl 0 rfl) ?_
      refine lv_iload_n hx hb dX8_overflow_20 rfl (lv_at hl 1 rfl) ?_
      obtain ⟨r3, hg_r3, hf⟩ := ofbind hf
      refine kcV (bs := [W_Model k b0 o0 s0]) (br := []) (bc := [W_Model k b0 o0 s0]) (bc' := [W_Model k b0 o0 (u_Model_overHigh (u_Model_overLow (u_Model_changing (u_Model_things (u_Model_greatest (u_Model_least (u_Model_highBefore (u_Model_lowBefore (u_Model_high (u_Model_low (u_Model_place s0 r3.1) r3.2.1) r3.2.2.1) r3.2.2.2.1) r3.2.2.2.2.1) r3.2.2.2.2.2.1) r3.2.2.2.2.2.2.1) r3.2.2.2.2.2.2.2.1) r3.2.2.2.2.2.2.2.2.1) r3.2.2.2.2.2.2.2.2.2.1) r3.2.2.2.2.2.2.2.2.2.2)]) X hP hD hS (c_Model_findsOverflows l D k t b0 o0 s0 x1 N r3 hg_r3) mv_X8_150 hl [] [0] 8 ⟨rfl, rfl⟩ ⟨Nat.le_of_ble_eq_true rfl, Nat.le_of_ble_eq_true rfl⟩ rfl rfl rfl rfl rfl rfl rfl (Nat.le_of_ble_eq_true rfl) dX8_overflow_21 (fun H locs hP hD hS => ?_)
      have hP : va_P D vwCl [W_Model k b0 o0 (u_Model_overHigh (u_Model_overLow (u_Model_changing (u_Model_things (u_Model_greatest (u_Model_least (u_Model_highBefore (u_Model_lowBefore (u_Model_high (u_Model_low (u_Model_place s0 r3.1) r3.2.1) r3.2.2.1) r3.2.2.2.1) r3.2.2.2.2.1) r3.2.2.2.2.2.1) r3.2.2.2.2.2.2.1) r3.2.2.2.2.2.2.2.1) r3.2.2.2.2.2.2.2.2.1) r3.2.2.2.2.2.2.2.2.2.1) r3.2.2.2.2.2.2.2.2.2.2)].flatten H := hP
      have hD : va_D A [W_Model k b0 o0 (u_Model_overHigh (u_Model_overLow (u_Model_changing (u_Model_things (u_Model_greatest (u_Model_least (u_Model_highBefore (u_Model_lowBefore (u_Model_high (u_Model_low (u_Model_place s0 r3.1) r3.2.1) r3.2.2.1) r3.2.2.2.1) r3.2.2.2.2.1) r3.2.2.2.2.2.1) r3.2.2.2.2.2.2.1) r3.2.2.2.2.2.2.2.1) r3.2.2.2.2.2.2.2.2.1) r3.2.2.2.2.2.2.2.2.2.1) r3.2.2.2.2.2.2.2.2.2.2)].flatten := hD
      refine lv_iload_n hx hb dX8_overflow_24 rfl (lv_at hl 3 rfl) ?_
      refine lv_if_eq (tgt := 37) hx hb dX8_overflow_25 (by decide) (fun hc => ?_) (fun hc => ?_)
      · have hf := ofpos hf hc
        refine lv_aload_n hx hb dX8_overflow_37 rfl (lv_at hl 0 rfl) ?_
        refine kget (v := .ref (b0 (o0+10))) X hP ff_X8_38 0 rfl rfl dX8_overflow_38 ?_
        refine lv_iload_n hx hb dX8_overflow_41 rfl (lv_at hl 2 rfl) ?_
        obtain ⟨hc, hf⟩ := ofck hf
        refine klald (f := r3.2.2.2.2.2.2.2.2.2.1) (n := 24) X hP 10 rfl hc dX8_overflow_42 ?_
        have hf := Option.some.inj hf
        subst hf
        exact klret (v := r3.2.2.2.2.2.2.2.2.2.1 x2.toNatClampNeg) X hP hD hS dX8_overflow_43
      · have hf := ofneg hf hc
        refine lv_aload_n hx hb dX8_overflow_28 rfl (lv_at hl 0 rfl) ?_
        refine kget (v := .ref (b0 (o0+11))) X hP ff_X8_41 0 rfl rfl dX8_overflow_29 ?_
        refine lv_iload_n hx hb dX8_overflow_32 rfl (lv_at hl 2 rfl) ?_
        obtain ⟨hc, hf⟩ := ofck hf
        refine klald (f := r3.2.2.2.2.2.2.2.2.2.2) (n := 24) X hP 11 rfl hc dX8_overflow_33 ?_
        refine lv_goto (tgt := 43) hx hb dX8_overflow_34 (by decide) ?_
        have hf := Option.some.inj hf
        subst hf
        exact klret (v := r3.2.2.2.2.2.2.2.2.2.2 x2.toNatClampNeg) X hP hD hS dX8_overflow_43
    · have hf := ofpos hf hc
      refine lv_ldc2 (v := (-2)) hx hb hown (hts _ kc_X8_103) dX8_overflow_15 ?_
      have hf := Option.some.inj hf
      subst hf
      exact klret (v := (-2)) X hP hD hS dX8_overflow_18
/-! Model_boundOf: private long boundOf(int, int, boolean, int); -/
abbrev rm_Model_boundOf : Room := ({ frames := 5, cells := 0, slots := 0, locals := 123 } : Room)
def f_Model_boundOf (N : Nat) (x1 : Int32) (x2 : Int32) (x3 : Int32) (x4 : Int32) (v_row : FI) (v_number : FJ) (v_place : FI) (v_low : FJ) (v_high : FJ) (v_lowBefore : FJ) (v_highBefore : FJ) (v_least : FJ) (v_greatest : FJ) (v_things : Int32) (v_changing : Int32) (v_overLow : FJ) (v_overHigh : FJ) : Option (Int64 × FI × FJ × FJ × FJ × FJ × FJ × FJ × Int32 × Int32 × FJ × FJ) := (f_Model_findsFlows N x1 x4 v_row v_number v_place v_low v_high v_lowBefore v_highBefore v_least v_greatest v_things v_changing v_overLow v_overHigh).bind (fun r1 => if x3 = 0 then if ck x2 24 = true then some (r1.2.1 x2.toNatClampNeg, r1.1, r1.2.1, r1.2.2.1, r1.2.2.2.1, r1.2.2.2.2.1, r1.2.2.2.2.2.1, r1.2.2.2.2.2.2.1, r1.2.2.2.2.2.2.2.1, r1.2.2.2.2.2.2.2.2.1, r1.2.2.2.2.2.2.2.2.2.1, r1.2.2.2.2.2.2.2.2.2.2) else none else if ck x2 24 = true then some (r1.2.2.1 x2.toNatClampNeg, r1.1, r1.2.1, r1.2.2.1, r1.2.2.2.1, r1.2.2.2.2.1, r1.2.2.2.2.2.1, r1.2.2.2.2.2.2.1, r1.2.2.2.2.2.2.2.1, r1.2.2.2.2.2.2.2.2.1, r1.2.2.2.2.2.2.2.2.2.1, r1.2.2.2.2.2.2.2.2.2.2) else none)
abbrev Q_Model_boundOf (below : List Frame) (D : va_G) (k : Nat → ClassId) (A : Nat → Prop) (args : Array Value) (s : State) (b0 : Nat → Nat) (o0 : Nat) (s0 : ModelS) (out : Int64 × FI × FJ × FJ × FJ × FJ × FJ × FJ × Int32 × Int32 × FJ × FJ) : State → Prop := MQ below (QW D k A (some (.long out.1)) [W_Model k b0 o0 (u_Model_overHigh (u_Model_overLow (u_Model_changing (u_Model_things (u_Model_greatest (u_Model_least (u_Model_highBefore (u_Model_lowBefore (u_Model_high (u_Model_low (u_Model_place s0 out.2.1) out.2.2.1) out.2.2.2.1) out.2.2.2.2.1) out.2.2.2.2.2.1) out.2.2.2.2.2.2.1) out.2.2.2.2.2.2.2.1) out.2.2.2.2.2.2.2.2.1) out.2.2.2.2.2.2.2.2.2.1) out.2.2.2.2.2.2.2.2.2.2.1) out.2.2.2.2.2.2.2.2.2.2.2)].flatten) args s 0 0 A
set_option maxRecDepth 100000 in
set_option maxHeartbeats 200000 in
theorem c_Model_boundOf (l : Launch) (D : va_G) (k : Nat → ClassId) (t : Nat → Nat) (b0 : Nat → Nat) (o0 : Nat) (s0 : ModelS) (x1 : Int32) (x2 : Int32) (x3 : Int32) (x4 : Int32) (N : Nat) (out : Int64 × FI × FJ × FJ × FJ × FJ × FJ × FJ × Int32 × Int32 × FJ × FJ) (hf : f_Model_boundOf N x1 x2 x3 x4 s0.1.1.1.1.1 s0.1.1.1.1.2 s0.1.1.2.1.1 s0.1.1.2.1.2 s0.1.1.2.2 s0.1.2.1.1.1 s0.1.2.1.1.2 s0.1.2.1.2 s0.1.2.2.1 s0.1.2.2.2 s0.2.1.1.1.1 s0.2.1.1.1.2 s0.2.1.1.2 = some out) : CT l D k t yX8_boundOf cX8_boundOf 5 (some .long) rm_Model_boundOf [.ref (b0 o0), .int x1, .int x2, .int x3, .int x4] [W_Model k b0 o0 s0].flatten (some (.long out.1)) [W_Model k b0 o0 (u_Model_overHigh (u_Model_overLow (u_Model_changing (u_Model_things (u_Model_greatest (u_Model_least (u_Model_highBefore (u_Model_lowBefore (u_Model_high (u_Model_low (u_Model_place s0 out.2.1) out.2.2.1) out.2.2.2.1) out.2.2.2.2.1) out.2.2.2.2.2.1) out.2.2.2.2.2.2.1) out.2.2.2.2.2.2.2.1) out.2.2.2.2.2.2.2.2.1) out.2.2.2.2.2.2.2.2.2.1) out.2.2.2.2.2.2.2.2.2.2.1) out.2.2.2.2.2.2.2.2.2.2.2)].flatten := by
  refine kofW (by decide) (Nat.le_of_ble_eq_true rfl) ?_
  intro p e s m below meth c A ls X hP hD hS hl
  have hx := X.1.1
  have hb := X.1.2.1
  have hml := X.1.2.2.1
  have hown := X.1.2.2.2.1
  have hts := X.1.2.2.2.2
  have hl : lv_has ls 5 [(0, .ref (b0 o0)), (1, .int x1), (2, .int x2), (3, .int x3), (4, .int x4)] := hl
  rw [f_Model_boundOf] at hf
  refine lv_aload_n hx hb dX8_boundOf_0 rfl (lv_at hl 0 rfl) ?_
  refine lv_iload_n hx hb dX8_boundOf_1 rfl (lv_at hl 1 rfl) ?_
  refine lv_iload hx hb dX8_boundOf_2 (lv_at hl 4 rfl) ?_
  obtain ⟨r1, hg_r1, hf⟩ := ofbind hf
  refine kcV (bs := [W_Model k b0 o0 s0]) (br := []) (bc := [W_Model k b0 o0 s0]) (bc' := [W_Model k b0 o0 (u_Model_overHigh (u_Model_overLow (u_Model_changing (u_Model_things (u_Model_greatest (u_Model_least (u_Model_highBefore (u_Model_lowBefore (u_Model_high (u_Model_low (u_Model_place s0 r1.1) r1.2.1) r1.2.2.1) r1.2.2.2.1) r1.2.2.2.2.1) r1.2.2.2.2.2.1) r1.2.2.2.2.2.2.1) r1.2.2.2.2.2.2.2.1) r1.2.2.2.2.2.2.2.2.1) r1.2.2.2.2.2.2.2.2.2.1) r1.2.2.2.2.2.2.2.2.2.2)]) X hP hD hS (c_Model_findsFlows l D k t b0 o0 s0 x1 x4 N r1 hg_r1) mv_X8_153 hl [] [0] 8 ⟨rfl, rfl⟩ ⟨Nat.le_of_ble_eq_true rfl, Nat.le_of_ble_eq_true rfl⟩ rfl rfl rfl rfl rfl rfl rfl (Nat.le_of_ble_eq_true rfl) dX8_boundOf_4 (fun H locs hP hD hS => ?_)
  have hP : va_P D vwCl [W_Model k b0 o0 (u_Model_overHigh (u_Model_overLow (u_Model_changing (u_Model_things (u_Model_greatest (u_Model_least (u_Model_highBefore (u_Model_lowBefore (u_Model_high (u_Model_low (u_Model_place s0 r1.1) r1.2.1) r1.2.2.1) r1.2.2.2.1) r1.2.2.2.2.1) r1.2.2.2.2.2.1) r1.2.2.2.2.2.2.1) r1.2.2.2.2.2.2.2.1) r1.2.2.2.2.2.2.2.2.1) r1.2.2.2.2.2.2.2.2.2.1) r1.2.2.2.2.2.2.2.2.2.2)].flatten H := hP
  have hD : va_D A [W_Model k b0 o0 (u_Model_overHigh (u_Model_overLow (u_Model_changing (u_Model_things (u_Model_greatest (u_Model_least (u_Model_highBefore (u_Model_lowBefore (u_Model_high (u_Model_low (u_Model_place s0 r1.1) r1.2.1) r1.2.2.1) r1.2.2.2.1) r1.2.2.2.2.1) r1.2.2.2.2.2.1) r1.2.2.2.2.2.2.1) r1.2.2.2.2.2.2.2.1) r1.2.2.2.2.2.2.2.2.1) r1.2.2.2.2.2.2.2.2.2.1) r1.2.2.2.2.2.2.2.2.2.2)].flatten := hD
  refine lv_iload_n hx hb dX8_boundOf_7 rfl (lv_at hl 3 rfl) ?_
  refine lv_if_eq (tgt := 20) hx hb dX8_boundOf_8 (by decide) (fun hc => ?_) (fun hc => ?_)
  · have hf := ofpos hf hc
    refine lv_aload_n hx hb dX8_boundOf_20 rfl (lv_at hl 0 rfl) ?_
    refine kget (v := .ref (b0 (o0+4))) X hP ff_X8_20 0 rfl rfl dX8_boundOf_21 ?_
    refine lv_iload_n hx hb dX8_boundOf_24 rfl (lv_at hl 2 rfl) ?_
    obtain ⟨hc, hf⟩ := ofck hf
    refine klald (f := r1.2.1) (n := 24) X hP 4 rfl hc dX8_boundOf_25 ?_
    have hf := Option.some.inj hf
    subst hf
    exact klret (v := r1.2.1 x2.toNatClampNeg) X hP hD hS dX8_boundOf_26
  · have hf := ofneg hf hc
    refine lv_aload_n hx hb dX8_boundOf_11 rfl (lv_at hl 0 rfl) ?_
    refine kget (v := .ref (b0 (o0+5))) X hP ff_X8_23 0 rfl rfl dX8_boundOf_12 ?_
    refine lv_iload_n hx hb dX8_boundOf_15 rfl (lv_at hl 2 rfl) ?_
    obtain ⟨hc, hf⟩ := ofck hf
    refine klald (f := r1.2.2.1) (n := 24) X hP 5 rfl hc dX8_boundOf_16 ?_
    refine lv_goto (tgt := 26) hx hb dX8_boundOf_17 (by decide) ?_
    have hf := Option.some.inj hf
    subst hf
    exact klret (v := r1.2.2.1 x2.toNatClampNeg) X hP hD hS dX8_boundOf_26
/-! Model_bound: public long bound(int, int, boolean); -/
abbrev rm_Model_bound : Room := ({ frames := 6, cells := 0, slots := 0, locals := 147 } : Room)
def f_Model_bound (N : Nat) (x1 : Int32) (x2 : Int32) (x3 : Int32) (v_row : FI) (v_number : FJ) (v_place : FI) (v_low : FJ) (v_high : FJ) (v_lowBefore : FJ) (v_highBefore : FJ) (v_least : FJ) (v_greatest : FJ) (v_things : Int32) (v_changing : Int32) (v_overLow : FJ) (v_overHigh : FJ) : Option (Int64 × FI × FJ × FJ × FJ × FJ × FJ × FJ × Int32 × Int32 × FJ × FJ) := (f_Model_isBraid x1).bind (fun r1 => if r1 = 0 then some ((-2), v_place, v_low, v_high, v_lowBefore, v_highBefore, v_least, v_greatest, v_things, v_changing, v_overLow, v_overHigh) else (f_Model_isFlow x2 v_row).bind (fun r2 => if r2 = 0 then some ((-2), v_place, v_low, v_high, v_lowBefore, v_highBefore, v_least, v_greatest, v_things, v_changing, v_overLow, v_overHigh) else if ck 5 1002 = true then (f_Model_boundOf N x1 x2 x3 (v_row (5 : Int32).toNatClampNeg) v_row v_number v_place v_low v_high v_lowBefore v_highBefore v_least v_greatest v_things v_changing v_overLow v_overHigh).bind (fun r3 => some (r3.1, r3.2.1, r3.2.2.1, r3.2.2.2.1, r3.2.2.2.2.1, r3.2.2.2.2.2.1, r3.2.2.2.2.2.2.1, r3.2.2.2.2.2.2.2.1, r3.2.2.2.2.2.2.2.2.1, r3.2.2.2.2.2.2.2.2.2.1, r3.2.2.2.2.2.2.2.2.2.2.1, r3.2.2.2.2.2.2.2.2.2.2.2)) else none))
abbrev Q_Model_bound (below : List Frame) (D : va_G) (k : Nat → ClassId) (A : Nat → Prop) (args : Array Value) (s : State) (b0 : Nat → Nat) (o0 : Nat) (s0 : ModelS) (out : Int64 × FI × FJ × FJ × FJ × FJ × FJ × FJ × Int32 × Int32 × FJ × FJ) : State → Prop := MQ below (QW D k A (some (.long out.1)) [W_Model k b0 o0 (u_Model_overHigh (u_Model_overLow (u_Model_changing (u_Model_things (u_Model_greatest (u_Model_least (u_Model_highBefore (u_Model_lowBefore (u_Model_high (u_Model_low (u_Model_place s0 out.2.1) out.2.2.1) out.2.2.2.1) out.2.2.2.2.1) out.2.2.2.2.2.1) out.2.2.2.2.2.2.1) out.2.2.2.2.2.2.2.1) out.2.2.2.2.2.2.2.2.1) out.2.2.2.2.2.2.2.2.2.1) out.2.2.2.2.2.2.2.2.2.2.1) out.2.2.2.2.2.2.2.2.2.2.2)].flatten) args s 0 0 A
set_option maxRecDepth 100000 in
set_option maxHeartbeats 200000 in
theorem c_Model_bound (l : Launch) (D : va_G) (k : Nat → ClassId) (t : Nat → Nat) (b0 : Nat → Nat) (o0 : Nat) (s0 : ModelS) (x1 : Int32) (x2 : Int32) (x3 : Int32) (N : Nat) (out : Int64 × FI × FJ × FJ × FJ × FJ × FJ × FJ × Int32 × Int32 × FJ × FJ) (hf : f_Model_bound N x1 x2 x3 s0.1.1.1.1.1 s0.1.1.1.1.2 s0.1.1.2.1.1 s0.1.1.2.1.2 s0.1.1.2.2 s0.1.2.1.1.1 s0.1.2.1.1.2 s0.1.2.1.2 s0.1.2.2.1 s0.1.2.2.2 s0.2.1.1.1.1 s0.2.1.1.1.2 s0.2.1.1.2 = some out) : CT l D k t yX8_bound cX8_bound 4 (some .long) rm_Model_bound [.ref (b0 o0), .int x1, .int x2, .int x3] [W_Model k b0 o0 s0].flatten (some (.long out.1)) [W_Model k b0 o0 (u_Model_overHigh (u_Model_overLow (u_Model_changing (u_Model_things (u_Model_greatest (u_Model_least (u_Model_highBefore (u_Model_lowBefore (u_Model_high (u_Model_low (u_Model_place s0 out.2.1) out.2.2.1) out.2.2.2.1) out.2.2.2.2.1) out.2.2.2.2.2.1) out.2.2.2.2.2.2.1) out.2.2.2.2.2.2.2.1) out.2.2.2.2.2.2.2.2.1) out.2.2.2.2.2.2.2.2.2.1) out.2.2.2.2.2.2.2.2.2.2.1) out.2.2.2.2.2.2.2.2.2.2.2)].flatten := by
  refine kofW (by decide) (Nat.le_of_ble_eq_true rfl) ?_
  intro p e s m below meth c A ls X hP hD hS hl
  have hx := X.1.1
  have hb := X.1.2.1
  have hml := X.1.2.2.1
  have hown := X.1.2.2.2.1
  have hts := X.1.2.2.2.2
  have hl : lv_has ls 4 [(0, .ref (b0 o0)), (1, .int x1), (2, .int x2), (3, .int x3)] := hl
  rw [f_Model_bound] at hf
  refine lv_iload_n hx hb dX8_bound_0 rfl (lv_at hl 1 rfl) ?_
  obtain ⟨r1, hg_r1, hf⟩ := ofbind hf
  refine kcS (bs := [W_Model k b0 o0 s0]) (br := [W_Model k b0 o0 s0]) (bc := []) (bc' := []) X hP hD hS (c_Model_isBraid l D k t x1 r1 hg_r1) ms_X8_100 hl [0] [] ⟨rfl, rfl⟩ ⟨Nat.le_of_ble_eq_true rfl, Nat.le_of_ble_eq_true rfl⟩ rfl rfl rfl rfl (Nat.le_of_ble_eq_true rfl) dX8_bound_1 (fun H locs hP hD hS => ?_)
  have hP : va_P D vwCl [W_Model k b0 o0 s0].flatten H := hP
  have hD : va_D A [W_Model k b0 o0 s0].flatten := hD
  refine lv_if_eq (tgt := 31) hx hb dX8_bound_4 (by decide) (fun hc => ?_) (fun hc => ?_)
  · have hf := ofpos hf hc
    refine lv_ldc2 (v := (-2)) hx hb hown (hts _ kc_X8_103) dX8_bound_31 ?_
    have hf := Option.some.inj hf
    subst hf
    exact klret (v := (-2)) X hP hD hS dX8_bound_34
  · have hf := ofneg hf hc
    refine lv_aload_n hx hb dX8_bound_7 rfl (lv_at hl 0 rfl) ?_
    refine lv_iload_n hx hb dX8_bound_8 rfl (lv_at hl 2 rfl) ?_
    obtain ⟨r2, hg_r2, hf⟩ := ofbind hf
    refine kcV (bs := [W_Model k b0 o0 s0]) (br := []) (bc := [W_Model k b0 o0 s0]) (bc' := [W_Model k b0 o0 s0]) X hP hD hS (c_Model_isFlow l D k t b0 o0 s0 x2 r2 hg_r2) mv_X8_79 hl [] [0] 8 ⟨rfl, rfl⟩ ⟨Nat.le_of_ble_eq_true rfl, Nat.le_of_ble_eq_true rfl⟩ rfl rfl rfl rfl rfl rfl rfl (Nat.le_of_ble_eq_true rfl) dX8_bound_9 (fun H locs hP hD hS => ?_)
    have hP : va_P D vwCl [W_Model k b0 o0 s0].flatten H := hP
    have hD : va_D A [W_Model k b0 o0 s0].flatten := hD
    refine lv_if_eq (tgt := 31) hx hb dX8_bound_12 (by decide) (fun hc => ?_) (fun hc => ?_)
    · have hf := ofpos hf hc
      refine lv_ldc2 (v := (-2)) hx hb hown (hts _ kc_X8_103) dX8_bound_31 ?_
      have hf := Option.some.inj hf
      subst hf
      exact klret (v := (-2)) X hP hD hS dX8_bound_34
    · have hf := ofneg hf hc
      refine lv_aload_n hx hb dX8_bound_15 rfl (lv_at hl 0 rfl) ?_
      refine lv_iload_n hx hb dX8_bound_16 rfl (lv_at hl 1 rfl) ?_
      refine lv_iload_n hx hb dX8_bound_17 rfl (lv_at hl 2 rfl) ?_
      refine lv_iload_n hx hb dX8_bound_18 rfl (lv_at hl 3 rfl) ?_
      refine lv_aload_n hx hb dX8_bound_19 rfl (lv_at hl 0 rfl) ?_
      refine kget (v := .ref (b0 (o0+1))) X hP ff_X8_7 0 rfl rfl dX8_bound_20 ?_
      refine lv_iconst (v := 5) hx hb dX8_bound_23 (by decide) ?_
      obtain ⟨hc, hf⟩ := ofck hf
      refine kiald (f := s0.1.1.1.1.1) (n := 1002) X hP 1 rfl hc dX8_bound_24 ?_
      obtain ⟨r3, hg_r3, hf⟩ := ofbind hf
      refine kcV (bs := [W_Model k b0 o0 s0]) (br := []) (bc := [W_Model k b0 o0 s0]) (bc' := [W_Model k b0 o0 (u_Model_overHigh (u_Model_overLow (u_Model_changing (u_Model_things (u_Model_greatest (u_Model_least (u_Model_highBefore (u_Model_lowBefore (u_Model_high (u_Model_low (u_Model_place s0 r3.2.1) r3.2.2.1) r3.2.2.2.1) r3.2.2.2.2.1) r3.2.2.2.2.2.1) r3.2.2.2.2.2.2.1) r3.2.2.2.2.2.2.2.1) r3.2.2.2.2.2.2.2.2.1) r3.2.2.2.2.2.2.2.2.2.1) r3.2.2.2.2.2.2.2.2.2.2.1) r3.2.2.2.2.2.2.2.2.2.2.2)]) X hP hD hS (c_Model_boundOf l D k t b0 o0 s0 x1 x2 x3 (s0.1.1.1.1.1 (5 : Int32).toNatClampNeg) N r3 hg_r3) mv_X8_156 hl [] [0] 8 ⟨rfl, rfl⟩ ⟨Nat.le_of_ble_eq_true rfl, Nat.le_of_ble_eq_true rfl⟩ rfl rfl rfl rfl rfl rfl rfl (Nat.le_of_ble_eq_true rfl) dX8_bound_25 (fun H locs hP hD hS => ?_)
      have hP : va_P D vwCl [W_Model k b0 o0 (u_Model_overHigh (u_Model_overLow (u_Model_changing (u_Model_things (u_Model_greatest (u_Model_least (u_Model_highBefore (u_Model_lowBefore (u_Model_high (u_Model_low (u_Model_place s0 r3.2.1) r3.2.2.1) r3.2.2.2.1) r3.2.2.2.2.1) r3.2.2.2.2.2.1) r3.2.2.2.2.2.2.1) r3.2.2.2.2.2.2.2.1) r3.2.2.2.2.2.2.2.2.1) r3.2.2.2.2.2.2.2.2.2.1) r3.2.2.2.2.2.2.2.2.2.2.1) r3.2.2.2.2.2.2.2.2.2.2.2)].flatten H := hP
      have hD : va_D A [W_Model k b0 o0 (u_Model_overHigh (u_Model_overLow (u_Model_changing (u_Model_things (u_Model_greatest (u_Model_least (u_Model_highBefore (u_Model_lowBefore (u_Model_high (u_Model_low (u_Model_place s0 r3.2.1) r3.2.2.1) r3.2.2.2.1) r3.2.2.2.2.1) r3.2.2.2.2.2.1) r3.2.2.2.2.2.2.1) r3.2.2.2.2.2.2.2.1) r3.2.2.2.2.2.2.2.2.1) r3.2.2.2.2.2.2.2.2.2.1) r3.2.2.2.2.2.2.2.2.2.2.1) r3.2.2.2.2.2.2.2.2.2.2.2)].flatten := hD
      refine lv_goto (tgt := 34) hx hb dX8_bound_28 (by decide) ?_
      have hf := Option.some.inj hf
      subst hf
      exact klret (v := r3.1) X hP hD hS dX8_bound_34
