/-! Model_readsItem: private boolean readsItem(boolean); -/
abbrev rm_Model_readsItem : Room := ({ frames := 3, cells := 0, slots := 0, locals := 81 } : Room)
def f_Model_readsItem_J77 (N : Nat) (j23 : Int32) (j24 : Int32) (j25 : Int32) (j26 : Int32) (c27 : FI) (c28 : FJ) (c29 : Int32) (c30 : FI) (c31 : FJ) (c32 : Int32) : Option (Int32 × FI × FJ × Int32 × FI × FJ × Int32) := if j26 = (-1) then some (0, c27, c28, c29, c30, c31, c32) else if ck j25 16 = true then if ck j25 16 = true then if j23 = 0 then some (1, c27, c28, c29, c30, (vp_updL c31 j25.toNatClampNeg ((c31 j25.toNatClampNeg) + j26.toInt64)), c32) else if ck 6 1002 = true then if (c27 (6 : Int32).toNatClampNeg) ≤ j25 then (f_Model_adds j24 c27 c28).bind (fun r34 => (f_Model_counts N 0 r34.1 j26.toInt64 r34.2.1 r34.2.2).bind (fun r35 => some (1, r35.1, r35.2, c29, c30, (vp_updL c31 j25.toNatClampNeg ((c31 j25.toNatClampNeg) + j26.toInt64)), c32))) else (f_Model_counts N 0 j25 j26.toInt64 c27 c28).bind (fun r36 => some (1, r36.1, r36.2, c29, c30, (vp_updL c31 j25.toNatClampNeg ((c31 j25.toNatClampNeg) + j26.toInt64)), c32)) else none else none else none
def f_Model_readsItem_J40 (N : Nat) (j12 : Int32) (j13 : Int32) (j14 : Int32) (t15 : Int32) (c16 : FI) (c17 : FJ) (c18 : Int32) (c19 : FI) (c20 : FJ) (c21 : Int32) (v_text : FI) (v_length : Int32) : Option (Int32 × FI × FJ × Int32 × FI × FJ × Int32) := if t15 = (-1) then some (0, c16, c17, j13, c19, c20, c21) else (f_Model_sign N 43 v_text v_length c18).bind (fun r22 => if r22.1 = 0 then f_Model_readsItem_J77 N j12 j14 t15 1 c16 c17 r22.2 c19 c20 c21 else (f_Model_reads N 1 9999 v_text v_length r22.2).bind (fun r37 => f_Model_readsItem_J77 N j12 j14 t15 r37.1 c16 c17 r37.2 c19 c20 c21))
def f_Model_readsItem_J30 (N : Nat) (j3 : Int32) (j4 : Int32) (j5 : Int32) (c6 : FI) (c7 : FJ) (c8 : Int32) (c9 : FI) (c10 : FJ) (c11 : Int32) (v_text : FI) (v_length : Int32) : Option (Int32 × FI × FJ × Int32 × FI × FJ × Int32) := f_Model_readsItem_J40 N j3 j4 j5 (-1) c6 c7 c8 c9 c10 c11 v_text v_length
def f_Model_readsItem (N : Nat) (x1 : Int32) (v_row : FI) (v_number : FJ) (v_text : FI) (v_length : Int32) (v_at : Int32) (v_readKey : FI) (v_readCount : FJ) (v_keys : Int32) : Option (Int32 × FI × FJ × Int32 × FI × FJ × Int32) := (f_Model_here N v_text v_length v_at).bind (fun r1 => (f_Model_reads N 0 999 v_text v_length r1.2).bind (fun r2 => if r1.1 < 0 then f_Model_readsItem_J30 N x1 r1.2 r2.1 v_row v_number r2.2 v_readKey v_readCount v_keys v_text v_length else if r2.1 = (-1) then f_Model_readsItem_J30 N x1 r1.2 r2.1 v_row v_number r2.2 v_readKey v_readCount v_keys v_text v_length else (f_Model_readAt N r2.1 v_readKey v_readCount v_keys).bind (fun r38 => f_Model_readsItem_J40 N x1 r1.2 r2.1 r38.1 v_row v_number r2.2 r38.2.1 r38.2.2.1 r38.2.2.2 v_text v_length)))
abbrev Q_Model_readsItem (below : List Frame) (D : va_G) (k : Nat → ClassId) (A : Nat → Prop) (args : Array Value) (s : State) (b0 : Nat → Nat) (o0 : Nat) (v_row : FI) (v_number : FJ) (v_saved : Int32) (v_place : FI) (v_low : FJ) (v_high : FJ) (v_lowBefore : FJ) (v_highBefore : FJ) (v_least : FJ) (v_greatest : FJ) (v_things : Int32) (v_changing : Int32) (v_overLow : FJ) (v_overHigh : FJ) (v_text : FI) (v_length : Int32) (v_at : Int32) (v_readKey : FI) (v_readCount : FJ) (v_keys : Int32) (v_h : Int64) (out : Int32 × FI × FJ × Int32 × FI × FJ × Int32) : State → Prop := MQ below (QW D k A (some (.int out.1)) [W_Model k b0 o0 out.2.1 out.2.2.1 v_saved v_place v_low v_high v_lowBefore v_highBefore v_least v_greatest v_things v_changing v_overLow v_overHigh v_text v_length out.2.2.2.1 out.2.2.2.2.1 out.2.2.2.2.2.1 out.2.2.2.2.2.2 v_h].flatten) args s 0 0 A
set_option maxRecDepth 100000 in
set_option maxHeartbeats 1000000 in
theorem w_Model_readsItem_J77 {p : Program} {l : Launch} {e : Env} {s : State} {m : MethodId} {below : List Frame} {meth : Method} {c : Code} {args : Array Value} {A : Nat → Prop} {D : va_G} {k : Nat → ClassId} {t : Nat → Nat} (X : BX l D k t p s m args meth c cX8_readsItem 7 RX8 (some .boolean) A) (b0 : Nat → Nat) (o0 : Nat) (v_row : FI) (v_number : FJ) (v_saved : Int32) (v_place : FI) (v_low : FJ) (v_high : FJ) (v_lowBefore : FJ) (v_highBefore : FJ) (v_least : FJ) (v_greatest : FJ) (v_things : Int32) (v_changing : Int32) (v_overLow : FJ) (v_overHigh : FJ) (v_text : FI) (v_length : Int32) (v_at : Int32) (v_readKey : FI) (v_readCount : FJ) (v_keys : Int32) (v_h : Int64) (N : Nat) (j23 : Int32) (j24 : Int32) (j25 : Int32) (j26 : Int32) (c27 : FI) (c28 : FJ) (c29 : Int32) (c30 : FI) (c31 : FJ) (c32 : Int32) (out : Int32 × FI × FJ × Int32 × FI × FJ × Int32) : ∀ (H : Heap) (locs : List Loc) (ls : Array Slot), va_P D vwCl [W_Model k b0 o0 c27 c28 v_saved v_place v_low v_high v_lowBefore v_highBefore v_least v_greatest v_things v_changing v_overLow v_overHigh v_text v_length c29 c30 c31 c32 v_h].flatten H → va_D A [W_Model k b0 o0 c27 c28 v_saved v_place v_low v_high v_lowBefore v_highBefore v_least v_greatest v_things v_changing v_overLow v_overHigh v_text v_length c29 c30 c31 c32 v_h].flatten → va_S A s.heap H locs → lv_has ls 7 [(0, .ref (b0 o0)), (1, .int j23), (4, .int j24), (5, .int j25), (6, .int j26)] → f_Model_readsItem_J77 N j23 j24 j25 j26 c27 c28 c29 c30 c31 c32 = some out → W p l e rm_Model_readsItem s m args below meth c H locs 0 0 (Q_Model_readsItem below D k A args s b0 o0 v_row v_number v_saved v_place v_low v_high v_lowBefore v_highBefore v_least v_greatest v_things v_changing v_overLow v_overHigh v_text v_length v_at v_readKey v_readCount v_keys v_h out) (F0 m 77 ls []) := by
  have hx := X.1.1
  have hb := X.1.2.1
  have hml := X.1.2.2.1
  have hown := X.1.2.2.2.1
  have hts := X.1.2.2.2.2
  intro H locs ls hP hD hS hl hf
  rw [f_Model_readsItem_J77] at hf
  refine lv_iload hx hb dX8_readsItem_77 (lv_at hl 4 rfl) ?_
  refine lv_iconst (v := (-1)) hx hb dX8_readsItem_79 (by decide) ?_
  refine lv_icmp_ne (tgt := 85) hx hb dX8_readsItem_80 (by decide) (fun hc => ?_) (fun hc => ?_)
  · have hf := ofneg hf hc
    refine lv_aload_n hx hb dX8_readsItem_85 rfl (lv_at hl 0 rfl) ?_
    refine kget (v := .ref (b0 (o0+14))) X hP ff_X8_50 0 rfl rfl dX8_readsItem_86 ?_
    refine lv_iload hx hb dX8_readsItem_89 (lv_at hl 3 rfl) ?_
    refine lv_dup2_11 hx hb dX8_readsItem_91 rfl rfl ?_
    obtain ⟨hc, hf⟩ := ofck hf
    refine klald (f := c31) (n := 16) X hP 14 rfl hc dX8_readsItem_92 ?_
    refine lv_iload hx hb dX8_readsItem_93 (lv_at hl 4 rfl) ?_
    refine lv_i2l (v := j26.toInt64) hx hb dX8_readsItem_95 rfl ?_
    refine lv_ladd hx hb dX8_readsItem_96 ?_
    obtain ⟨hc, hf⟩ := ofck hf
    generalize hc33 : vp_updL c31 j25.toNatClampNeg ((c31 j25.toNatClampNeg) + j26.toInt64) = c33 at hf
    refine klast2 (f := c31) (n := 16) (g := c33) X hP hD hS 14 rfl hc hc33 dX8_readsItem_97 (fun H locs hP hD hS => ?_)
    have hP : va_P D vwCl [W_Model k b0 o0 c27 c28 v_saved v_place v_low v_high v_lowBefore v_highBefore v_least v_greatest v_things v_changing v_overLow v_overHigh v_text v_length c29 c30 c33 c32 v_h].flatten _ := hP
    have hD : va_D A [W_Model k b0 o0 c27 c28 v_saved v_place v_low v_high v_lowBefore v_highBefore v_least v_greatest v_things v_changing v_overLow v_overHigh v_text v_length c29 c30 c33 c32 v_h].flatten := hD
    refine lv_iload_n hx hb dX8_readsItem_98 rfl (lv_at hl 1 rfl) ?_
    refine lv_if_eq (tgt := 133) hx hb dX8_readsItem_99 (by decide) (fun hc => ?_) (fun hc => ?_)
    · have hf := ofpos hf hc
      refine lv_iconst (v := 1) hx hb dX8_readsItem_133 (by decide) ?_
      have hf := Option.some.inj hf
      subst hf
      exact kzret (v := 1) X hP hD hS rfl dX8_readsItem_134
    · have hf := ofneg hf hc
      refine lv_aload_n hx hb dX8_readsItem_102 rfl (lv_at hl 0 rfl) ?_
      refine lv_iconst (v := 0) hx hb dX8_readsItem_103 (by decide) ?_
      refine lv_iload hx hb dX8_readsItem_104 (lv_at hl 3 rfl) ?_
      refine lv_aload_n hx hb dX8_readsItem_106 rfl (lv_at hl 0 rfl) ?_
      refine kget (v := .ref (b0 (o0+1))) X hP ff_X8_7 0 rfl rfl dX8_readsItem_107 ?_
      refine lv_bipush (v := 6) hx hb dX8_readsItem_110 (by decide) ?_
      obtain ⟨hc, hf⟩ := ofck hf
      refine kiald (f := c27) (n := 1002) X hP 1 rfl hc dX8_readsItem_112 ?_
      refine lv_icmp_ge (tgt := 121) hx hb dX8_readsItem_113 (by decide) (fun hc => ?_) (fun hc => ?_)
      · have hf := ofpos hf hc
        refine lv_aload_n hx hb dX8_readsItem_121 rfl (lv_at hl 0 rfl) ?_
        refine lv_iload hx hb dX8_readsItem_122 (lv_at hl 2 rfl) ?_
        obtain ⟨r34, hg_r34, hf⟩ := ofbind hf
        refine kcV (bs := [W_Model k b0 o0 c27 c28 v_saved v_place v_low v_high v_lowBefore v_highBefore v_least v_greatest v_things v_changing v_overLow v_overHigh v_text v_length c29 c30 c33 c32 v_h]) (br := []) (bc := [W_Model k b0 o0 c27 c28 v_saved v_place v_low v_high v_lowBefore v_highBefore v_least v_greatest v_things v_changing v_overLow v_overHigh v_text v_length c29 c30 c33 c32 v_h]) (bc' := [W_Model k b0 o0 r34.2.1 r34.2.2 v_saved v_place v_low v_high v_lowBefore v_highBefore v_least v_greatest v_things v_changing v_overLow v_overHigh v_text v_length c29 c30 c33 c32 v_h]) X hP hD hS (c_Model_adds l D k t b0 o0 c27 c28 v_saved v_place v_low v_high v_lowBefore v_highBefore v_least v_greatest v_things v_changing v_overLow v_overHigh v_text v_length c29 c30 c33 c32 v_h j24 r34 hg_r34) mv_X8_76 hl [] [0] 8 ⟨rfl, rfl⟩ ⟨Nat.le_of_ble_eq_true rfl, Nat.le_of_ble_eq_true rfl⟩ rfl rfl rfl rfl rfl rfl rfl (Nat.le_of_ble_eq_true rfl) dX8_readsItem_124 (fun H locs hP hD hS => ?_)
        have hP : va_P D vwCl [W_Model k b0 o0 r34.2.1 r34.2.2 v_saved v_place v_low v_high v_lowBefore v_highBefore v_least v_greatest v_things v_changing v_overLow v_overHigh v_text v_length c29 c30 c33 c32 v_h].flatten _ := hP
        have hD : va_D A [W_Model k b0 o0 r34.2.1 r34.2.2 v_saved v_place v_low v_high v_lowBefore v_highBefore v_least v_greatest v_things v_changing v_overLow v_overHigh v_text v_length c29 c30 c33 c32 v_h].flatten := hD
        refine lv_iload hx hb dX8_readsItem_127 (lv_at hl 4 rfl) ?_
        refine lv_i2l (v := j26.toInt64) hx hb dX8_readsItem_129 rfl ?_
        obtain ⟨r35, hg_r35, hf⟩ := ofbind hf
        refine kcV (bs := [W_Model k b0 o0 r34.2.1 r34.2.2 v_saved v_place v_low v_high v_lowBefore v_highBefore v_least v_greatest v_things v_changing v_overLow v_overHigh v_text v_length c29 c30 c33 c32 v_h]) (br := []) (bc := [W_Model k b0 o0 r34.2.1 r34.2.2 v_saved v_place v_low v_high v_lowBefore v_highBefore v_least v_greatest v_things v_changing v_overLow v_overHigh v_text v_length c29 c30 c33 c32 v_h]) (bc' := [W_Model k b0 o0 r35.1 r35.2 v_saved v_place v_low v_high v_lowBefore v_highBefore v_least v_greatest v_things v_changing v_overLow v_overHigh v_text v_length c29 c30 c33 c32 v_h]) X hP hD hS (c_Model_counts l D k t b0 o0 r34.2.1 r34.2.2 v_saved v_place v_low v_high v_lowBefore v_highBefore v_least v_greatest v_things v_changing v_overLow v_overHigh v_text v_length c29 c30 c33 c32 v_h 0 r34.1 j26.toInt64 N r35 hg_r35) mv_X8_116 hl [] [0] 8 ⟨rfl, rfl⟩ ⟨Nat.le_of_ble_eq_true rfl, Nat.le_of_ble_eq_true rfl⟩ rfl rfl rfl rfl rfl rfl rfl (Nat.le_of_ble_eq_true rfl) dX8_readsItem_130 (fun H locs hP hD hS => ?_)
        have hP : va_P D vwCl [W_Model k b0 o0 r35.1 r35.2 v_saved v_place v_low v_high v_lowBefore v_highBefore v_least v_greatest v_things v_changing v_overLow v_overHigh v_text v_length c29 c30 c33 c32 v_h].flatten _ := hP
        have hD : va_D A [W_Model k b0 o0 r35.1 r35.2 v_saved v_place v_low v_high v_lowBefore v_highBefore v_least v_greatest v_things v_changing v_overLow v_overHigh v_text v_length c29 c30 c33 c32 v_h].flatten := hD
        refine lv_iconst (v := 1) hx hb dX8_readsItem_133 (by decide) ?_
        have hf := Option.some.inj hf
        subst hf
        exact kzret (v := 1) X hP hD hS rfl dX8_readsItem_134
      · have hf := ofneg hf hc
        refine lv_iload hx hb dX8_readsItem_116 (lv_at hl 3 rfl) ?_
        refine lv_goto (tgt := 127) hx hb dX8_readsItem_118 (by decide) ?_
        refine lv_iload hx hb dX8_readsItem_127 (lv_at hl 4 rfl) ?_
        refine lv_i2l (v := j26.toInt64) hx hb dX8_readsItem_129 rfl ?_
        obtain ⟨r36, hg_r36, hf⟩ := ofbind hf
        refine kcV (bs := [W_Model k b0 o0 c27 c28 v_saved v_place v_low v_high v_lowBefore v_highBefore v_least v_greatest v_things v_changing v_overLow v_overHigh v_text v_length c29 c30 c33 c32 v_h]) (br := []) (bc := [W_Model k b0 o0 c27 c28 v_saved v_place v_low v_high v_lowBefore v_highBefore v_least v_greatest v_things v_changing v_overLow v_overHigh v_text v_length c29 c30 c33 c32 v_h]) (bc' := [W_Model k b0 o0 r36.1 r36.2 v_saved v_place v_low v_high v_lowBefore v_highBefore v_least v_greatest v_things v_changing v_overLow v_overHigh v_text v_length c29 c30 c33 c32 v_h]) X hP hD hS (c_Model_counts l D k t b0 o0 c27 c28 v_saved v_place v_low v_high v_lowBefore v_highBefore v_least v_greatest v_things v_changing v_overLow v_overHigh v_text v_length c29 c30 c33 c32 v_h 0 j25 j26.toInt64 N r36 hg_r36) mv_X8_116 hl [] [0] 8 ⟨rfl, rfl⟩ ⟨Nat.le_of_ble_eq_true rfl, Nat.le_of_ble_eq_true rfl⟩ rfl rfl rfl rfl rfl rfl rfl (Nat.le_of_ble_eq_true rfl) dX8_readsItem_130 (fun H locs hP hD hS => ?_)
        have hP : va_P D vwCl [W_Model k b0 o0 r36.1 r36.2 v_saved v_place v_low v_high v_lowBefore v_highBefore v_least v_greatest v_things v_changing v_overLow v_overHigh v_text v_length c29 c30 c33 c32 v_h].flatten _ := hP
        have hD : va_D A [W_Model k b0 o0 r36.1 r36.2 v_saved v_place v_low v_high v_lowBefore v_highBefore v_least v_greatest v_things v_changing v_overLow v_overHigh v_text v_length c29 c30 c33 c32 v_h].flatten := hD
        refine lv_iconst (v := 1) hx hb dX8_readsItem_133 (by decide) ?_
        have hf := Option.some.inj hf
        subst hf
        exact kzret (v := 1) X hP hD hS rfl dX8_readsItem_134
  · have hf := ofpos hf hc
    refine lv_iconst (v := 0) hx hb dX8_readsItem_83 (by decide) ?_
    have hf := Option.some.inj hf
    subst hf
    exact kzret (v := 0) X hP hD hS rfl dX8_readsItem_84
set_option maxRecDepth 100000 in
set_option maxHeartbeats 1000000 in
theorem w_Model_readsItem_J40 {p : Program} {l : Launch} {e : Env} {s : State} {m : MethodId} {below : List Frame} {meth : Method} {c : Code} {args : Array Value} {A : Nat → Prop} {D : va_G} {k : Nat → ClassId} {t : Nat → Nat} (X : BX l D k t p s m args meth c cX8_readsItem 7 RX8 (some .boolean) A) (b0 : Nat → Nat) (o0 : Nat) (v_row : FI) (v_number : FJ) (v_saved : Int32) (v_place : FI) (v_low : FJ) (v_high : FJ) (v_lowBefore : FJ) (v_highBefore : FJ) (v_least : FJ) (v_greatest : FJ) (v_things : Int32) (v_changing : Int32) (v_overLow : FJ) (v_overHigh : FJ) (v_text : FI) (v_length : Int32) (v_at : Int32) (v_readKey : FI) (v_readCount : FJ) (v_keys : Int32) (v_h : Int64) (N : Nat) (j12 : Int32) (j13 : Int32) (j14 : Int32) (t15 : Int32) (c16 : FI) (c17 : FJ) (c18 : Int32) (c19 : FI) (c20 : FJ) (c21 : Int32) (out : Int32 × FI × FJ × Int32 × FI × FJ × Int32) : ∀ (H : Heap) (locs : List Loc) (ls : Array Slot), va_P D vwCl [W_Model k b0 o0 c16 c17 v_saved v_place v_low v_high v_lowBefore v_highBefore v_least v_greatest v_things v_changing v_overLow v_overHigh v_text v_length c18 c19 c20 c21 v_h].flatten H → va_D A [W_Model k b0 o0 c16 c17 v_saved v_place v_low v_high v_lowBefore v_highBefore v_least v_greatest v_things v_changing v_overLow v_overHigh v_text v_length c18 c19 c20 c21 v_h].flatten → va_S A s.heap H locs → lv_has ls 7 [(0, .ref (b0 o0)), (1, .int j12), (3, .int j13), (4, .int j14)] → f_Model_readsItem_J40 N j12 j13 j14 t15 c16 c17 c18 c19 c20 c21 v_text v_length = some out → W p l e rm_Model_readsItem s m args below meth c H locs 0 0 (Q_Model_readsItem below D k A args s b0 o0 v_row v_number v_saved v_place v_low v_high v_lowBefore v_highBefore v_least v_greatest v_things v_changing v_overLow v_overHigh v_text v_length v_at v_readKey v_readCount v_keys v_h out) (F0 m 40 ls [.int t15]) := by
  have hx := X.1.1
  have hb := X.1.2.1
  have hml := X.1.2.2.1
  have hown := X.1.2.2.2.1
  have hts := X.1.2.2.2.2
  intro H locs ls hP hD hS hl hf
  rw [f_Model_readsItem_J40] at hf
  refine lv_istore (lv' := [(5, .int t15), (0, .ref (b0 o0)), (1, .int j12), (3, .int j13), (4, .int j14)]) hx hb dX8_readsItem_40 hl (by decide) rfl (fun ls hl => ?_)
  refine lv_iload hx hb dX8_readsItem_42 (lv_at hl 0 rfl) ?_
  refine lv_iconst (v := (-1)) hx hb dX8_readsItem_44 (by decide) ?_
  refine lv_icmp_ne (tgt := 55) hx hb dX8_readsItem_45 (by decide) (fun hc => ?_) (fun hc => ?_)
  · have hf := ofneg hf hc
    refine lv_iconst (v := 1) hx hb dX8_readsItem_55 (by decide) ?_
    refine lv_istore (lv' := [(6, .int 1), (5, .int t15), (0, .ref (b0 o0)), (1, .int j12), (3, .int j13), (4, .int j14)]) hx hb dX8_readsItem_56 hl (by decide) rfl (fun ls hl => ?_)
    refine lv_aload_n hx hb dX8_readsItem_58 rfl (lv_at hl 2 rfl) ?_
    refine lv_bipush (v := 43) hx hb dX8_readsItem_59 (by decide) ?_
    obtain ⟨r22, hg_r22, hf⟩ := ofbind hf
    refine kcV (bs := [W_Model k b0 o0 c16 c17 v_saved v_place v_low v_high v_lowBefore v_highBefore v_least v_greatest v_things v_changing v_overLow v_overHigh v_text v_length c18 c19 c20 c21 v_h]) (br := []) (bc := [W_Model k b0 o0 c16 c17 v_saved v_place v_low v_high v_lowBefore v_highBefore v_least v_greatest v_things v_changing v_overLow v_overHigh v_text v_length c18 c19 c20 c21 v_h]) (bc' := [W_Model k b0 o0 c16 c17 v_saved v_place v_low v_high v_lowBefore v_highBefore v_least v_greatest v_things v_changing v_overLow v_overHigh v_text v_length r22.2 c19 c20 c21 v_h]) X hP hD hS (c_Model_sign l D k t b0 o0 c16 c17 v_saved v_place v_low v_high v_lowBefore v_highBefore v_least v_greatest v_things v_changing v_overLow v_overHigh v_text v_length c18 c19 c20 c21 v_h 43 N r22 hg_r22) mv_X8_193 hl [] [0] 8 ⟨rfl, rfl⟩ ⟨Nat.le_of_ble_eq_true rfl, Nat.le_of_ble_eq_true rfl⟩ rfl rfl rfl rfl rfl rfl rfl (Nat.le_of_ble_eq_true rfl) dX8_readsItem_61 (fun H locs hP hD hS => ?_)
    have hP : va_P D vwCl [W_Model k b0 o0 c16 c17 v_saved v_place v_low v_high v_lowBefore v_highBefore v_least v_greatest v_things v_changing v_overLow v_overHigh v_text v_length r22.2 c19 c20 c21 v_h].flatten _ := hP
    have hD : va_D A [W_Model k b0 o0 c16 c17 v_saved v_place v_low v_high v_lowBefore v_highBefore v_least v_greatest v_things v_changing v_overLow v_overHigh v_text v_length r22.2 c19 c20 c21 v_h].flatten := hD
    refine lv_if_eq (tgt := 77) hx hb dX8_readsItem_64 (by decide) (fun hc => ?_) (fun hc => ?_)
    · have hf := ofpos hf hc
      exact w_Model_readsItem_J77 X b0 o0 v_row v_number v_saved v_place v_low v_high v_lowBefore v_highBefore v_least v_greatest v_things v_changing v_overLow v_overHigh v_text v_length v_at v_readKey v_readCount v_keys v_h N j12 j14 t15 1 c16 c17 r22.2 c19 c20 c21 out _ _ _ hP hD hS (lv_sub hl [2, 3, 5, 1, 0] rfl) hf
    · have hf := ofneg hf hc
      refine lv_aload_n hx hb dX8_readsItem_67 rfl (lv_at hl 2 rfl) ?_
      refine lv_iconst (v := 1) hx hb dX8_readsItem_68 (by decide) ?_
      refine lv_sipush (v := 9999) hx hb dX8_readsItem_69 (by decide) ?_
      obtain ⟨r37, hg_r37, hf⟩ := ofbind hf
      refine kcV (bs := [W_Model k b0 o0 c16 c17 v_saved v_place v_low v_high v_lowBefore v_highBefore v_least v_greatest v_things v_changing v_overLow v_overHigh v_text v_length r22.2 c19 c20 c21 v_h]) (br := []) (bc := [W_Model k b0 o0 c16 c17 v_saved v_place v_low v_high v_lowBefore v_highBefore v_least v_greatest v_things v_changing v_overLow v_overHigh v_text v_length r22.2 c19 c20 c21 v_h]) (bc' := [W_Model k b0 o0 c16 c17 v_saved v_place v_low v_high v_lowBefore v_highBefore v_least v_greatest v_things v_changing v_overLow v_overHigh v_text v_length r37.2 c19 c20 c21 v_h]) X hP hD hS (c_Model_reads l D k t b0 o0 c16 c17 v_saved v_place v_low v_high v_lowBefore v_highBefore v_least v_greatest v_things v_changing v_overLow v_overHigh v_text v_length r22.2 c19 c20 c21 v_h 1 9999 N r37 hg_r37) mv_X8_187 hl [] [0] 8 ⟨rfl, rfl⟩ ⟨Nat.le_of_ble_eq_true rfl, Nat.le_of_ble_eq_true rfl⟩ rfl rfl rfl rfl rfl rfl rfl (Nat.le_of_ble_eq_true rfl) dX8_readsItem_72 (fun H locs hP hD hS => ?_)
      have hP : va_P D vwCl [W_Model k b0 o0 c16 c17 v_saved v_place v_low v_high v_lowBefore v_highBefore v_least v_greatest v_things v_changing v_overLow v_overHigh v_text v_length r37.2 c19 c20 c21 v_h].flatten _ := hP
      have hD : va_D A [W_Model k b0 o0 c16 c17 v_saved v_place v_low v_high v_lowBefore v_highBefore v_least v_greatest v_things v_changing v_overLow v_overHigh v_text v_length r37.2 c19 c20 c21 v_h].flatten := hD
      refine lv_istore (lv' := [(6, .int r37.1), (5, .int t15), (0, .ref (b0 o0)), (1, .int j12), (3, .int j13), (4, .int j14)]) hx hb dX8_readsItem_75 hl (by decide) rfl (fun ls hl => ?_)
      exact w_Model_readsItem_J77 X b0 o0 v_row v_number v_saved v_place v_low v_high v_lowBefore v_highBefore v_least v_greatest v_things v_changing v_overLow v_overHigh v_text v_length v_at v_readKey v_readCount v_keys v_h N j12 j14 t15 r37.1 c16 c17 r37.2 c19 c20 c21 out _ _ _ hP hD hS (lv_sub hl [2, 3, 5, 1, 0] rfl) hf
  · have hf := ofpos hf hc
    refine lv_aload_n hx hb dX8_readsItem_48 rfl (lv_at hl 1 rfl) ?_
    refine lv_iload_n hx hb dX8_readsItem_49 rfl (lv_at hl 3 rfl) ?_
    refine kputi (v := j13) X hP hD hS fp_X8_178 0 rfl (Nat.le_of_ble_eq_true rfl) dX8_readsItem_50 (fun H locs hP hD hS => ?_)
    have hP : va_P D vwCl [W_Model k b0 o0 c16 c17 v_saved v_place v_low v_high v_lowBefore v_highBefore v_least v_greatest v_things v_changing v_overLow v_overHigh v_text v_length j13 c19 c20 c21 v_h].flatten _ := hP
    have hD : va_D A [W_Model k b0 o0 c16 c17 v_saved v_place v_low v_high v_lowBefore v_highBefore v_least v_greatest v_things v_changing v_overLow v_overHigh v_text v_length j13 c19 c20 c21 v_h].flatten := hD
    refine lv_iconst (v := 0) hx hb dX8_readsItem_53 (by decide) ?_
    have hf := Option.some.inj hf
    subst hf
    exact kzret (v := 0) X hP hD hS rfl dX8_readsItem_54
set_option maxRecDepth 100000 in
set_option maxHeartbeats 1000000 in
theorem w_Model_readsItem_J30 {p : Program} {l : Launch} {e : Env} {s : State} {m : MethodId} {below : List Frame} {meth : Method} {c : Code} {args : Array Value} {A : Nat → Prop} {D : va_G} {k : Nat → ClassId} {t : Nat → Nat} (X : BX l D k t p s m args meth c cX8_readsItem 7 RX8 (some .boolean) A) (b0 : Nat → Nat) (o0 : Nat) (v_row : FI) (v_number : FJ) (v_saved : Int32) (v_place : FI) (v_low : FJ) (v_high : FJ) (v_lowBefore : FJ) (v_highBefore : FJ) (v_least : FJ) (v_greatest : FJ) (v_things : Int32) (v_changing : Int32) (v_overLow : FJ) (v_overHigh : FJ) (v_text : FI) (v_length : Int32) (v_at : Int32) (v_readKey : FI) (v_readCount : FJ) (v_keys : Int32) (v_h : Int64) (N : Nat) (j3 : Int32) (j4 : Int32) (j5 : Int32) (c6 : FI) (c7 : FJ) (c8 : Int32) (c9 : FI) (c10 : FJ) (c11 : Int32) (out : Int32 × FI × FJ × Int32 × FI × FJ × Int32) : ∀ (H : Heap) (locs : List Loc) (ls : Array Slot), va_P D vwCl [W_Model k b0 o0 c6 c7 v_saved v_place v_low v_high v_lowBefore v_highBefore v_least v_greatest v_things v_changing v_overLow v_overHigh v_text v_length c8 c9 c10 c11 v_h].flatten H → va_D A [W_Model k b0 o0 c6 c7 v_saved v_place v_low v_high v_lowBefore v_highBefore v_least v_greatest v_things v_changing v_overLow v_overHigh v_text v_length c8 c9 c10 c11 v_h].flatten → va_S A s.heap H locs → lv_has ls 7 [(0, .ref (b0 o0)), (1, .int j3), (3, .int j4), (4, .int j5)] → f_Model_readsItem_J30 N j3 j4 j5 c6 c7 c8 c9 c10 c11 v_text v_length = some out → W p l e rm_Model_readsItem s m args below meth c H locs 0 0 (Q_Model_readsItem below D k A args s b0 o0 v_row v_number v_saved v_place v_low v_high v_lowBefore v_highBefore v_least v_greatest v_things v_changing v_overLow v_overHigh v_text v_length v_at v_readKey v_readCount v_keys v_h out) (F0 m 30 ls []) := by
  have hx := X.1.1
  have hb := X.1.2.1
  have hml := X.1.2.2.1
  have hown := X.1.2.2.2.1
  have hts := X.1.2.2.2.2
  intro H locs ls hP hD hS hl hf
  rw [f_Model_readsItem_J30] at hf
  refine lv_iconst (v := (-1)) hx hb dX8_readsItem_30 (by decide) ?_
  refine lv_goto (tgt := 40) hx hb dX8_readsItem_31 (by decide) ?_
  exact w_Model_readsItem_J40 X b0 o0 v_row v_number v_saved v_place v_low v_high v_lowBefore v_highBefore v_least v_greatest v_things v_changing v_overLow v_overHigh v_text v_length v_at v_readKey v_readCount v_keys v_h N j3 j4 j5 (-1) c6 c7 c8 c9 c10 c11 out _ _ _ hP hD hS (lv_sub hl [0, 1, 2, 3] rfl) hf
set_option maxRecDepth 100000 in
set_option maxHeartbeats 1000000 in
theorem c_Model_readsItem (l : Launch) (D : va_G) (k : Nat → ClassId) (t : Nat → Nat) (b0 : Nat → Nat) (o0 : Nat) (v_row : FI) (v_number : FJ) (v_saved : Int32) (v_place : FI) (v_low : FJ) (v_high : FJ) (v_lowBefore : FJ) (v_highBefore : FJ) (v_least : FJ) (v_greatest : FJ) (v_things : Int32) (v_changing : Int32) (v_overLow : FJ) (v_overHigh : FJ) (v_text : FI) (v_length : Int32) (v_at : Int32) (v_readKey : FI) (v_readCount : FJ) (v_keys : Int32) (v_h : Int64) (x1 : Int32) (N : Nat) (out : Int32 × FI × FJ × Int32 × FI × FJ × Int32) (hf : f_Model_readsItem N x1 v_row v_number v_text v_length v_at v_readKey v_readCount v_keys = some out) : CT l D k t yX8_readsItem cX8_readsItem 7 (some .boolean) rm_Model_readsItem [.ref (b0 o0), .int x1] [W_Model k b0 o0 v_row v_number v_saved v_place v_low v_high v_lowBefore v_highBefore v_least v_greatest v_things v_changing v_overLow v_overHigh v_text v_length v_at v_readKey v_readCount v_keys v_h].flatten (some (.int out.1)) [W_Model k b0 o0 out.2.1 out.2.2.1 v_saved v_place v_low v_high v_lowBefore v_highBefore v_least v_greatest v_things v_changing v_overLow v_overHigh v_text v_length out.2.2.2.1 out.2.2.2.2.1 out.2.2.2.2.2.1 out.2.2.2.2.2.2 v_h].flatten := by
  refine kofW (by decide) (Nat.le_of_ble_eq_true rfl) ?_
  intro p e s m below meth c A ls X hP hD hS hl
  have hx := X.1.1
  have hb := X.1.2.1
  have hml := X.1.2.2.1
  have hown := X.1.2.2.2.1
  have hts := X.1.2.2.2.2
  have hl : lv_has ls 7 [(0, .ref (b0 o0)), (1, .int x1)] := hl
  rw [f_Model_readsItem] at hf
  refine lv_aload_n hx hb dX8_readsItem_0 rfl (lv_at hl 0 rfl) ?_
  obtain ⟨r1, hg_r1, hf⟩ := ofbind hf
  refine kcV (bs := [W_Model k b0 o0 v_row v_number v_saved v_place v_low v_high v_lowBefore v_highBefore v_least v_greatest v_things v_changing v_overLow v_overHigh v_text v_length v_at v_readKey v_readCount v_keys v_h]) (br := []) (bc := [W_Model k b0 o0 v_row v_number v_saved v_place v_low v_high v_lowBefore v_highBefore v_least v_greatest v_things v_changing v_overLow v_overHigh v_text v_length v_at v_readKey v_readCount v_keys v_h]) (bc' := [W_Model k b0 o0 v_row v_number v_saved v_place v_low v_high v_lowBefore v_highBefore v_least v_greatest v_things v_changing v_overLow v_overHigh v_text v_length r1.2 v_readKey v_readCount v_keys v_h]) X hP hD hS (c_Model_here l D k t b0 o0 v_row v_number v_saved v_place v_low v_high v_lowBefore v_highBefore v_least v_greatest v_things v_changing v_overLow v_overHigh v_text v_length v_at v_readKey v_readCount v_keys v_h N r1 hg_r1) mv_X8_181 hl [] [0] 8 ⟨rfl, rfl⟩ ⟨Nat.le_of_ble_eq_true rfl, Nat.le_of_ble_eq_true rfl⟩ rfl rfl rfl rfl rfl rfl rfl (Nat.le_of_ble_eq_true rfl) dX8_readsItem_1 (fun H locs hP hD hS => ?_)
  have hP : va_P D vwCl [W_Model k b0 o0 v_row v_number v_saved v_place v_low v_high v_lowBefore v_highBefore v_least v_greatest v_things v_changing v_overLow v_overHigh v_text v_length r1.2 v_readKey v_readCount v_keys v_h].flatten _ := hP
  have hD : va_D A [W_Model k b0 o0 v_row v_number v_saved v_place v_low v_high v_lowBefore v_highBefore v_least v_greatest v_things v_changing v_overLow v_overHigh v_text v_length r1.2 v_readKey v_readCount v_keys v_h].flatten := hD
  refine lv_istore_n (lv' := [(2, .int r1.1), (0, .ref (b0 o0)), (1, .int x1)]) hx hb dX8_readsItem_4 rfl hl (by decide) rfl (fun ls hl => ?_)
  refine lv_aload_n hx hb dX8_readsItem_5 rfl (lv_at hl 1 rfl) ?_
  refine kget (v := .int r1.2) X hP ff_X8_178 0 rfl rfl dX8_readsItem_6 ?_
  refine lv_istore_n (lv' := [(3, .int r1.2), (2, .int r1.1), (0, .ref (b0 o0)), (1, .int x1)]) hx hb dX8_readsItem_9 rfl hl (by decide) rfl (fun ls hl => ?_)
  refine lv_aload_n hx hb dX8_readsItem_10 rfl (lv_at hl 2 rfl) ?_
  refine lv_iconst (v := 0) hx hb dX8_readsItem_11 (by decide) ?_
  refine lv_sipush (v := 999) hx hb dX8_readsItem_12 (by decide) ?_
  obtain ⟨r2, hg_r2, hf⟩ := ofbind hf
  refine kcV (bs := [W_Model k b0 o0 v_row v_number v_saved v_place v_low v_high v_lowBefore v_highBefore v_least v_greatest v_things v_changing v_overLow v_overHigh v_text v_length r1.2 v_readKey v_readCount v_keys v_h]) (br := []) (bc := [W_Model k b0 o0 v_row v_number v_saved v_place v_low v_high v_lowBefore v_highBefore v_least v_greatest v_things v_changing v_overLow v_overHigh v_text v_length r1.2 v_readKey v_readCount v_keys v_h]) (bc' := [W_Model k b0 o0 v_row v_number v_saved v_place v_low v_high v_lowBefore v_highBefore v_least v_greatest v_things v_changing v_overLow v_overHigh v_text v_length r2.2 v_readKey v_readCount v_keys v_h]) X hP hD hS (c_Model_reads l D k t b0 o0 v_row v_number v_saved v_place v_low v_high v_lowBefore v_highBefore v_least v_greatest v_things v_changing v_overLow v_overHigh v_text v_length r1.2 v_readKey v_readCount v_keys v_h 0 999 N r2 hg_r2) mv_X8_187 hl [] [0] 8 ⟨rfl, rfl⟩ ⟨Nat.le_of_ble_eq_true rfl, Nat.le_of_ble_eq_true rfl⟩ rfl rfl rfl rfl rfl rfl rfl (Nat.le_of_ble_eq_true rfl) dX8_readsItem_15 (fun H locs hP hD hS => ?_)
  have hP : va_P D vwCl [W_Model k b0 o0 v_row v_number v_saved v_place v_low v_high v_lowBefore v_highBefore v_least v_greatest v_things v_changing v_overLow v_overHigh v_text v_length r2.2 v_readKey v_readCount v_keys v_h].flatten _ := hP
  have hD : va_D A [W_Model k b0 o0 v_row v_number v_saved v_place v_low v_high v_lowBefore v_highBefore v_least v_greatest v_things v_changing v_overLow v_overHigh v_text v_length r2.2 v_readKey v_readCount v_keys v_h].flatten := hD
  refine lv_istore (lv' := [(4, .int r2.1), (3, .int r1.2), (2, .int r1.1), (0, .ref (b0 o0)), (1, .int x1)]) hx hb dX8_readsItem_18 hl (by decide) rfl (fun ls hl => ?_)
  refine lv_iload_n hx hb dX8_readsItem_20 rfl (lv_at hl 2 rfl) ?_
  refine lv_if_lt (tgt := 30) hx hb dX8_readsItem_21 (by decide) (fun hc => ?_) (fun hc => ?_)
  · have hf := ofpos hf hc
    exact w_Model_readsItem_J30 X b0 o0 v_row v_number v_saved v_place v_low v_high v_lowBefore v_highBefore v_least v_greatest v_things v_changing v_overLow v_overHigh v_text v_length v_at v_readKey v_readCount v_keys v_h N x1 r1.2 r2.1 v_row v_number r2.2 v_readKey v_readCount v_keys out _ _ _ hP hD hS (lv_sub hl [3, 4, 1, 0] rfl) hf
  · have hf := ofneg hf hc
    refine lv_iload hx hb dX8_readsItem_24 (lv_at hl 0 rfl) ?_
    refine lv_iconst (v := (-1)) hx hb dX8_readsItem_26 (by decide) ?_
    refine lv_icmp_ne (tgt := 34) hx hb dX8_readsItem_27 (by decide) (fun hc => ?_) (fun hc => ?_)
    · have hf := ofneg hf hc
      refine lv_aload_n hx hb dX8_readsItem_34 rfl (lv_at hl 3 rfl) ?_
      refine lv_iload hx hb dX8_readsItem_35 (lv_at hl 0 rfl) ?_
      obtain ⟨r38, hg_r38, hf⟩ := ofbind hf
      refine kcV (bs := [W_Model k b0 o0 v_row v_number v_saved v_place v_low v_high v_lowBefore v_highBefore v_least v_greatest v_things v_changing v_overLow v_overHigh v_text v_length r2.2 v_readKey v_readCount v_keys v_h]) (br := []) (bc := [W_Model k b0 o0 v_row v_number v_saved v_place v_low v_high v_lowBefore v_highBefore v_least v_greatest v_things v_changing v_overLow v_overHigh v_text v_length r2.2 v_readKey v_readCount v_keys v_h]) (bc' := [W_Model k b0 o0 v_row v_number v_saved v_place v_low v_high v_lowBefore v_highBefore v_least v_greatest v_things v_changing v_overLow v_overHigh v_text v_length r2.2 r38.2.1 r38.2.2.1 r38.2.2.2 v_h]) X hP hD hS (c_Model_readAt l D k t b0 o0 v_row v_number v_saved v_place v_low v_high v_lowBefore v_highBefore v_least v_greatest v_things v_changing v_overLow v_overHigh v_text v_length r2.2 v_readKey v_readCount v_keys v_h r2.1 N r38 hg_r38) mv_X8_190 hl [] [0] 8 ⟨rfl, rfl⟩ ⟨Nat.le_of_ble_eq_true rfl, Nat.le_of_ble_eq_true rfl⟩ rfl rfl rfl rfl rfl rfl rfl (Nat.le_of_ble_eq_true rfl) dX8_readsItem_37 (fun H locs hP hD hS => ?_)
      have hP : va_P D vwCl [W_Model k b0 o0 v_row v_number v_saved v_place v_low v_high v_lowBefore v_highBefore v_least v_greatest v_things v_changing v_overLow v_overHigh v_text v_length r2.2 r38.2.1 r38.2.2.1 r38.2.2.2 v_h].flatten _ := hP
      have hD : va_D A [W_Model k b0 o0 v_row v_number v_saved v_place v_low v_high v_lowBefore v_highBefore v_least v_greatest v_things v_changing v_overLow v_overHigh v_text v_length r2.2 r38.2.1 r38.2.2.1 r38.2.2.2 v_h].flatten := hD
      exact w_Model_readsItem_J40 X b0 o0 v_row v_number v_saved v_place v_low v_high v_lowBefore v_highBefore v_least v_greatest v_things v_changing v_overLow v_overHigh v_text v_length v_at v_readKey v_readCount v_keys v_h N x1 r1.2 r2.1 r38.1 v_row v_number r2.2 r38.2.1 r38.2.2.1 r38.2.2.2 out _ _ _ hP hD hS (lv_sub hl [3, 4, 1, 0] rfl) hf
    · have hf := ofpos hf hc
      exact w_Model_readsItem_J30 X b0 o0 v_row v_number v_saved v_place v_low v_high v_lowBefore v_highBefore v_least v_greatest v_things v_changing v_overLow v_overHigh v_text v_length v_at v_readKey v_readCount v_keys v_h N x1 r1.2 r2.1 v_row v_number r2.2 v_readKey v_readCount v_keys out _ _ _ hP hD hS (lv_sub hl [3, 4, 1, 0] rfl) hf
