/-! Model_grows: private boolean grows(int, int, long); -/
abbrev rm_Model_grows : Room := ({ frames := 1, cells := 0, slots := 0, locals := 25 } : Room)
def f_Model_grows_L52 (N : Nat) (i5 : Int32) (i6 : Int32) (i7 : Int64) (c9 : FI) (K107 : Int32 → FJ → Option (Int32 × FI × FJ)) : Nat → Int32 → FJ → Option (Int32 × FI × FJ)
  | 0, _, _ => none
  | n + 1, i8, c10 => if ck 3 1002 = true then if (c9 (3 : Int32).toNatClampNeg) ≤ i8 then K107 i8 c10 else if ck (((32 * i5) + 16) + i8) 576 = true then (f_Model_placesUp N i6 c9).bind (fun r11 => if ((r11 >>> (i8 &&& 31)) &&& 1) = 1 then if ck (((32 * i5) + 16) + i8) 576 = true then f_Model_grows_L52 N i5 i6 i7 c9 K107 n (i8 + 1) (vp_updL c10 (((32 * i5) + 16) + i8).toNatClampNeg ((c10 (((32 * i5) + 16) + i8).toNatClampNeg) + i7)) else none else if ck (((32 * i5) + 16) + i8) 576 = true then f_Model_grows_L52 N i5 i6 i7 c9 K107 n (i8 + 1) (vp_updL c10 (((32 * i5) + 16) + i8).toNatClampNeg ((c10 (((32 * i5) + 16) + i8).toNatClampNeg) + 0)) else none) else none else none
def f_Model_grows (N : Nat) (x1 : Int32) (x2 : Int32) (x3 : Int64) (v_row : FI) (v_number : FJ) : Option (Int32 × FI × FJ) := (f_Model_restAt x1 x2 v_row).bind (fun r1 => if ck 1 1002 = true then if ck 1 1002 = true then if ck ((23 + (48 * x1)) + x2) 1002 = true then f_Model_grows_L52 N x1 x2 ((r1.toInt64 + x3) >>> ((v_row (1 : Int32).toNatClampNeg).toInt64 &&& 63)) (upd v_row ((23 + (48 * x1)) + x2).toNatClampNeg (((r1.toInt64 + x3) - (((r1.toInt64 + x3) >>> ((v_row (1 : Int32).toNatClampNeg).toInt64 &&& 63)) <<< ((v_row (1 : Int32).toNatClampNeg).toInt64 &&& 63))).toInt32)) (fun i14 c15 => if ((r1.toInt64 + x3) >>> ((v_row (1 : Int32).toNatClampNeg).toInt64 &&& 63)) ≤ 0 then if ((r1.toInt64 + x3) >>> ((v_row (1 : Int32).toNatClampNeg).toInt64 &&& 63)) ≤ 0 then some (0, (upd v_row ((23 + (48 * x1)) + x2).toNatClampNeg (((r1.toInt64 + x3) - (((r1.toInt64 + x3) >>> ((v_row (1 : Int32).toNatClampNeg).toInt64 &&& 63)) <<< ((v_row (1 : Int32).toNatClampNeg).toInt64 &&& 63))).toInt32)), c15) else some (1, (upd v_row ((23 + (48 * x1)) + x2).toNatClampNeg (((r1.toInt64 + x3) - (((r1.toInt64 + x3) >>> ((v_row (1 : Int32).toNatClampNeg).toInt64 &&& 63)) <<< ((v_row (1 : Int32).toNatClampNeg).toInt64 &&& 63))).toInt32)), c15) else if ck (((23 + (48 * x1)) + 24) + x2) 1002 = true then if ((r1.toInt64 + x3) >>> ((v_row (1 : Int32).toNatClampNeg).toInt64 &&& 63)) ≤ 0 then some (0, (upd (upd v_row ((23 + (48 * x1)) + x2).toNatClampNeg (((r1.toInt64 + x3) - (((r1.toInt64 + x3) >>> ((v_row (1 : Int32).toNatClampNeg).toInt64 &&& 63)) <<< ((v_row (1 : Int32).toNatClampNeg).toInt64 &&& 63))).toInt32)) (((23 + (48 * x1)) + 24) + x2).toNatClampNeg 1), c15) else some (1, (upd (upd v_row ((23 + (48 * x1)) + x2).toNatClampNeg (((r1.toInt64 + x3) - (((r1.toInt64 + x3) >>> ((v_row (1 : Int32).toNatClampNeg).toInt64 &&& 63)) <<< ((v_row (1 : Int32).toNatClampNeg).toInt64 &&& 63))).toInt32)) (((23 + (48 * x1)) + 24) + x2).toNatClampNeg 1), c15) else none) N 0 v_number else none else none else none)
abbrev Q_Model_grows (below : List Frame) (D : va_G) (k : Nat → ClassId) (A : Nat → Prop) (args : Array Value) (s : State) (b0 : Nat → Nat) (o0 : Nat) (v_row : FI) (v_number : FJ) (v_saved : Int32) (v_place : FI) (v_low : FJ) (v_high : FJ) (v_lowBefore : FJ) (v_highBefore : FJ) (v_least : FJ) (v_greatest : FJ) (v_things : Int32) (v_changing : Int32) (v_overLow : FJ) (v_overHigh : FJ) (v_text : FI) (v_length : Int32) (v_at : Int32) (v_readKey : FI) (v_readCount : FJ) (v_keys : Int32) (v_h : Int64) (out : Int32 × FI × FJ) : State → Prop := MQ below (QW D k A (some (.int out.1)) [W_Model k b0 o0 out.2.1 out.2.2 v_saved v_place v_low v_high v_lowBefore v_highBefore v_least v_greatest v_things v_changing v_overLow v_overHigh v_text v_length v_at v_readKey v_readCount v_keys v_h].flatten) args s 0 0 A
set_option maxRecDepth 100000 in
set_option maxHeartbeats 1000000 in
theorem w_Model_grows_L52 {p : Program} {l : Launch} {e : Env} {s : State} {m : MethodId} {below : List Frame} {meth : Method} {c : Code} {args : Array Value} {A : Nat → Prop} {D : va_G} {k : Nat → ClassId} {t : Nat → Nat} (X : BX l D k t p s m args meth c cX8_grows 10 RX8 (some .boolean) A) (b0 : Nat → Nat) (o0 : Nat) (v_row : FI) (v_number : FJ) (v_saved : Int32) (v_place : FI) (v_low : FJ) (v_high : FJ) (v_lowBefore : FJ) (v_highBefore : FJ) (v_least : FJ) (v_greatest : FJ) (v_things : Int32) (v_changing : Int32) (v_overLow : FJ) (v_overHigh : FJ) (v_text : FI) (v_length : Int32) (v_at : Int32) (v_readKey : FI) (v_readCount : FJ) (v_keys : Int32) (v_h : Int64) (N : Nat) (i5 : Int32) (i6 : Int32) (i7 : Int64) (c9 : FI) (out : Int32 × FI × FJ) (K107 : Int32 → FJ → Option (Int32 × FI × FJ)) (hK107 : ∀ (i8' : Int32) (c10' : FJ) (H : Heap) (locs : List Loc) (ls : Array Slot), va_P D vwCl [W_Model k b0 o0 c9 c10' v_saved v_place v_low v_high v_lowBefore v_highBefore v_least v_greatest v_things v_changing v_overLow v_overHigh v_text v_length v_at v_readKey v_readCount v_keys v_h].flatten H → va_D A [W_Model k b0 o0 c9 c10' v_saved v_place v_low v_high v_lowBefore v_highBefore v_least v_greatest v_things v_changing v_overLow v_overHigh v_text v_length v_at v_readKey v_readCount v_keys v_h].flatten → va_S A s.heap H locs → lv_has ls 10 [(0, .ref (b0 o0)), (1, .int i5), (2, .int i6), (7, .long i7)] → K107 i8' c10' = some out → W p l e rm_Model_grows s m args below meth c H locs 0 0 (Q_Model_grows below D k A args s b0 o0 v_row v_number v_saved v_place v_low v_high v_lowBefore v_highBefore v_least v_greatest v_things v_changing v_overLow v_overHigh v_text v_length v_at v_readKey v_readCount v_keys v_h out) (F0 m 107 ls [])) : ∀ (n : Nat) (i8 : Int32) (c10 : FJ) (H : Heap) (locs : List Loc) (ls : Array Slot), va_P D vwCl [W_Model k b0 o0 c9 c10 v_saved v_place v_low v_high v_lowBefore v_highBefore v_least v_greatest v_things v_changing v_overLow v_overHigh v_text v_length v_at v_readKey v_readCount v_keys v_h].flatten H → va_D A [W_Model k b0 o0 c9 c10 v_saved v_place v_low v_high v_lowBefore v_highBefore v_least v_greatest v_things v_changing v_overLow v_overHigh v_text v_length v_at v_readKey v_readCount v_keys v_h].flatten → va_S A s.heap H locs → lv_has ls 10 [(0, .ref (b0 o0)), (1, .int i5), (2, .int i6), (7, .long i7), (9, .int i8)] → f_Model_grows_L52 N i5 i6 i7 c9 K107 n i8 c10 = some out → W p l e rm_Model_grows s m args below meth c H locs 0 0 (Q_Model_grows below D k A args s b0 o0 v_row v_number v_saved v_place v_low v_high v_lowBefore v_highBefore v_least v_greatest v_things v_changing v_overLow v_overHigh v_text v_length v_at v_readKey v_readCount v_keys v_h out) (F0 m 52 ls []) := by
  have hx := X.1.1
  have hb := X.1.2.1
  have hml := X.1.2.2.1
  have hown := X.1.2.2.2.1
  have hts := X.1.2.2.2.2
  intro n
  induction n with
  | zero =>
    intro i8 c10 H locs ls hP hD hS hl hf
    rw [f_Model_grows_L52] at hf
    cases hf
  | succ n ih =>
    intro i8 c10 H locs ls hP hD hS hl hf
    rw [f_Model_grows_L52] at hf
    refine lv_iload hx hb dX8_grows_52 (lv_at hl 4 rfl) ?_
    refine lv_aload_n hx hb dX8_grows_54 rfl (lv_at hl 0 rfl) ?_
    refine kget (v := .ref (b0 (o0+1))) X hP ff_X8_7 0 rfl rfl dX8_grows_55 ?_
    refine lv_iconst (v := 3) hx hb dX8_grows_58 (by decide) ?_
    obtain ⟨hc, hf⟩ := ofck hf
    refine kiald (f := c9) (n := 1002) X hP 1 rfl hc dX8_grows_59 ?_
    refine lv_icmp_ge (tgt := 107) hx hb dX8_grows_60 (by decide) (fun hc => ?_) (fun hc => ?_)
    · have hf := ofpos hf hc
      exact hK107 i8 c10 _ _ _ hP hD hS (lv_sub hl [0, 1, 2, 3] rfl) hf
    · have hf := ofneg hf hc
      refine lv_aload_n hx hb dX8_grows_63 rfl (lv_at hl 0 rfl) ?_
      refine kget (v := .ref (b0 (o0+2))) X hP ff_X8_13 0 rfl rfl dX8_grows_64 ?_
      refine lv_bipush (v := 32) hx hb dX8_grows_67 (by decide) ?_
      refine lv_iload_n hx hb dX8_grows_69 rfl (lv_at hl 1 rfl) ?_
      refine lv_imul hx hb dX8_grows_70 ?_
      refine lv_bipush (v := 16) hx hb dX8_grows_71 (by decide) ?_
      refine lv_iadd hx hb dX8_grows_73 ?_
      refine lv_iload hx hb dX8_grows_74 (lv_at hl 4 rfl) ?_
      refine lv_iadd hx hb dX8_grows_76 ?_
      refine lv_dup2_11 hx hb dX8_grows_77 rfl rfl ?_
      obtain ⟨hc, hf⟩ := ofck hf
      refine klald (f := c10) (n := 576) X hP 2 rfl hc dX8_grows_78 ?_
      refine lv_aload_n hx hb dX8_grows_79 rfl (lv_at hl 0 rfl) ?_
      refine lv_iload_n hx hb dX8_grows_80 rfl (lv_at hl 2 rfl) ?_
      obtain ⟨r11, hg_r11, hf⟩ := ofbind hf
      refine kcV (bs := [W_Model k b0 o0 c9 c10 v_saved v_place v_low v_high v_lowBefore v_highBefore v_least v_greatest v_things v_changing v_overLow v_overHigh v_text v_length v_at v_readKey v_readCount v_keys v_h]) (br := []) (bc := [W_Model k b0 o0 c9 c10 v_saved v_place v_low v_high v_lowBefore v_highBefore v_least v_greatest v_things v_changing v_overLow v_overHigh v_text v_length v_at v_readKey v_readCount v_keys v_h]) (bc' := [W_Model k b0 o0 c9 c10 v_saved v_place v_low v_high v_lowBefore v_highBefore v_least v_greatest v_things v_changing v_overLow v_overHigh v_text v_length v_at v_readKey v_readCount v_keys v_h]) X hP hD hS (c_Model_placesUp l D k t b0 o0 c9 c10 v_saved v_place v_low v_high v_lowBefore v_highBefore v_least v_greatest v_things v_changing v_overLow v_overHigh v_text v_length v_at v_readKey v_readCount v_keys v_h i6 N r11 hg_r11) mv_X8_89 hl [] [0] 8 ⟨rfl, rfl⟩ ⟨Nat.le_of_ble_eq_true rfl, Nat.le_of_ble_eq_true rfl⟩ rfl rfl rfl rfl rfl rfl rfl (Nat.le_of_ble_eq_true rfl) dX8_grows_81 (fun H locs hP hD hS => ?_)
      have hP : va_P D vwCl [W_Model k b0 o0 c9 c10 v_saved v_place v_low v_high v_lowBefore v_highBefore v_least v_greatest v_things v_changing v_overLow v_overHigh v_text v_length v_at v_readKey v_readCount v_keys v_h].flatten _ := hP
      have hD : va_D A [W_Model k b0 o0 c9 c10 v_saved v_place v_low v_high v_lowBefore v_highBefore v_least v_greatest v_things v_changing v_overLow v_overHigh v_text v_length v_at v_readKey v_readCount v_keys v_h].flatten := hD
      refine lv_iload hx hb dX8_grows_84 (lv_at hl 4 rfl) ?_
      refine lv_ishr hx hb dX8_grows_86 ?_
      refine lv_iconst (v := 1) hx hb dX8_grows_87 (by decide) ?_
      refine lv_iand hx hb dX8_grows_88 ?_
      refine lv_iconst (v := 1) hx hb dX8_grows_89 (by decide) ?_
      refine lv_icmp_ne (tgt := 98) hx hb dX8_grows_90 (by decide) (fun hc => ?_) (fun hc => ?_)
      · have hf := ofneg hf hc
        refine lv_lconst (v := 0) hx hb dX8_grows_98 (by decide) ?_
        refine lv_ladd hx hb dX8_grows_99 ?_
        obtain ⟨hc, hf⟩ := ofck hf
        generalize hc12 : vp_updL c10 (((32 * i5) + 16) + i8).toNatClampNeg ((c10 (((32 * i5) + 16) + i8).toNatClampNeg) + 0) = c12 at hf
        refine klast2 (f := c10) (n := 576) (g := c12) X hP hD hS 2 rfl hc hc12 dX8_grows_100 (fun H locs hP hD hS => ?_)
        have hP : va_P D vwCl [W_Model k b0 o0 c9 c12 v_saved v_place v_low v_high v_lowBefore v_highBefore v_least v_greatest v_things v_changing v_overLow v_overHigh v_text v_length v_at v_readKey v_readCount v_keys v_h].flatten _ := hP
        have hD : va_D A [W_Model k b0 o0 c9 c12 v_saved v_place v_low v_high v_lowBefore v_highBefore v_least v_greatest v_things v_changing v_overLow v_overHigh v_text v_length v_at v_readKey v_readCount v_keys v_h].flatten := hD
        refine lv_iinc (v := i8 + 1) (lv' := [(9, .int (i8 + 1)), (0, .ref (b0 o0)), (1, .int i5), (2, .int i6), (7, .long i7)]) hx hb dX8_grows_101 hl (k := 4) rfl rfl (by decide) rfl (fun ls hl => ?_)
        refine lv_goto (tgt := 52) hx hb dX8_grows_104 (by decide) ?_
        exact ih (i8 + 1) c12 _ _ _ hP hD hS (lv_sub hl [1, 2, 3, 4, 0] rfl) hf
      · have hf := ofpos hf hc
        refine lv_lload hx hb dX8_grows_93 (lv_at hl 3 rfl) ?_
        refine lv_goto (tgt := 99) hx hb dX8_grows_95 (by decide) ?_
        refine lv_ladd hx hb dX8_grows_99 ?_
        obtain ⟨hc, hf⟩ := ofck hf
        generalize hc13 : vp_updL c10 (((32 * i5) + 16) + i8).toNatClampNeg ((c10 (((32 * i5) + 16) + i8).toNatClampNeg) + i7) = c13 at hf
        refine klast2 (f := c10) (n := 576) (g := c13) X hP hD hS 2 rfl hc hc13 dX8_grows_100 (fun H locs hP hD hS => ?_)
        have hP : va_P D vwCl [W_Model k b0 o0 c9 c13 v_saved v_place v_low v_high v_lowBefore v_highBefore v_least v_greatest v_things v_changing v_overLow v_overHigh v_text v_length v_at v_readKey v_readCount v_keys v_h].flatten _ := hP
        have hD : va_D A [W_Model k b0 o0 c9 c13 v_saved v_place v_low v_high v_lowBefore v_highBefore v_least v_greatest v_things v_changing v_overLow v_overHigh v_text v_length v_at v_readKey v_readCount v_keys v_h].flatten := hD
        refine lv_iinc (v := i8 + 1) (lv' := [(9, .int (i8 + 1)), (0, .ref (b0 o0)), (1, .int i5), (2, .int i6), (7, .long i7)]) hx hb dX8_grows_101 hl (k := 4) rfl rfl (by decide) rfl (fun ls hl => ?_)
        refine lv_goto (tgt := 52) hx hb dX8_grows_104 (by decide) ?_
        exact ih (i8 + 1) c13 _ _ _ hP hD hS (lv_sub hl [1, 2, 3, 4, 0] rfl) hf
set_option maxRecDepth 100000 in
set_option maxHeartbeats 1000000 in
theorem c_Model_grows (l : Launch) (D : va_G) (k : Nat → ClassId) (t : Nat → Nat) (b0 : Nat → Nat) (o0 : Nat) (v_row : FI) (v_number : FJ) (v_saved : Int32) (v_place : FI) (v_low : FJ) (v_high : FJ) (v_lowBefore : FJ) (v_highBefore : FJ) (v_least : FJ) (v_greatest : FJ) (v_things : Int32) (v_changing : Int32) (v_overLow : FJ) (v_overHigh : FJ) (v_text : FI) (v_length : Int32) (v_at : Int32) (v_readKey : FI) (v_readCount : FJ) (v_keys : Int32) (v_h : Int64) (x1 : Int32) (x2 : Int32) (x3 : Int64) (N : Nat) (out : Int32 × FI × FJ) (hf : f_Model_grows N x1 x2 x3 v_row v_number = some out) : CT l D k t yX8_grows cX8_grows 10 (some .boolean) rm_Model_grows [.ref (b0 o0), .int x1, .int x2, .long x3] [W_Model k b0 o0 v_row v_number v_saved v_place v_low v_high v_lowBefore v_highBefore v_least v_greatest v_things v_changing v_overLow v_overHigh v_text v_length v_at v_readKey v_readCount v_keys v_h].flatten (some (.int out.1)) [W_Model k b0 o0 out.2.1 out.2.2 v_saved v_place v_low v_high v_lowBefore v_highBefore v_least v_greatest v_things v_changing v_overLow v_overHigh v_text v_length v_at v_readKey v_readCount v_keys v_h].flatten := by
  refine kofW (by decide) (Nat.le_of_ble_eq_true rfl) ?_
  intro p e s m below meth c A ls X hP hD hS hl
  have hx := X.1.1
  have hb := X.1.2.1
  have hml := X.1.2.2.1
  have hown := X.1.2.2.2.1
  have hts := X.1.2.2.2.2
  have hl : lv_has ls 10 [(0, .ref (b0 o0)), (1, .int x1), (2, .int x2), (3, .long x3)] := hl
  rw [f_Model_grows] at hf
  refine lv_aload_n hx hb dX8_grows_0 rfl (lv_at hl 0 rfl) ?_
  refine lv_iload_n hx hb dX8_grows_1 rfl (lv_at hl 1 rfl) ?_
  refine lv_iload_n hx hb dX8_grows_2 rfl (lv_at hl 2 rfl) ?_
  obtain ⟨r1, hg_r1, hf⟩ := ofbind hf
  refine kcV (bs := [W_Model k b0 o0 v_row v_number v_saved v_place v_low v_high v_lowBefore v_highBefore v_least v_greatest v_things v_changing v_overLow v_overHigh v_text v_length v_at v_readKey v_readCount v_keys v_h]) (br := []) (bc := [W_Model k b0 o0 v_row v_number v_saved v_place v_low v_high v_lowBefore v_highBefore v_least v_greatest v_things v_changing v_overLow v_overHigh v_text v_length v_at v_readKey v_readCount v_keys v_h]) (bc' := [W_Model k b0 o0 v_row v_number v_saved v_place v_low v_high v_lowBefore v_highBefore v_least v_greatest v_things v_changing v_overLow v_overHigh v_text v_length v_at v_readKey v_readCount v_keys v_h]) X hP hD hS (c_Model_restAt l D k t b0 o0 v_row v_number v_saved v_place v_low v_high v_lowBefore v_highBefore v_least v_greatest v_things v_changing v_overLow v_overHigh v_text v_length v_at v_readKey v_readCount v_keys v_h x1 x2 r1 hg_r1) mv_X8_92 hl [] [0] 8 ⟨rfl, rfl⟩ ⟨Nat.le_of_ble_eq_true rfl, Nat.le_of_ble_eq_true rfl⟩ rfl rfl rfl rfl rfl rfl rfl (Nat.le_of_ble_eq_true rfl) dX8_grows_3 (fun H locs hP hD hS => ?_)
  have hP : va_P D vwCl [W_Model k b0 o0 v_row v_number v_saved v_place v_low v_high v_lowBefore v_highBefore v_least v_greatest v_things v_changing v_overLow v_overHigh v_text v_length v_at v_readKey v_readCount v_keys v_h].flatten _ := hP
  have hD : va_D A [W_Model k b0 o0 v_row v_number v_saved v_place v_low v_high v_lowBefore v_highBefore v_least v_greatest v_things v_changing v_overLow v_overHigh v_text v_length v_at v_readKey v_readCount v_keys v_h].flatten := hD
  refine lv_i2l (v := r1.toInt64) hx hb dX8_grows_6 rfl ?_
  refine lv_lload_n hx hb dX8_grows_7 rfl (lv_at hl 3 rfl) ?_
  refine lv_ladd hx hb dX8_grows_8 ?_
  refine lv_lstore (lv' := [(5, .long (r1.toInt64 + x3)), (0, .ref (b0 o0)), (1, .int x1), (2, .int x2), (3, .long x3)]) hx hb dX8_grows_9 hl (by decide) rfl (fun ls hl => ?_)
  refine lv_lload hx hb dX8_grows_11 (lv_at hl 0 rfl) ?_
  refine lv_aload_n hx hb dX8_grows_13 rfl (lv_at hl 1 rfl) ?_
  refine kget (v := .ref (b0 (o0+1))) X hP ff_X8_7 0 rfl rfl dX8_grows_14 ?_
  refine lv_iconst (v := 1) hx hb dX8_grows_17 (by decide) ?_
  obtain ⟨hc, hf⟩ := ofck hf
  refine kiald (f := v_row) (n := 1002) X hP 1 rfl hc dX8_grows_18 ?_
  refine lv_lshr (v := (r1.toInt64 + x3) >>> ((v_row (1 : Int32).toNatClampNeg).toInt64 &&& 63)) hx hb dX8_grows_19 rfl ?_
  refine lv_lstore (lv' := [(7, .long ((r1.toInt64 + x3) >>> ((v_row (1 : Int32).toNatClampNeg).toInt64 &&& 63))), (5, .long (r1.toInt64 + x3)), (0, .ref (b0 o0)), (1, .int x1), (2, .int x2), (3, .long x3)]) hx hb dX8_grows_20 hl (by decide) rfl (fun ls hl => ?_)
  refine lv_aload_n hx hb dX8_grows_22 rfl (lv_at hl 2 rfl) ?_
  refine kget (v := .ref (b0 (o0+1))) X hP ff_X8_7 0 rfl rfl dX8_grows_23 ?_
  refine lv_bipush (v := 23) hx hb dX8_grows_26 (by decide) ?_
  refine lv_bipush (v := 48) hx hb dX8_grows_28 (by decide) ?_
  refine lv_iload_n hx hb dX8_grows_30 rfl (lv_at hl 3 rfl) ?_
  refine lv_imul hx hb dX8_grows_31 ?_
  refine lv_iadd hx hb dX8_grows_32 ?_
  refine lv_iload_n hx hb dX8_grows_33 rfl (lv_at hl 4 rfl) ?_
  refine lv_iadd hx hb dX8_grows_34 ?_
  refine lv_lload hx hb dX8_grows_35 (lv_at hl 1 rfl) ?_
  refine lv_lload hx hb dX8_grows_37 (lv_at hl 0 rfl) ?_
  refine lv_aload_n hx hb dX8_grows_39 rfl (lv_at hl 2 rfl) ?_
  refine kget (v := .ref (b0 (o0+1))) X hP ff_X8_7 0 rfl rfl dX8_grows_40 ?_
  refine lv_iconst (v := 1) hx hb dX8_grows_43 (by decide) ?_
  obtain ⟨hc, hf⟩ := ofck hf
  refine kiald (f := v_row) (n := 1002) X hP 1 rfl hc dX8_grows_44 ?_
  refine lv_lshl (v := ((r1.toInt64 + x3) >>> ((v_row (1 : Int32).toNatClampNeg).toInt64 &&& 63)) <<< ((v_row (1 : Int32).toNatClampNeg).toInt64 &&& 63)) hx hb dX8_grows_45 rfl ?_
  refine lv_lsub hx hb dX8_grows_46 ?_
  refine lv_l2i (v := ((r1.toInt64 + x3) - (((r1.toInt64 + x3) >>> ((v_row (1 : Int32).toNatClampNeg).toInt64 &&& 63)) <<< ((v_row (1 : Int32).toNatClampNeg).toInt64 &&& 63))).toInt32) hx hb dX8_grows_47 rfl ?_
  obtain ⟨hc, hf⟩ := ofck hf
  generalize hc2 : upd v_row ((23 + (48 * x1)) + x2).toNatClampNeg (((r1.toInt64 + x3) - (((r1.toInt64 + x3) >>> ((v_row (1 : Int32).toNatClampNeg).toInt64 &&& 63)) <<< ((v_row (1 : Int32).toNatClampNeg).toInt64 &&& 63))).toInt32) = c2 at hf
  refine kiast2 (f := v_row) (n := 1002) (g := c2) X hP hD hS 1 rfl hc hc2 dX8_grows_48 (fun H locs hP hD hS => ?_)
  have hP : va_P D vwCl [W_Model k b0 o0 c2 v_number v_saved v_place v_low v_high v_lowBefore v_highBefore v_least v_greatest v_things v_changing v_overLow v_overHigh v_text v_length v_at v_readKey v_readCount v_keys v_h].flatten _ := hP
  have hD : va_D A [W_Model k b0 o0 c2 v_number v_saved v_place v_low v_high v_lowBefore v_highBefore v_least v_greatest v_things v_changing v_overLow v_overHigh v_text v_length v_at v_readKey v_readCount v_keys v_h].flatten := hD
  refine lv_iconst (v := 0) hx hb dX8_grows_49 (by decide) ?_
  refine lv_istore (lv' := [(9, .int 0), (7, .long ((r1.toInt64 + x3) >>> ((v_row (1 : Int32).toNatClampNeg).toInt64 &&& 63))), (5, .long (r1.toInt64 + x3)), (0, .ref (b0 o0)), (1, .int x1), (2, .int x2), (3, .long x3)]) hx hb dX8_grows_50 hl (by decide) rfl (fun ls hl => ?_)
  refine w_Model_grows_L52 X b0 o0 v_row v_number v_saved v_place v_low v_high v_lowBefore v_highBefore v_least v_greatest v_things v_changing v_overLow v_overHigh v_text v_length v_at v_readKey v_readCount v_keys v_h N x1 x2 ((r1.toInt64 + x3) >>> ((v_row (1 : Int32).toNatClampNeg).toInt64 &&& 63)) c2 out _ ?_ N 0 v_number _ _ _ hP hD hS (lv_sub hl [3, 4, 5, 1, 0] rfl) hf
  · intro i14 c15 H locs ls hP hD hS hl hf
    refine lv_lload hx hb dX8_grows_107 (lv_at hl 3 rfl) ?_
    refine lv_lconst (v := 0) hx hb dX8_grows_109 (by decide) ?_
    refine W.lcmp hx hb dX8_grows_110 ?_
    refine lv_if_le (tgt := 132) hx hb dX8_grows_111 (by decide) (fun hc => ?_) (fun hc => ?_)
    · have hc := lgm.mp hc
      have hf := ofpos hf hc
      refine lv_lload hx hb dX8_grows_132 (lv_at hl 3 rfl) ?_
      refine lv_lconst (v := 0) hx hb dX8_grows_134 (by decide) ?_
      refine W.lcmp hx hb dX8_grows_135 ?_
      refine lv_if_le (tgt := 143) hx hb dX8_grows_136 (by decide) (fun hc => ?_) (fun hc => ?_)
      · have hc := lgm.mp hc
        have hf := ofpos hf hc
        refine lv_iconst (v := 0) hx hb dX8_grows_143 (by decide) ?_
        have hf := Option.some.inj hf
        subst hf
        exact kzret (v := 0) X hP hD hS rfl dX8_grows_144
      · have hc := fun z => hc (lgm.mpr z)
        have hf := ofneg hf hc
        refine lv_iconst (v := 1) hx hb dX8_grows_139 (by decide) ?_
        refine lv_goto (tgt := 144) hx hb dX8_grows_140 (by decide) ?_
        have hf := Option.some.inj hf
        subst hf
        exact kzret (v := 1) X hP hD hS rfl dX8_grows_144
    · have hc := fun z => hc (lgm.mpr z)
      have hf := ofneg hf hc
      refine lv_aload_n hx hb dX8_grows_114 rfl (lv_at hl 0 rfl) ?_
      refine kget (v := .ref (b0 (o0+1))) X hP ff_X8_7 0 rfl rfl dX8_grows_115 ?_
      refine lv_bipush (v := 23) hx hb dX8_grows_118 (by decide) ?_
      refine lv_bipush (v := 48) hx hb dX8_grows_120 (by decide) ?_
      refine lv_iload_n hx hb dX8_grows_122 rfl (lv_at hl 1 rfl) ?_
      refine lv_imul hx hb dX8_grows_123 ?_
      refine lv_iadd hx hb dX8_grows_124 ?_
      refine lv_bipush (v := 24) hx hb dX8_grows_125 (by decide) ?_
      refine lv_iadd hx hb dX8_grows_127 ?_
      refine lv_iload_n hx hb dX8_grows_128 rfl (lv_at hl 2 rfl) ?_
      refine lv_iadd hx hb dX8_grows_129 ?_
      refine lv_iconst (v := 1) hx hb dX8_grows_130 (by decide) ?_
      obtain ⟨hc, hf⟩ := ofck hf
      generalize hc16 : upd c2 (((23 + (48 * x1)) + 24) + x2).toNatClampNeg 1 = c16 at hf
      refine kiast2 (f := c2) (n := 1002) (g := c16) X hP hD hS 1 rfl hc hc16 dX8_grows_131 (fun H locs hP hD hS => ?_)
      have hP : va_P D vwCl [W_Model k b0 o0 c16 c15 v_saved v_place v_low v_high v_lowBefore v_highBefore v_least v_greatest v_things v_changing v_overLow v_overHigh v_text v_length v_at v_readKey v_readCount v_keys v_h].flatten _ := hP
      have hD : va_D A [W_Model k b0 o0 c16 c15 v_saved v_place v_low v_high v_lowBefore v_highBefore v_least v_greatest v_things v_changing v_overLow v_overHigh v_text v_length v_at v_readKey v_readCount v_keys v_h].flatten := hD
      refine lv_lload hx hb dX8_grows_132 (lv_at hl 3 rfl) ?_
      refine lv_lconst (v := 0) hx hb dX8_grows_134 (by decide) ?_
      refine W.lcmp hx hb dX8_grows_135 ?_
      refine lv_if_le (tgt := 143) hx hb dX8_grows_136 (by decide) (fun hc => ?_) (fun hc => ?_)
      · have hc := lgm.mp hc
        have hf := ofpos hf hc
        refine lv_iconst (v := 0) hx hb dX8_grows_143 (by decide) ?_
        have hf := Option.some.inj hf
        subst hf
        exact kzret (v := 0) X hP hD hS rfl dX8_grows_144
      · have hc := fun z => hc (lgm.mpr z)
        have hf := ofneg hf hc
        refine lv_iconst (v := 1) hx hb dX8_grows_139 (by decide) ?_
        refine lv_goto (tgt := 144) hx hb dX8_grows_140 (by decide) ?_
        have hf := Option.some.inj hf
        subst hf
        exact kzret (v := 1) X hP hD hS rfl dX8_grows_144
/-! Model_counts: private void counts(int, int, long); -/
abbrev rm_Model_counts : Room := ({ frames := 2, cells := 0, slots := 0, locals := 54 } : Room)
def f_Model_counts_L18 (N : Nat) (i4 : Int32) (i6 : Int64) (i7 : Int32) (K64 : Int32 → FI → FJ → Option (FI × FJ)) : Nat → Int32 → FI → FJ → Option (FI × FJ)
  | 0, _, _, _ => none
  | n + 1, i8, c9, c10 => if ck 0 1002 = true then if (c9 (0 : Int32).toNatClampNeg) ≤ i8 then K64 i8 c9 c10 else if ((i7 >>> (i8 &&& 31)) &&& 1) = 1 then (f_Model_grows N i4 i8 i6 c9 c10).bind (fun r11 => if r11.1 = 0 then f_Model_counts_L18 N i4 i6 i7 K64 n (i8 + 1) r11.2.1 r11.2.2 else f_Model_counts_L18 N i4 i6 i7 K64 n (i8 + 1) r11.2.1 r11.2.2) else f_Model_counts_L18 N i4 i6 i7 K64 n (i8 + 1) c9 c10 else none
def f_Model_counts (N : Nat) (x1 : Int32) (x2 : Int32) (x3 : Int64) (v_row : FI) (v_number : FJ) : Option (FI × FJ) := if ck (7 + x2) 1002 = true then (f_Model_placesOf N (v_row (7 + x2).toNatClampNeg) v_row).bind (fun r1 => f_Model_counts_L18 N x1 x3 r1 (fun i12 c13 c14 => if ck ((32 * x1) + x2) 576 = true then if ck ((32 * x1) + x2) 576 = true then some (c13, (vp_updL c14 ((32 * x1) + x2).toNatClampNeg ((c14 ((32 * x1) + x2).toNatClampNeg) + x3))) else none else none) N 0 v_row v_number) else none
abbrev Q_Model_counts (below : List Frame) (D : va_G) (k : Nat → ClassId) (A : Nat → Prop) (args : Array Value) (s : State) (b0 : Nat → Nat) (o0 : Nat) (v_row : FI) (v_number : FJ) (v_saved : Int32) (v_place : FI) (v_low : FJ) (v_high : FJ) (v_lowBefore : FJ) (v_highBefore : FJ) (v_least : FJ) (v_greatest : FJ) (v_things : Int32) (v_changing : Int32) (v_overLow : FJ) (v_overHigh : FJ) (v_text : FI) (v_length : Int32) (v_at : Int32) (v_readKey : FI) (v_readCount : FJ) (v_keys : Int32) (v_h : Int64) (out : FI × FJ) : State → Prop := MQ below (QW D k A none [W_Model k b0 o0 out.1 out.2 v_saved v_place v_low v_high v_lowBefore v_highBefore v_least v_greatest v_things v_changing v_overLow v_overHigh v_text v_length v_at v_readKey v_readCount v_keys v_h].flatten) args s 0 0 A
set_option maxRecDepth 100000 in
set_option maxHeartbeats 1000000 in
theorem w_Model_counts_L18 {p : Program} {l : Launch} {e : Env} {s : State} {m : MethodId} {below : List Frame} {meth : Method} {c : Code} {args : Array Value} {A : Nat → Prop} {D : va_G} {k : Nat → ClassId} {t : Nat → Nat} (X : BX l D k t p s m args meth c cX8_counts 8 RX8 none A) (b0 : Nat → Nat) (o0 : Nat) (v_row : FI) (v_number : FJ) (v_saved : Int32) (v_place : FI) (v_low : FJ) (v_high : FJ) (v_lowBefore : FJ) (v_highBefore : FJ) (v_least : FJ) (v_greatest : FJ) (v_things : Int32) (v_changing : Int32) (v_overLow : FJ) (v_overHigh : FJ) (v_text : FI) (v_length : Int32) (v_at : Int32) (v_readKey : FI) (v_readCount : FJ) (v_keys : Int32) (v_h : Int64) (N : Nat) (i4 : Int32) (i5 : Int32) (i6 : Int64) (i7 : Int32) (out : FI × FJ) (K64 : Int32 → FI → FJ → Option (FI × FJ)) (hK64 : ∀ (i8' : Int32) (c9' : FI) (c10' : FJ) (H : Heap) (locs : List Loc) (ls : Array Slot), va_P D vwCl [W_Model k b0 o0 c9' c10' v_saved v_place v_low v_high v_lowBefore v_highBefore v_least v_greatest v_things v_changing v_overLow v_overHigh v_text v_length v_at v_readKey v_readCount v_keys v_h].flatten H → va_D A [W_Model k b0 o0 c9' c10' v_saved v_place v_low v_high v_lowBefore v_highBefore v_least v_greatest v_things v_changing v_overLow v_overHigh v_text v_length v_at v_readKey v_readCount v_keys v_h].flatten → va_S A s.heap H locs → lv_has ls 8 [(0, .ref (b0 o0)), (1, .int i4), (2, .int i5), (3, .long i6)] → K64 i8' c9' c10' = some out → W p l e rm_Model_counts s m args below meth c H locs 0 0 (Q_Model_counts below D k A args s b0 o0 v_row v_number v_saved v_place v_low v_high v_lowBefore v_highBefore v_least v_greatest v_things v_changing v_overLow v_overHigh v_text v_length v_at v_readKey v_readCount v_keys v_h out) (F0 m 64 ls [])) : ∀ (n : Nat) (i8 : Int32) (c9 : FI) (c10 : FJ) (H : Heap) (locs : List Loc) (ls : Array Slot), va_P D vwCl [W_Model k b0 o0 c9 c10 v_saved v_place v_low v_high v_lowBefore v_highBefore v_least v_greatest v_things v_changing v_overLow v_overHigh v_text v_length v_at v_readKey v_readCount v_keys v_h].flatten H → va_D A [W_Model k b0 o0 c9 c10 v_saved v_place v_low v_high v_lowBefore v_highBefore v_least v_greatest v_things v_changing v_overLow v_overHigh v_text v_length v_at v_readKey v_readCount v_keys v_h].flatten → va_S A s.heap H locs → lv_has ls 8 [(0, .ref (b0 o0)), (1, .int i4), (2, .int i5), (3, .long i6), (5, .int i7), (6, .int i8)] → f_Model_counts_L18 N i4 i6 i7 K64 n i8 c9 c10 = some out → W p l e rm_Model_counts s m args below meth c H locs 0 0 (Q_Model_counts below D k A args s b0 o0 v_row v_number v_saved v_place v_low v_high v_lowBefore v_highBefore v_least v_greatest v_things v_changing v_overLow v_overHigh v_text v_length v_at v_readKey v_readCount v_keys v_h out) (F0 m 18 ls []) := by
  have hx := X.1.1
  have hb := X.1.2.1
  have hml := X.1.2.2.1
  have hown := X.1.2.2.2.1
  have hts := X.1.2.2.2.2
  intro n
  induction n with
  | zero =>
    intro i8 c9 c10 H locs ls hP hD hS hl hf
    rw [f_Model_counts_L18] at hf
    cases hf
  | succ n ih =>
    intro i8 c9 c10 H locs ls hP hD hS hl hf
    rw [f_Model_counts_L18] at hf
    refine lv_iload hx hb dX8_counts_18 (lv_at hl 5 rfl) ?_
    refine lv_aload_n hx hb dX8_counts_20 rfl (lv_at hl 0 rfl) ?_
    refine kget (v := .ref (b0 (o0+1))) X hP ff_X8_7 0 rfl rfl dX8_counts_21 ?_
    refine lv_iconst (v := 0) hx hb dX8_counts_24 (by decide) ?_
    obtain ⟨hc, hf⟩ := ofck hf
    refine kiald (f := c9) (n := 1002) X hP 1 rfl hc dX8_counts_25 ?_
    refine lv_icmp_ge (tgt := 64) hx hb dX8_counts_26 (by decide) (fun hc => ?_) (fun hc => ?_)
    · have hf := ofpos hf hc
      exact hK64 i8 c9 c10 _ _ _ hP hD hS (lv_sub hl [0, 1, 2, 3] rfl) hf
    · have hf := ofneg hf hc
      refine lv_iload hx hb dX8_counts_29 (lv_at hl 4 rfl) ?_
      refine lv_iload hx hb dX8_counts_31 (lv_at hl 5 rfl) ?_
      refine lv_ishr hx hb dX8_counts_33 ?_
      refine lv_iconst (v := 1) hx hb dX8_counts_34 (by decide) ?_
      refine lv_iand hx hb dX8_counts_35 ?_
      refine lv_iconst (v := 1) hx hb dX8_counts_36 (by decide) ?_
      refine lv_icmp_ne (tgt := 55) hx hb dX8_counts_37 (by decide) (fun hc => ?_) (fun hc => ?_)
      · have hf := ofneg hf hc
        refine lv_iconst (v := 0) hx hb dX8_counts_55 (by decide) ?_
        refine lv_istore (lv' := [(7, .int 0), (0, .ref (b0 o0)), (1, .int i4), (2, .int i5), (3, .long i6), (5, .int i7), (6, .int i8)]) hx hb dX8_counts_56 hl (by decide) rfl (fun ls hl => ?_)
        refine lv_iinc (v := i8 + 1) (lv' := [(6, .int (i8 + 1)), (7, .int 0), (0, .ref (b0 o0)), (1, .int i4), (2, .int i5), (3, .long i6), (5, .int i7)]) hx hb dX8_counts_58 hl (k := 6) rfl rfl (by decide) rfl (fun ls hl => ?_)
        refine lv_goto (tgt := 18) hx hb dX8_counts_61 (by decide) ?_
        exact ih (i8 + 1) c9 c10 _ _ _ hP hD hS (lv_sub hl [2, 3, 4, 5, 6, 0] rfl) hf
      · have hf := ofpos hf hc
        refine lv_aload_n hx hb dX8_counts_40 rfl (lv_at hl 0 rfl) ?_
        refine lv_iload_n hx hb dX8_counts_41 rfl (lv_at hl 1 rfl) ?_
        refine lv_iload hx hb dX8_counts_42 (lv_at hl 5 rfl) ?_
        refine lv_lload_n hx hb dX8_counts_44 rfl (lv_at hl 3 rfl) ?_
        obtain ⟨r11, hg_r11, hf⟩ := ofbind hf
        refine kcV (bs := [W_Model k b0 o0 c9 c10 v_saved v_place v_low v_high v_lowBefore v_highBefore v_least v_greatest v_things v_changing v_overLow v_overHigh v_text v_length v_at v_readKey v_readCount v_keys v_h]) (br := []) (bc := [W_Model k b0 o0 c9 c10 v_saved v_place v_low v_high v_lowBefore v_highBefore v_least v_greatest v_things v_changing v_overLow v_overHigh v_text v_length v_at v_readKey v_readCount v_keys v_h]) (bc' := [W_Model k b0 o0 r11.2.1 r11.2.2 v_saved v_place v_low v_high v_lowBefore v_highBefore v_least v_greatest v_things v_changing v_overLow v_overHigh v_text v_length v_at v_readKey v_readCount v_keys v_h]) X hP hD hS (c_Model_grows l D k t b0 o0 c9 c10 v_saved v_place v_low v_high v_lowBefore v_highBefore v_least v_greatest v_things v_changing v_overLow v_overHigh v_text v_length v_at v_readKey v_readCount v_keys v_h i4 i8 i6 N r11 hg_r11) mv_X8_96 hl [] [0] 8 ⟨rfl, rfl⟩ ⟨Nat.le_of_ble_eq_true rfl, Nat.le_of_ble_eq_true rfl⟩ rfl rfl rfl rfl rfl rfl rfl (Nat.le_of_ble_eq_true rfl) dX8_counts_45 (fun H locs hP hD hS => ?_)
        have hP : va_P D vwCl [W_Model k b0 o0 r11.2.1 r11.2.2 v_saved v_place v_low v_high v_lowBefore v_highBefore v_least v_greatest v_things v_changing v_overLow v_overHigh v_text v_length v_at v_readKey v_readCount v_keys v_h].flatten _ := hP
        have hD : va_D A [W_Model k b0 o0 r11.2.1 r11.2.2 v_saved v_place v_low v_high v_lowBefore v_highBefore v_least v_greatest v_things v_changing v_overLow v_overHigh v_text v_length v_at v_readKey v_readCount v_keys v_h].flatten := hD
        refine lv_if_eq (tgt := 55) hx hb dX8_counts_48 (by decide) (fun hc => ?_) (fun hc => ?_)
        · have hf := ofpos hf hc
          refine lv_iconst (v := 0) hx hb dX8_counts_55 (by decide) ?_
          refine lv_istore (lv' := [(7, .int 0), (0, .ref (b0 o0)), (1, .int i4), (2, .int i5), (3, .long i6), (5, .int i7), (6, .int i8)]) hx hb dX8_counts_56 hl (by decide) rfl (fun ls hl => ?_)
          refine lv_iinc (v := i8 + 1) (lv' := [(6, .int (i8 + 1)), (7, .int 0), (0, .ref (b0 o0)), (1, .int i4), (2, .int i5), (3, .long i6), (5, .int i7)]) hx hb dX8_counts_58 hl (k := 6) rfl rfl (by decide) rfl (fun ls hl => ?_)
          refine lv_goto (tgt := 18) hx hb dX8_counts_61 (by decide) ?_
          exact ih (i8 + 1) r11.2.1 r11.2.2 _ _ _ hP hD hS (lv_sub hl [2, 3, 4, 5, 6, 0] rfl) hf
        · have hf := ofneg hf hc
          refine lv_iconst (v := 1) hx hb dX8_counts_51 (by decide) ?_
          refine lv_goto (tgt := 56) hx hb dX8_counts_52 (by decide) ?_
          refine lv_istore (lv' := [(7, .int 1), (0, .ref (b0 o0)), (1, .int i4), (2, .int i5), (3, .long i6), (5, .int i7), (6, .int i8)]) hx hb dX8_counts_56 hl (by decide) rfl (fun ls hl => ?_)
          refine lv_iinc (v := i8 + 1) (lv' := [(6, .int (i8 + 1)), (7, .int 1), (0, .ref (b0 o0)), (1, .int i4), (2, .int i5), (3, .long i6), (5, .int i7)]) hx hb dX8_counts_58 hl (k := 6) rfl rfl (by decide) rfl (fun ls hl => ?_)
          refine lv_goto (tgt := 18) hx hb dX8_counts_61 (by decide) ?_
          exact ih (i8 + 1) r11.2.1 r11.2.2 _ _ _ hP hD hS (lv_sub hl [2, 3, 4, 5, 6, 0] rfl) hf
set_option maxRecDepth 100000 in
set_option maxHeartbeats 1000000 in
theorem c_Model_counts (l : Launch) (D : va_G) (k : Nat → ClassId) (t : Nat → Nat) (b0 : Nat → Nat) (o0 : Nat) (v_row : FI) (v_number : FJ) (v_saved : Int32) (v_place : FI) (v_low : FJ) (v_high : FJ) (v_lowBefore : FJ) (v_highBefore : FJ) (v_least : FJ) (v_greatest : FJ) (v_things : Int32) (v_changing : Int32) (v_overLow : FJ) (v_overHigh : FJ) (v_text : FI) (v_length : Int32) (v_at : Int32) (v_readKey : FI) (v_readCount : FJ) (v_keys : Int32) (v_h : Int64) (x1 : Int32) (x2 : Int32) (x3 : Int64) (N : Nat) (out : FI × FJ) (hf : f_Model_counts N x1 x2 x3 v_row v_number = some out) : CT l D k t yX8_counts cX8_counts 8 none rm_Model_counts [.ref (b0 o0), .int x1, .int x2, .long x3] [W_Model k b0 o0 v_row v_number v_saved v_place v_low v_high v_lowBefore v_highBefore v_least v_greatest v_things v_changing v_overLow v_overHigh v_text v_length v_at v_readKey v_readCount v_keys v_h].flatten none [W_Model k b0 o0 out.1 out.2 v_saved v_place v_low v_high v_lowBefore v_highBefore v_least v_greatest v_things v_changing v_overLow v_overHigh v_text v_length v_at v_readKey v_readCount v_keys v_h].flatten := by
  refine kofW (by decide) (Nat.le_of_ble_eq_true rfl) ?_
  intro p e s m below meth c A ls X hP hD hS hl
  have hx := X.1.1
  have hb := X.1.2.1
  have hml := X.1.2.2.1
  have hown := X.1.2.2.2.1
  have hts := X.1.2.2.2.2
  have hl : lv_has ls 8 [(0, .ref (b0 o0)), (1, .int x1), (2, .int x2), (3, .long x3)] := hl
  rw [f_Model_counts] at hf
  refine lv_aload_n hx hb dX8_counts_0 rfl (lv_at hl 0 rfl) ?_
  refine lv_aload_n hx hb dX8_counts_1 rfl (lv_at hl 0 rfl) ?_
  refine kget (v := .ref (b0 (o0+1))) X hP ff_X8_7 0 rfl rfl dX8_counts_2 ?_
  refine lv_bipush (v := 7) hx hb dX8_counts_5 (by decide) ?_
  refine lv_iload_n hx hb dX8_counts_7 rfl (lv_at hl 2 rfl) ?_
  refine lv_iadd hx hb dX8_counts_8 ?_
  obtain ⟨hc, hf⟩ := ofck hf
  refine kiald (f := v_row) (n := 1002) X hP 1 rfl hc dX8_counts_9 ?_
  obtain ⟨r1, hg_r1, hf⟩ := ofbind hf
  refine kcV (bs := [W_Model k b0 o0 v_row v_number v_saved v_place v_low v_high v_lowBefore v_highBefore v_least v_greatest v_things v_changing v_overLow v_overHigh v_text v_length v_at v_readKey v_readCount v_keys v_h]) (br := []) (bc := [W_Model k b0 o0 v_row v_number v_saved v_place v_low v_high v_lowBefore v_highBefore v_least v_greatest v_things v_changing v_overLow v_overHigh v_text v_length v_at v_readKey v_readCount v_keys v_h]) (bc' := [W_Model k b0 o0 v_row v_number v_saved v_place v_low v_high v_lowBefore v_highBefore v_least v_greatest v_things v_changing v_overLow v_overHigh v_text v_length v_at v_readKey v_readCount v_keys v_h]) X hP hD hS (c_Model_placesOf l D k t b0 o0 v_row v_number v_saved v_place v_low v_high v_lowBefore v_highBefore v_least v_greatest v_things v_changing v_overLow v_overHigh v_text v_length v_at v_readKey v_readCount v_keys v_h (v_row (7 + x2).toNatClampNeg) N r1 hg_r1) mv_X8_83 hl [] [0] 8 ⟨rfl, rfl⟩ ⟨Nat.le_of_ble_eq_true rfl, Nat.le_of_ble_eq_true rfl⟩ rfl rfl rfl rfl rfl rfl rfl (Nat.le_of_ble_eq_true rfl) dX8_counts_10 (fun H locs hP hD hS => ?_)
  have hP : va_P D vwCl [W_Model k b0 o0 v_row v_number v_saved v_place v_low v_high v_lowBefore v_highBefore v_least v_greatest v_things v_changing v_overLow v_overHigh v_text v_length v_at v_readKey v_readCount v_keys v_h].flatten _ := hP
  have hD : va_D A [W_Model k b0 o0 v_row v_number v_saved v_place v_low v_high v_lowBefore v_highBefore v_least v_greatest v_things v_changing v_overLow v_overHigh v_text v_length v_at v_readKey v_readCount v_keys v_h].flatten := hD
  refine lv_istore (lv' := [(5, .int r1), (0, .ref (b0 o0)), (1, .int x1), (2, .int x2), (3, .long x3)]) hx hb dX8_counts_13 hl (by decide) rfl (fun ls hl => ?_)
  refine lv_iconst (v := 0) hx hb dX8_counts_15 (by decide) ?_
  refine lv_istore (lv' := [(6, .int 0), (5, .int r1), (0, .ref (b0 o0)), (1, .int x1), (2, .int x2), (3, .long x3)]) hx hb dX8_counts_16 hl (by decide) rfl (fun ls hl => ?_)
  refine w_Model_counts_L18 X b0 o0 v_row v_number v_saved v_place v_low v_high v_lowBefore v_highBefore v_least v_greatest v_things v_changing v_overLow v_overHigh v_text v_length v_at v_readKey v_readCount v_keys v_h N x1 x2 x3 r1 out _ ?_ N 0 v_row v_number _ _ _ hP hD hS (lv_sub hl [2, 3, 4, 5, 1, 0] rfl) hf
  · intro i12 c13 c14 H locs ls hP hD hS hl hf
    refine lv_aload_n hx hb dX8_counts_64 rfl (lv_at hl 0 rfl) ?_
    refine kget (v := .ref (b0 (o0+2))) X hP ff_X8_13 0 rfl rfl dX8_counts_65 ?_
    refine lv_bipush (v := 32) hx hb dX8_counts_68 (by decide) ?_
    refine lv_iload_n hx hb dX8_counts_70 rfl (lv_at hl 1 rfl) ?_
    refine lv_imul hx hb dX8_counts_71 ?_
    refine lv_iload_n hx hb dX8_counts_72 rfl (lv_at hl 2 rfl) ?_
    refine lv_iadd hx hb dX8_counts_73 ?_
    refine lv_dup2_11 hx hb dX8_counts_74 rfl rfl ?_
    obtain ⟨hc, hf⟩ := ofck hf
    refine klald (f := c14) (n := 576) X hP 2 rfl hc dX8_counts_75 ?_
    refine lv_lload_n hx hb dX8_counts_76 rfl (lv_at hl 3 rfl) ?_
    refine lv_ladd hx hb dX8_counts_77 ?_
    obtain ⟨hc, hf⟩ := ofck hf
    generalize hc15 : vp_updL c14 ((32 * x1) + x2).toNatClampNeg ((c14 ((32 * x1) + x2).toNatClampNeg) + x3) = c15 at hf
    refine klast2 (f := c14) (n := 576) (g := c15) X hP hD hS 2 rfl hc hc15 dX8_counts_78 (fun H locs hP hD hS => ?_)
    have hP : va_P D vwCl [W_Model k b0 o0 c13 c15 v_saved v_place v_low v_high v_lowBefore v_highBefore v_least v_greatest v_things v_changing v_overLow v_overHigh v_text v_length v_at v_readKey v_readCount v_keys v_h].flatten _ := hP
    have hD : va_D A [W_Model k b0 o0 c13 c15 v_saved v_place v_low v_high v_lowBefore v_highBefore v_least v_greatest v_things v_changing v_overLow v_overHigh v_text v_length v_at v_readKey v_readCount v_keys v_h].flatten := hD
    have hf := Option.some.inj hf
    subst hf
    exact kvret X hP hD hS dX8_counts_79
/-! Model_count: public long count(int, int, int); -/
abbrev rm_Model_count : Room := ({ frames := 3, cells := 0, slots := 0, locals := 81 } : Room)
def f_Model_count (N : Nat) (x1 : Int32) (x2 : Int32) (x3 : Int32) (v_row : FI) (v_number : FJ) (v_saved : Int32) : Option (Int64 × FI × FJ × Int32) := (f_Model_isBraid x1).bind (fun r1 => if r1 = 0 then some ((-2), v_row, v_number, v_saved) else (f_Model_isFlow x2 v_row).bind (fun r2 => if r2 = 0 then some ((-2), v_row, v_number, v_saved) else (f_Model_in x3 1 1000000).bind (fun r3 => if r3 = 0 then some ((-3), v_row, v_number, v_saved) else (f_Model_truthAt x1 x2 v_number).bind (fun r4 => if (r4 + x3.toInt64) ≤ 1000000000 then (f_Model_saves N v_row v_number v_saved).bind (fun r5 => (f_Model_counts N x1 x2 x3.toInt64 r5.1 r5.2.1).bind (fun r6 => (f_Model_truthAt x1 x2 r6.2).bind (fun r7 => some (r7, r6.1, r6.2, r5.2.2)))) else some ((-5), v_row, v_number, v_saved)))))
abbrev Q_Model_count (below : List Frame) (D : va_G) (k : Nat → ClassId) (A : Nat → Prop) (args : Array Value) (s : State) (b0 : Nat → Nat) (o0 : Nat) (v_row : FI) (v_number : FJ) (v_saved : Int32) (v_place : FI) (v_low : FJ) (v_high : FJ) (v_lowBefore : FJ) (v_highBefore : FJ) (v_least : FJ) (v_greatest : FJ) (v_things : Int32) (v_changing : Int32) (v_overLow : FJ) (v_overHigh : FJ) (v_text : FI) (v_length : Int32) (v_at : Int32) (v_readKey : FI) (v_readCount : FJ) (v_keys : Int32) (v_h : Int64) (out : Int64 × FI × FJ × Int32) : State → Prop := MQ below (QW D k A (some (.long out.1)) [W_Model k b0 o0 out.2.1 out.2.2.1 out.2.2.2 v_place v_low v_high v_lowBefore v_highBefore v_least v_greatest v_things v_changing v_overLow v_overHigh v_text v_length v_at v_readKey v_readCount v_keys v_h].flatten) args s 0 0 A
set_option maxRecDepth 100000 in
set_option maxHeartbeats 1000000 in
theorem c_Model_count (l : Launch) (D : va_G) (k : Nat → ClassId) (t : Nat → Nat) (b0 : Nat → Nat) (o0 : Nat) (v_row : FI) (v_number : FJ) (v_saved : Int32) (v_place : FI) (v_low : FJ) (v_high : FJ) (v_lowBefore : FJ) (v_highBefore : FJ) (v_least : FJ) (v_greatest : FJ) (v_things : Int32) (v_changing : Int32) (v_overLow : FJ) (v_overHigh : FJ) (v_text : FI) (v_length : Int32) (v_at : Int32) (v_readKey : FI) (v_readCount : FJ) (v_keys : Int32) (v_h : Int64) (x1 : Int32) (x2 : Int32) (x3 : Int32) (N : Nat) (out : Int64 × FI × FJ × Int32) (hf : f_Model_count N x1 x2 x3 v_row v_number v_saved = some out) : CT l D k t yX8_count cX8_count 4 (some .long) rm_Model_count [.ref (b0 o0), .int x1, .int x2, .int x3] [W_Model k b0 o0 v_row v_number v_saved v_place v_low v_high v_lowBefore v_highBefore v_least v_greatest v_things v_changing v_overLow v_overHigh v_text v_length v_at v_readKey v_readCount v_keys v_h].flatten (some (.long out.1)) [W_Model k b0 o0 out.2.1 out.2.2.1 out.2.2.2 v_place v_low v_high v_lowBefore v_highBefore v_least v_greatest v_things v_changing v_overLow v_overHigh v_text v_length v_at v_readKey v_readCount v_keys v_h].flatten := by
  refine kofW (by decide) (Nat.le_of_ble_eq_true rfl) ?_
  intro p e s m below meth c A ls X hP hD hS hl
  have hx := X.1.1
  have hb := X.1.2.1
  have hml := X.1.2.2.1
  have hown := X.1.2.2.2.1
  have hts := X.1.2.2.2.2
  have hl : lv_has ls 4 [(0, .ref (b0 o0)), (1, .int x1), (2, .int x2), (3, .int x3)] := hl
  rw [f_Model_count] at hf
  refine lv_iload_n hx hb dX8_count_0 rfl (lv_at hl 1 rfl) ?_
  obtain ⟨r1, hg_r1, hf⟩ := ofbind hf
  refine kcS (bs := [W_Model k b0 o0 v_row v_number v_saved v_place v_low v_high v_lowBefore v_highBefore v_least v_greatest v_things v_changing v_overLow v_overHigh v_text v_length v_at v_readKey v_readCount v_keys v_h]) (br := [W_Model k b0 o0 v_row v_number v_saved v_place v_low v_high v_lowBefore v_highBefore v_least v_greatest v_things v_changing v_overLow v_overHigh v_text v_length v_at v_readKey v_readCount v_keys v_h]) (bc := []) (bc' := []) X hP hD hS (c_Model_isBraid l D k t x1 r1 hg_r1) ms_X8_100 hl [0] [] ⟨rfl, rfl⟩ ⟨Nat.le_of_ble_eq_true rfl, Nat.le_of_ble_eq_true rfl⟩ rfl rfl rfl rfl (Nat.le_of_ble_eq_true rfl) dX8_count_1 (fun H locs hP hD hS => ?_)
  have hP : va_P D vwCl [W_Model k b0 o0 v_row v_number v_saved v_place v_low v_high v_lowBefore v_highBefore v_least v_greatest v_things v_changing v_overLow v_overHigh v_text v_length v_at v_readKey v_readCount v_keys v_h].flatten _ := hP
  have hD : va_D A [W_Model k b0 o0 v_row v_number v_saved v_place v_low v_high v_lowBefore v_highBefore v_least v_greatest v_things v_changing v_overLow v_overHigh v_text v_length v_at v_readKey v_readCount v_keys v_h].flatten := hD
  refine lv_if_eq (tgt := 15) hx hb dX8_count_4 (by decide) (fun hc => ?_) (fun hc => ?_)
  · have hf := ofpos hf hc
    refine lv_ldc2 (v := (-2)) hx hb hown (hts _ kc_X8_103) dX8_count_15 ?_
    have hf := Option.some.inj hf
    subst hf
    exact klret (v := (-2)) X hP hD hS dX8_count_18
  · have hf := ofneg hf hc
    refine lv_aload_n hx hb dX8_count_7 rfl (lv_at hl 0 rfl) ?_
    refine lv_iload_n hx hb dX8_count_8 rfl (lv_at hl 2 rfl) ?_
    obtain ⟨r2, hg_r2, hf⟩ := ofbind hf
    refine kcV (bs := [W_Model k b0 o0 v_row v_number v_saved v_place v_low v_high v_lowBefore v_highBefore v_least v_greatest v_things v_changing v_overLow v_overHigh v_text v_length v_at v_readKey v_readCount v_keys v_h]) (br := []) (bc := [W_Model k b0 o0 v_row v_number v_saved v_place v_low v_high v_lowBefore v_highBefore v_least v_greatest v_things v_changing v_overLow v_overHigh v_text v_length v_at v_readKey v_readCount v_keys v_h]) (bc' := [W_Model k b0 o0 v_row v_number v_saved v_place v_low v_high v_lowBefore v_highBefore v_least v_greatest v_things v_changing v_overLow v_overHigh v_text v_length v_at v_readKey v_readCount v_keys v_h]) X hP hD hS (c_Model_isFlow l D k t b0 o0 v_row v_number v_saved v_place v_low v_high v_lowBefore v_highBefore v_least v_greatest v_things v_changing v_overLow v_overHigh v_text v_length v_at v_readKey v_readCount v_keys v_h x2 r2 hg_r2) mv_X8_79 hl [] [0] 8 ⟨rfl, rfl⟩ ⟨Nat.le_of_ble_eq_true rfl, Nat.le_of_ble_eq_true rfl⟩ rfl rfl rfl rfl rfl rfl rfl (Nat.le_of_ble_eq_true rfl) dX8_count_9 (fun H locs hP hD hS => ?_)
    have hP : va_P D vwCl [W_Model k b0 o0 v_row v_number v_saved v_place v_low v_high v_lowBefore v_highBefore v_least v_greatest v_things v_changing v_overLow v_overHigh v_text v_length v_at v_readKey v_readCount v_keys v_h].flatten _ := hP
    have hD : va_D A [W_Model k b0 o0 v_row v_number v_saved v_place v_low v_high v_lowBefore v_highBefore v_least v_greatest v_things v_changing v_overLow v_overHigh v_text v_length v_at v_readKey v_readCount v_keys v_h].flatten := hD
    refine lv_if_ne (tgt := 19) hx hb dX8_count_12 (by decide) (fun hc => ?_) (fun hc => ?_)
    · have hf := ofneg hf hc
      refine lv_iload_n hx hb dX8_count_19 rfl (lv_at hl 3 rfl) ?_
      refine lv_iconst (v := 1) hx hb dX8_count_20 (by decide) ?_
      refine lv_ldc (v := 1000000) hx hb hown (hts _ kc_X8_105) dX8_count_21 ?_
      obtain ⟨r3, hg_r3, hf⟩ := ofbind hf
      refine kcS (bs := [W_Model k b0 o0 v_row v_number v_saved v_place v_low v_high v_lowBefore v_highBefore v_least v_greatest v_things v_changing v_overLow v_overHigh v_text v_length v_at v_readKey v_readCount v_keys v_h]) (br := [W_Model k b0 o0 v_row v_number v_saved v_place v_low v_high v_lowBefore v_highBefore v_least v_greatest v_things v_changing v_overLow v_overHigh v_text v_length v_at v_readKey v_readCount v_keys v_h]) (bc := []) (bc' := []) X hP hD hS (c_Model_in l D k t x3 1 1000000 r3 hg_r3) ms_X8_61 hl [0] [] ⟨rfl, rfl⟩ ⟨Nat.le_of_ble_eq_true rfl, Nat.le_of_ble_eq_true rfl⟩ rfl rfl rfl rfl (Nat.le_of_ble_eq_true rfl) dX8_count_23 (fun H locs hP hD hS => ?_)
      have hP : va_P D vwCl [W_Model k b0 o0 v_row v_number v_saved v_place v_low v_high v_lowBefore v_highBefore v_least v_greatest v_things v_changing v_overLow v_overHigh v_text v_length v_at v_readKey v_readCount v_keys v_h].flatten _ := hP
      have hD : va_D A [W_Model k b0 o0 v_row v_number v_saved v_place v_low v_high v_lowBefore v_highBefore v_least v_greatest v_things v_changing v_overLow v_overHigh v_text v_length v_at v_readKey v_readCount v_keys v_h].flatten := hD
      refine lv_if_ne (tgt := 33) hx hb dX8_count_26 (by decide) (fun hc => ?_) (fun hc => ?_)
      · have hf := ofneg hf hc
        refine lv_aload_n hx hb dX8_count_33 rfl (lv_at hl 0 rfl) ?_
        refine lv_iload_n hx hb dX8_count_34 rfl (lv_at hl 1 rfl) ?_
        refine lv_iload_n hx hb dX8_count_35 rfl (lv_at hl 2 rfl) ?_
        obtain ⟨r4, hg_r4, hf⟩ := ofbind hf
        refine kcV (bs := [W_Model k b0 o0 v_row v_number v_saved v_place v_low v_high v_lowBefore v_highBefore v_least v_greatest v_things v_changing v_overLow v_overHigh v_text v_length v_at v_readKey v_readCount v_keys v_h]) (br := []) (bc := [W_Model k b0 o0 v_row v_number v_saved v_place v_low v_high v_lowBefore v_highBefore v_least v_greatest v_things v_changing v_overLow v_overHigh v_text v_length v_at v_readKey v_readCount v_keys v_h]) (bc' := [W_Model k b0 o0 v_row v_number v_saved v_place v_low v_high v_lowBefore v_highBefore v_least v_greatest v_things v_changing v_overLow v_overHigh v_text v_length v_at v_readKey v_readCount v_keys v_h]) X hP hD hS (c_Model_truthAt l D k t b0 o0 v_row v_number v_saved v_place v_low v_high v_lowBefore v_highBefore v_least v_greatest v_things v_changing v_overLow v_overHigh v_text v_length v_at v_readKey v_readCount v_keys v_h x1 x2 r4 hg_r4) mv_X8_108 hl [] [0] 8 ⟨rfl, rfl⟩ ⟨Nat.le_of_ble_eq_true rfl, Nat.le_of_ble_eq_true rfl⟩ rfl rfl rfl rfl rfl rfl rfl (Nat.le_of_ble_eq_true rfl) dX8_count_36 (fun H locs hP hD hS => ?_)
        have hP : va_P D vwCl [W_Model k b0 o0 v_row v_number v_saved v_place v_low v_high v_lowBefore v_highBefore v_least v_greatest v_things v_changing v_overLow v_overHigh v_text v_length v_at v_readKey v_readCount v_keys v_h].flatten _ := hP
        have hD : va_D A [W_Model k b0 o0 v_row v_number v_saved v_place v_low v_high v_lowBefore v_highBefore v_least v_greatest v_things v_changing v_overLow v_overHigh v_text v_length v_at v_readKey v_readCount v_keys v_h].flatten := hD
        refine lv_iload_n hx hb dX8_count_39 rfl (lv_at hl 3 rfl) ?_
        refine lv_i2l (v := x3.toInt64) hx hb dX8_count_40 rfl ?_
        refine lv_ladd hx hb dX8_count_41 ?_
        refine lv_ldc2 (v := 1000000000) hx hb hown (hts _ kc_X8_112) dX8_count_42 ?_
        refine W.lcmp hx hb dX8_count_45 ?_
        refine lv_if_le (tgt := 53) hx hb dX8_count_46 (by decide) (fun hc => ?_) (fun hc => ?_)
        · have hc := lgm.mp hc
          have hf := ofpos hf hc
          refine lv_aload_n hx hb dX8_count_53 rfl (lv_at hl 0 rfl) ?_
          obtain ⟨r5, hg_r5, hf⟩ := ofbind hf
          refine kcV (bs := [W_Model k b0 o0 v_row v_number v_saved v_place v_low v_high v_lowBefore v_highBefore v_least v_greatest v_things v_changing v_overLow v_overHigh v_text v_length v_at v_readKey v_readCount v_keys v_h]) (br := []) (bc := [W_Model k b0 o0 v_row v_number v_saved v_place v_low v_high v_lowBefore v_highBefore v_least v_greatest v_things v_changing v_overLow v_overHigh v_text v_length v_at v_readKey v_readCount v_keys v_h]) (bc' := [W_Model k b0 o0 r5.1 r5.2.1 r5.2.2 v_place v_low v_high v_lowBefore v_highBefore v_least v_greatest v_things v_changing v_overLow v_overHigh v_text v_length v_at v_readKey v_readCount v_keys v_h]) X hP hD hS (c_Model_saves l D k t b0 o0 v_row v_number v_saved v_place v_low v_high v_lowBefore v_highBefore v_least v_greatest v_things v_changing v_overLow v_overHigh v_text v_length v_at v_readKey v_readCount v_keys v_h N r5 hg_r5) mv_X8_65 hl [] [0] 8 ⟨rfl, rfl⟩ ⟨Nat.le_of_ble_eq_true rfl, Nat.le_of_ble_eq_true rfl⟩ rfl rfl rfl rfl rfl rfl rfl (Nat.le_of_ble_eq_true rfl) dX8_count_54 (fun H locs hP hD hS => ?_)
          have hP : va_P D vwCl [W_Model k b0 o0 r5.1 r5.2.1 r5.2.2 v_place v_low v_high v_lowBefore v_highBefore v_least v_greatest v_things v_changing v_overLow v_overHigh v_text v_length v_at v_readKey v_readCount v_keys v_h].flatten _ := hP
          have hD : va_D A [W_Model k b0 o0 r5.1 r5.2.1 r5.2.2 v_place v_low v_high v_lowBefore v_highBefore v_least v_greatest v_things v_changing v_overLow v_overHigh v_text v_length v_at v_readKey v_readCount v_keys v_h].flatten := hD
          refine lv_aload_n hx hb dX8_count_57 rfl (lv_at hl 0 rfl) ?_
          refine lv_iload_n hx hb dX8_count_58 rfl (lv_at hl 1 rfl) ?_
          refine lv_iload_n hx hb dX8_count_59 rfl (lv_at hl 2 rfl) ?_
          refine lv_iload_n hx hb dX8_count_60 rfl (lv_at hl 3 rfl) ?_
          refine lv_i2l (v := x3.toInt64) hx hb dX8_count_61 rfl ?_
          obtain ⟨r6, hg_r6, hf⟩ := ofbind hf
          refine kcV (bs := [W_Model k b0 o0 r5.1 r5.2.1 r5.2.2 v_place v_low v_high v_lowBefore v_highBefore v_least v_greatest v_things v_changing v_overLow v_overHigh v_text v_length v_at v_readKey v_readCount v_keys v_h]) (br := []) (bc := [W_Model k b0 o0 r5.1 r5.2.1 r5.2.2 v_place v_low v_high v_lowBefore v_highBefore v_least v_greatest v_things v_changing v_overLow v_overHigh v_text v_length v_at v_readKey v_readCount v_keys v_h]) (bc' := [W_Model k b0 o0 r6.1 r6.2 r5.2.2 v_place v_low v_high v_lowBefore v_highBefore v_least v_greatest v_things v_changing v_overLow v_overHigh v_text v_length v_at v_readKey v_readCount v_keys v_h]) X hP hD hS (c_Model_counts l D k t b0 o0 r5.1 r5.2.1 r5.2.2 v_place v_low v_high v_lowBefore v_highBefore v_least v_greatest v_things v_changing v_overLow v_overHigh v_text v_length v_at v_readKey v_readCount v_keys v_h x1 x2 x3.toInt64 N r6 hg_r6) mv_X8_116 hl [] [0] 8 ⟨rfl, rfl⟩ ⟨Nat.le_of_ble_eq_true rfl, Nat.le_of_ble_eq_true rfl⟩ rfl rfl rfl rfl rfl rfl rfl (Nat.le_of_ble_eq_true rfl) dX8_count_62 (fun H locs hP hD hS => ?_)
          have hP : va_P D vwCl [W_Model k b0 o0 r6.1 r6.2 r5.2.2 v_place v_low v_high v_lowBefore v_highBefore v_least v_greatest v_things v_changing v_overLow v_overHigh v_text v_length v_at v_readKey v_readCount v_keys v_h].flatten _ := hP
          have hD : va_D A [W_Model k b0 o0 r6.1 r6.2 r5.2.2 v_place v_low v_high v_lowBefore v_highBefore v_least v_greatest v_things v_changing v_overLow v_overHigh v_text v_length v_at v_readKey v_readCount v_keys v_h].flatten := hD
          refine lv_aload_n hx hb dX8_count_65 rfl (lv_at hl 0 rfl) ?_
          refine lv_iload_n hx hb dX8_count_66 rfl (lv_at hl 1 rfl) ?_
          refine lv_iload_n hx hb dX8_count_67 rfl (lv_at hl 2 rfl) ?_
          obtain ⟨r7, hg_r7, hf⟩ := ofbind hf
          refine kcV (bs := [W_Model k b0 o0 r6.1 r6.2 r5.2.2 v_place v_low v_high v_lowBefore v_highBefore v_least v_greatest v_things v_changing v_overLow v_overHigh v_text v_length v_at v_readKey v_readCount v_keys v_h]) (br := []) (bc := [W_Model k b0 o0 r6.1 r6.2 r5.2.2 v_place v_low v_high v_lowBefore v_highBefore v_least v_greatest v_things v_changing v_overLow v_overHigh v_text v_length v_at v_readKey v_readCount v_keys v_h]) (bc' := [W_Model k b0 o0 r6.1 r6.2 r5.2.2 v_place v_low v_high v_lowBefore v_highBefore v_least v_greatest v_things v_changing v_overLow v_overHigh v_text v_length v_at v_readKey v_readCount v_keys v_h]) X hP hD hS (c_Model_truthAt l D k t b0 o0 r6.1 r6.2 r5.2.2 v_place v_low v_high v_lowBefore v_highBefore v_least v_greatest v_things v_changing v_overLow v_overHigh v_text v_length v_at v_readKey v_readCount v_keys v_h x1 x2 r7 hg_r7) mv_X8_108 hl [] [0] 8 ⟨rfl, rfl⟩ ⟨Nat.le_of_ble_eq_true rfl, Nat.le_of_ble_eq_true rfl⟩ rfl rfl rfl rfl rfl rfl rfl (Nat.le_of_ble_eq_true rfl) dX8_count_68 (fun H locs hP hD hS => ?_)
          have hP : va_P D vwCl [W_Model k b0 o0 r6.1 r6.2 r5.2.2 v_place v_low v_high v_lowBefore v_highBefore v_least v_greatest v_things v_changing v_overLow v_overHigh v_text v_length v_at v_readKey v_readCount v_keys v_h].flatten _ := hP
          have hD : va_D A [W_Model k b0 o0 r6.1 r6.2 r5.2.2 v_place v_low v_high v_lowBefore v_highBefore v_least v_greatest v_things v_changing v_overLow v_overHigh v_text v_length v_at v_readKey v_readCount v_keys v_h].flatten := hD
          have hf := Option.some.inj hf
          subst hf
          exact klret (v := r7) X hP hD hS dX8_count_71
        · have hc := fun z => hc (lgm.mpr z)
          have hf := ofneg hf hc
          refine lv_ldc2 (v := (-5)) hx hb hown (hts _ kc_X8_114) dX8_count_49 ?_
          have hf := Option.some.inj hf
          subst hf
          exact klret (v := (-5)) X hP hD hS dX8_count_52
      · have hf := ofpos hf hc
        refine lv_ldc2 (v := (-3)) hx hb hown (hts _ kc_X8_106) dX8_count_29 ?_
        have hf := Option.some.inj hf
        subst hf
        exact klret (v := (-3)) X hP hD hS dX8_count_32
    · have hf := ofpos hf hc
      refine lv_ldc2 (v := (-2)) hx hb hown (hts _ kc_X8_103) dX8_count_15 ?_
      have hf := Option.some.inj hf
      subst hf
      exact klret (v := (-2)) X hP hD hS dX8_count_18
/-! Model_addBraid: public int addBraid(int, int); -/
abbrev rm_Model_addBraid : Room := ({ frames := 2, cells := 0, slots := 0, locals := 54 } : Room)
def f_Model_addBraid_L27 (i5 : Int32) (i6 : Int32) (c8 : FI) (c9 : FJ) (c10 : Int32) (K67 : Int32 → Option (Int32 × FI × FJ × Int32)) : Nat → Int32 → Option (Int32 × FI × FJ × Int32)
  | 0, _ => none
  | n + 1, i7 => if ck 6 1002 = true then if (c8 (6 : Int32).toNatClampNeg) ≤ i7 then K67 i7 else (f_Model_truthAt i5 i7 c9).bind (fun r11 => (f_Model_truthAt i6 i7 c9).bind (fun r12 => if (r11 + r12) ≤ 1000000000 then f_Model_addBraid_L27 i5 i6 c8 c9 c10 K67 n (i7 + 1) else some ((-5), c8, c9, c10))) else none
def f_Model_addBraid_L73 (i16 : Int32) (i17 : Int32) (K110 : Int32 → FJ → Option (Int32 × FI × FJ × Int32)) : Nat → Int32 → FJ → Option (Int32 × FI × FJ × Int32)
  | 0, _, _ => none
  | n + 1, i18, c20 => if 32 ≤ i18 then K110 i18 c20 else if ck ((32 * i17) + i18) 576 = true then if ck ((32 * i16) + i18) 576 = true then if ck ((32 * i17) + i18) 576 = true then f_Model_addBraid_L73 i16 i17 K110 n (i18 + 1) (vp_updL c20 ((32 * i17) + i18).toNatClampNeg ((c20 ((32 * i17) + i18).toNatClampNeg) + (c20 ((32 * i16) + i18).toNatClampNeg))) else none else none else none
def f_Model_addBraid_J181 (j46 : Int32) (j47 : Int32) (j48 : Int32) (j49 : Int32) (c50 : FI) (c51 : FJ) (B115 : Int32 → Int32 → FI → FJ → Option (Int32 × FI × FJ × Int32)) : Option (Int32 × FI × FJ × Int32) := if j49 = 0 then (f_Model_marked j46 j48 c50).bind (fun r53 => if r53 = 0 then B115 (j47 + 0) (j48 + 1) c50 c51 else B115 (j47 + 1) (j48 + 1) c50 c51) else B115 (j47 + 0) (j48 + 1) c50 c51
def f_Model_addBraid_L115 (N : Nat) (i34 : Int32) (i35 : Int32) (K210 : Int32 → Int32 → FI → FJ → Option (Int32 × FI × FJ × Int32)) : Nat → Int32 → Int32 → FI → FJ → Option (Int32 × FI × FJ × Int32)
  | 0, _, _, _, _ => none
  | n + 1, i36, i37, c38, c39 => if ck 0 1002 = true then if (c38 (0 : Int32).toNatClampNeg) ≤ i37 then K210 i36 i37 c38 c39 else (f_Model_marked i35 i37 c38).bind (fun r41 => (f_Model_restAt i34 i37 c38).bind (fun r42 => (f_Model_grows N i35 i37 r42.toInt64 c38 c39).bind (fun r43 => (f_Model_marked i34 i37 r43.2.1).bind (fun r44 => if r44 = 0 then f_Model_addBraid_J181 i35 i36 i37 r41 r43.2.1 r43.2.2 (f_Model_addBraid_L115 N i34 i35 K210 n) else if ck (((23 + (48 * i35)) + 24) + i37) 1002 = true then f_Model_addBraid_J181 i35 i36 i37 r41 (upd r43.2.1 (((23 + (48 * i35)) + 24) + i37).toNatClampNeg 1) r43.2.2 (f_Model_addBraid_L115 N i34 i35 K210 n) else none)))) else none
def f_Model_addBraid (N : Nat) (x1 : Int32) (x2 : Int32) (v_row : FI) (v_number : FJ) (v_saved : Int32) : Option (Int32 × FI × FJ × Int32) := (f_Model_isBraid x1).bind (fun r1 => if r1 = 0 then some ((-2), v_row, v_number, v_saved) else (f_Model_isBraid x2).bind (fun r2 => if r2 = 0 then some ((-2), v_row, v_number, v_saved) else if x1 = x2 then some ((-3), v_row, v_number, v_saved) else f_Model_addBraid_L27 x1 x2 v_row v_number v_saved (fun i13 => (f_Model_saves N v_row v_number v_saved).bind (fun r14 => f_Model_addBraid_L73 x1 x2 (fun i23 c24 => f_Model_addBraid_L115 N x1 x2 (fun i55 i56 c57 c58 => some (i55, c57, c58, r14.2.2)) N 0 0 r14.1 c24) N 0 r14.2.1)) N 0))
abbrev Q_Model_addBraid (below : List Frame) (D : va_G) (k : Nat → ClassId) (A : Nat → Prop) (args : Array Value) (s : State) (b0 : Nat → Nat) (o0 : Nat) (v_row : FI) (v_number : FJ) (v_saved : Int32) (v_place : FI) (v_low : FJ) (v_high : FJ) (v_lowBefore : FJ) (v_highBefore : FJ) (v_least : FJ) (v_greatest : FJ) (v_things : Int32) (v_changing : Int32) (v_overLow : FJ) (v_overHigh : FJ) (v_text : FI) (v_length : Int32) (v_at : Int32) (v_readKey : FI) (v_readCount : FJ) (v_keys : Int32) (v_h : Int64) (out : Int32 × FI × FJ × Int32) : State → Prop := MQ below (QW D k A (some (.int out.1)) [W_Model k b0 o0 out.2.1 out.2.2.1 out.2.2.2 v_place v_low v_high v_lowBefore v_highBefore v_least v_greatest v_things v_changing v_overLow v_overHigh v_text v_length v_at v_readKey v_readCount v_keys v_h].flatten) args s 0 0 A
set_option maxRecDepth 100000 in
set_option maxHeartbeats 1000000 in
theorem w_Model_addBraid_L27 {p : Program} {l : Launch} {e : Env} {s : State} {m : MethodId} {below : List Frame} {meth : Method} {c : Code} {args : Array Value} {A : Nat → Prop} {D : va_G} {k : Nat → ClassId} {t : Nat → Nat} (X : BX l D k t p s m args meth c cX8_addBraid 7 RX8 (some .int) A) (b0 : Nat → Nat) (o0 : Nat) (v_row : FI) (v_number : FJ) (v_saved : Int32) (v_place : FI) (v_low : FJ) (v_high : FJ) (v_lowBefore : FJ) (v_highBefore : FJ) (v_least : FJ) (v_greatest : FJ) (v_things : Int32) (v_changing : Int32) (v_overLow : FJ) (v_overHigh : FJ) (v_text : FI) (v_length : Int32) (v_at : Int32) (v_readKey : FI) (v_readCount : FJ) (v_keys : Int32) (v_h : Int64) (N : Nat) (i5 : Int32) (i6 : Int32) (c8 : FI) (c9 : FJ) (c10 : Int32) (out : Int32 × FI × FJ × Int32) (K67 : Int32 → Option (Int32 × FI × FJ × Int32)) (hK67 : ∀ (i7' : Int32) (H : Heap) (locs : List Loc) (ls : Array Slot), va_P D vwCl [W_Model k b0 o0 c8 c9 c10 v_place v_low v_high v_lowBefore v_highBefore v_least v_greatest v_things v_changing v_overLow v_overHigh v_text v_length v_at v_readKey v_readCount v_keys v_h].flatten H → va_D A [W_Model k b0 o0 c8 c9 c10 v_place v_low v_high v_lowBefore v_highBefore v_least v_greatest v_things v_changing v_overLow v_overHigh v_text v_length v_at v_readKey v_readCount v_keys v_h].flatten → va_S A s.heap H locs → lv_has ls 7 [(0, .ref (b0 o0)), (1, .int i5), (2, .int i6)] → K67 i7' = some out → W p l e rm_Model_addBraid s m args below meth c H locs 0 0 (Q_Model_addBraid below D k A args s b0 o0 v_row v_number v_saved v_place v_low v_high v_lowBefore v_highBefore v_least v_greatest v_things v_changing v_overLow v_overHigh v_text v_length v_at v_readKey v_readCount v_keys v_h out) (F0 m 67 ls [])) : ∀ (n : Nat) (i7 : Int32) (H : Heap) (locs : List Loc) (ls : Array Slot), va_P D vwCl [W_Model k b0 o0 c8 c9 c10 v_place v_low v_high v_lowBefore v_highBefore v_least v_greatest v_things v_changing v_overLow v_overHigh v_text v_length v_at v_readKey v_readCount v_keys v_h].flatten H → va_D A [W_Model k b0 o0 c8 c9 c10 v_place v_low v_high v_lowBefore v_highBefore v_least v_greatest v_things v_changing v_overLow v_overHigh v_text v_length v_at v_readKey v_readCount v_keys v_h].flatten → va_S A s.heap H locs → lv_has ls 7 [(0, .ref (b0 o0)), (1, .int i5), (2, .int i6), (3, .int i7)] → f_Model_addBraid_L27 i5 i6 c8 c9 c10 K67 n i7 = some out → W p l e rm_Model_addBraid s m args below meth c H locs 0 0 (Q_Model_addBraid below D k A args s b0 o0 v_row v_number v_saved v_place v_low v_high v_lowBefore v_highBefore v_least v_greatest v_things v_changing v_overLow v_overHigh v_text v_length v_at v_readKey v_readCount v_keys v_h out) (F0 m 27 ls []) := by
  have hx := X.1.1
  have hb := X.1.2.1
  have hml := X.1.2.2.1
  have hown := X.1.2.2.2.1
  have hts := X.1.2.2.2.2
  intro n
  induction n with
  | zero =>
    intro i7 H locs ls hP hD hS hl hf
    rw [f_Model_addBraid_L27] at hf
    cases hf
  | succ n ih =>
    intro i7 H locs ls hP hD hS hl hf
    rw [f_Model_addBraid_L27] at hf
    refine lv_iload_n hx hb dX8_addBraid_27 rfl (lv_at hl 3 rfl) ?_
    refine lv_aload_n hx hb dX8_addBraid_28 rfl (lv_at hl 0 rfl) ?_
    refine kget (v := .ref (b0 (o0+1))) X hP ff_X8_7 0 rfl rfl dX8_addBraid_29 ?_
    refine lv_bipush (v := 6) hx hb dX8_addBraid_32 (by decide) ?_
    obtain ⟨hc, hf⟩ := ofck hf
    refine kiald (f := c8) (n := 1002) X hP 1 rfl hc dX8_addBraid_34 ?_
    refine lv_icmp_ge (tgt := 67) hx hb dX8_addBraid_35 (by decide) (fun hc => ?_) (fun hc => ?_)
    · have hf := ofpos hf hc
      exact hK67 i7 _ _ _ hP hD hS (lv_sub hl [0, 1, 2] rfl) hf
    · have hf := ofneg hf hc
      refine lv_aload_n hx hb dX8_addBraid_38 rfl (lv_at hl 0 rfl) ?_
      refine lv_iload_n hx hb dX8_addBraid_39 rfl (lv_at hl 1 rfl) ?_
      refine lv_iload_n hx hb dX8_addBraid_40 rfl (lv_at hl 3 rfl) ?_
      obtain ⟨r11, hg_r11, hf⟩ := ofbind hf
      refine kcV (bs := [W_Model k b0 o0 c8 c9 c10 v_place v_low v_high v_lowBefore v_highBefore v_least v_greatest v_things v_changing v_overLow v_overHigh v_text v_length v_at v_readKey v_readCount v_keys v_h]) (br := []) (bc := [W_Model k b0 o0 c8 c9 c10 v_place v_low v_high v_lowBefore v_highBefore v_least v_greatest v_things v_changing v_overLow v_overHigh v_text v_length v_at v_readKey v_readCount v_keys v_h]) (bc' := [W_Model k b0 o0 c8 c9 c10 v_place v_low v_high v_lowBefore v_highBefore v_least v_greatest v_things v_changing v_overLow v_overHigh v_text v_length v_at v_readKey v_readCount v_keys v_h]) X hP hD hS (c_Model_truthAt l D k t b0 o0 c8 c9 c10 v_place v_low v_high v_lowBefore v_highBefore v_least v_greatest v_things v_changing v_overLow v_overHigh v_text v_length v_at v_readKey v_readCount v_keys v_h i5 i7 r11 hg_r11) mv_X8_108 hl [] [0] 8 ⟨rfl, rfl⟩ ⟨Nat.le_of_ble_eq_true rfl, Nat.le_of_ble_eq_true rfl⟩ rfl rfl rfl rfl rfl rfl rfl (Nat.le_of_ble_eq_true rfl) dX8_addBraid_41 (fun H locs hP hD hS => ?_)
      have hP : va_P D vwCl [W_Model k b0 o0 c8 c9 c10 v_place v_low v_high v_lowBefore v_highBefore v_least v_greatest v_things v_changing v_overLow v_overHigh v_text v_length v_at v_readKey v_readCount v_keys v_h].flatten _ := hP
      have hD : va_D A [W_Model k b0 o0 c8 c9 c10 v_place v_low v_high v_lowBefore v_highBefore v_least v_greatest v_things v_changing v_overLow v_overHigh v_text v_length v_at v_readKey v_readCount v_keys v_h].flatten := hD
      refine lv_aload_n hx hb dX8_addBraid_44 rfl (lv_at hl 0 rfl) ?_
      refine lv_iload_n hx hb dX8_addBraid_45 rfl (lv_at hl 2 rfl) ?_
      refine lv_iload_n hx hb dX8_addBraid_46 rfl (lv_at hl 3 rfl) ?_
      obtain ⟨r12, hg_r12, hf⟩ := ofbind hf
      refine kcV (bs := [W_Model k b0 o0 c8 c9 c10 v_place v_low v_high v_lowBefore v_highBefore v_least v_greatest v_things v_changing v_overLow v_overHigh v_text v_length v_at v_readKey v_readCount v_keys v_h]) (br := []) (bc := [W_Model k b0 o0 c8 c9 c10 v_place v_low v_high v_lowBefore v_highBefore v_least v_greatest v_things v_changing v_overLow v_overHigh v_text v_length v_at v_readKey v_readCount v_keys v_h]) (bc' := [W_Model k b0 o0 c8 c9 c10 v_place v_low v_high v_lowBefore v_highBefore v_least v_greatest v_things v_changing v_overLow v_overHigh v_text v_length v_at v_readKey v_readCount v_keys v_h]) X hP hD hS (c_Model_truthAt l D k t b0 o0 c8 c9 c10 v_place v_low v_high v_lowBefore v_highBefore v_least v_greatest v_things v_changing v_overLow v_overHigh v_text v_length v_at v_readKey v_readCount v_keys v_h i6 i7 r12 hg_r12) mv_X8_108 hl [] [0] 8 ⟨rfl, rfl⟩ ⟨Nat.le_of_ble_eq_true rfl, Nat.le_of_ble_eq_true rfl⟩ rfl rfl rfl rfl rfl rfl rfl (Nat.le_of_ble_eq_true rfl) dX8_addBraid_47 (fun H locs hP hD hS => ?_)
      have hP : va_P D vwCl [W_Model k b0 o0 c8 c9 c10 v_place v_low v_high v_lowBefore v_highBefore v_least v_greatest v_things v_changing v_overLow v_overHigh v_text v_length v_at v_readKey v_readCount v_keys v_h].flatten _ := hP
      have hD : va_D A [W_Model k b0 o0 c8 c9 c10 v_place v_low v_high v_lowBefore v_highBefore v_least v_greatest v_things v_changing v_overLow v_overHigh v_text v_length v_at v_readKey v_readCount v_keys v_h].flatten := hD
      refine lv_ladd hx hb dX8_addBraid_50 ?_
      refine lv_ldc2 (v := 1000000000) hx hb hown (hts _ kc_X8_112) dX8_addBraid_51 ?_
      refine W.lcmp hx hb dX8_addBraid_54 ?_
      refine lv_if_le (tgt := 61) hx hb dX8_addBraid_55 (by decide) (fun hc => ?_) (fun hc => ?_)
      · have hc := lgm.mp hc
        have hf := ofpos hf hc
        refine lv_iinc (v := i7 + 1) (lv' := [(3, .int (i7 + 1)), (0, .ref (b0 o0)), (1, .int i5), (2, .int i6)]) hx hb dX8_addBraid_61 hl (k := 3) rfl rfl (by decide) rfl (fun ls hl => ?_)
        refine lv_goto (tgt := 27) hx hb dX8_addBraid_64 (by decide) ?_
        exact ih (i7 + 1) _ _ _ hP hD hS (lv_sub hl [1, 2, 3, 0] rfl) hf
      · have hc := fun z => hc (lgm.mpr z)
        have hf := ofneg hf hc
        refine lv_bipush (v := (-5)) hx hb dX8_addBraid_58 (by decide) ?_
        have hf := Option.some.inj hf
        subst hf
        exact kiret (v := (-5)) X hP hD hS dX8_addBraid_60
set_option maxRecDepth 100000 in
set_option maxHeartbeats 1000000 in
theorem w_Model_addBraid_L73 {p : Program} {l : Launch} {e : Env} {s : State} {m : MethodId} {below : List Frame} {meth : Method} {c : Code} {args : Array Value} {A : Nat → Prop} {D : va_G} {k : Nat → ClassId} {t : Nat → Nat} (X : BX l D k t p s m args meth c cX8_addBraid 7 RX8 (some .int) A) (b0 : Nat → Nat) (o0 : Nat) (v_row : FI) (v_number : FJ) (v_saved : Int32) (v_place : FI) (v_low : FJ) (v_high : FJ) (v_lowBefore : FJ) (v_highBefore : FJ) (v_least : FJ) (v_greatest : FJ) (v_things : Int32) (v_changing : Int32) (v_overLow : FJ) (v_overHigh : FJ) (v_text : FI) (v_length : Int32) (v_at : Int32) (v_readKey : FI) (v_readCount : FJ) (v_keys : Int32) (v_h : Int64) (N : Nat) (i16 : Int32) (i17 : Int32) (c19 : FI) (c21 : Int32) (out : Int32 × FI × FJ × Int32) (K110 : Int32 → FJ → Option (Int32 × FI × FJ × Int32)) (hK110 : ∀ (i18' : Int32) (c20' : FJ) (H : Heap) (locs : List Loc) (ls : Array Slot), va_P D vwCl [W_Model k b0 o0 c19 c20' c21 v_place v_low v_high v_lowBefore v_highBefore v_least v_greatest v_things v_changing v_overLow v_overHigh v_text v_length v_at v_readKey v_readCount v_keys v_h].flatten H → va_D A [W_Model k b0 o0 c19 c20' c21 v_place v_low v_high v_lowBefore v_highBefore v_least v_greatest v_things v_changing v_overLow v_overHigh v_text v_length v_at v_readKey v_readCount v_keys v_h].flatten → va_S A s.heap H locs → lv_has ls 7 [(0, .ref (b0 o0)), (1, .int i16), (2, .int i17)] → K110 i18' c20' = some out → W p l e rm_Model_addBraid s m args below meth c H locs 0 0 (Q_Model_addBraid below D k A args s b0 o0 v_row v_number v_saved v_place v_low v_high v_lowBefore v_highBefore v_least v_greatest v_things v_changing v_overLow v_overHigh v_text v_length v_at v_readKey v_readCount v_keys v_h out) (F0 m 110 ls [])) : ∀ (n : Nat) (i18 : Int32) (c20 : FJ) (H : Heap) (locs : List Loc) (ls : Array Slot), va_P D vwCl [W_Model k b0 o0 c19 c20 c21 v_place v_low v_high v_lowBefore v_highBefore v_least v_greatest v_things v_changing v_overLow v_overHigh v_text v_length v_at v_readKey v_readCount v_keys v_h].flatten H → va_D A [W_Model k b0 o0 c19 c20 c21 v_place v_low v_high v_lowBefore v_highBefore v_least v_greatest v_things v_changing v_overLow v_overHigh v_text v_length v_at v_readKey v_readCount v_keys v_h].flatten → va_S A s.heap H locs → lv_has ls 7 [(0, .ref (b0 o0)), (1, .int i16), (2, .int i17), (3, .int i18)] → f_Model_addBraid_L73 i16 i17 K110 n i18 c20 = some out → W p l e rm_Model_addBraid s m args below meth c H locs 0 0 (Q_Model_addBraid below D k A args s b0 o0 v_row v_number v_saved v_place v_low v_high v_lowBefore v_highBefore v_least v_greatest v_things v_changing v_overLow v_overHigh v_text v_length v_at v_readKey v_readCount v_keys v_h out) (F0 m 73 ls []) := by
  have hx := X.1.1
  have hb := X.1.2.1
  have hml := X.1.2.2.1
  have hown := X.1.2.2.2.1
  have hts := X.1.2.2.2.2
  intro n
  induction n with
  | zero =>
    intro i18 c20 H locs ls hP hD hS hl hf
    rw [f_Model_addBraid_L73] at hf
    cases hf
  | succ n ih =>
    intro i18 c20 H locs ls hP hD hS hl hf
    rw [f_Model_addBraid_L73] at hf
    refine lv_iload_n hx hb dX8_addBraid_73 rfl (lv_at hl 3 rfl) ?_
    refine lv_bipush (v := 32) hx hb dX8_addBraid_74 (by decide) ?_
    refine lv_icmp_ge (tgt := 110) hx hb dX8_addBraid_76 (by decide) (fun hc => ?_) (fun hc => ?_)
    · have hf := ofpos hf hc
      exact hK110 i18 c20 _ _ _ hP hD hS (lv_sub hl [0, 1, 2] rfl) hf
    · have hf := ofneg hf hc
      refine lv_aload_n hx hb dX8_addBraid_79 rfl (lv_at hl 0 rfl) ?_
      refine kget (v := .ref (b0 (o0+2))) X hP ff_X8_13 0 rfl rfl dX8_addBraid_80 ?_
      refine lv_bipush (v := 32) hx hb dX8_addBraid_83 (by decide) ?_
      refine lv_iload_n hx hb dX8_addBraid_85 rfl (lv_at hl 2 rfl) ?_
      refine lv_imul hx hb dX8_addBraid_86 ?_
      refine lv_iload_n hx hb dX8_addBraid_87 rfl (lv_at hl 3 rfl) ?_
      refine lv_iadd hx hb dX8_addBraid_88 ?_
      refine lv_dup2_11 hx hb dX8_addBraid_89 rfl rfl ?_
      obtain ⟨hc, hf⟩ := ofck hf
      refine klald (f := c20) (n := 576) X hP 2 rfl hc dX8_addBraid_90 ?_
      refine lv_aload_n hx hb dX8_addBraid_91 rfl (lv_at hl 0 rfl) ?_
      refine kget (v := .ref (b0 (o0+2))) X hP ff_X8_13 0 rfl rfl dX8_addBraid_92 ?_
      refine lv_bipush (v := 32) hx hb dX8_addBraid_95 (by decide) ?_
      refine lv_iload_n hx hb dX8_addBraid_97 rfl (lv_at hl 1 rfl) ?_
      refine lv_imul hx hb dX8_addBraid_98 ?_
      refine lv_iload_n hx hb dX8_addBraid_99 rfl (lv_at hl 3 rfl) ?_
      refine lv_iadd hx hb dX8_addBraid_100 ?_
      obtain ⟨hc, hf⟩ := ofck hf
      refine klald (f := c20) (n := 576) X hP 2 rfl hc dX8_addBraid_101 ?_
      refine lv_ladd hx hb dX8_addBraid_102 ?_
      obtain ⟨hc, hf⟩ := ofck hf
      generalize hc22 : vp_updL c20 ((32 * i17) + i18).toNatClampNeg ((c20 ((32 * i17) + i18).toNatClampNeg) + (c20 ((32 * i16) + i18).toNatClampNeg)) = c22 at hf
      refine klast2 (f := c20) (n := 576) (g := c22) X hP hD hS 2 rfl hc hc22 dX8_addBraid_103 (fun H locs hP hD hS => ?_)
      have hP : va_P D vwCl [W_Model k b0 o0 c19 c22 c21 v_place v_low v_high v_lowBefore v_highBefore v_least v_greatest v_things v_changing v_overLow v_overHigh v_text v_length v_at v_readKey v_readCount v_keys v_h].flatten _ := hP
      have hD : va_D A [W_Model k b0 o0 c19 c22 c21 v_place v_low v_high v_lowBefore v_highBefore v_least v_greatest v_things v_changing v_overLow v_overHigh v_text v_length v_at v_readKey v_readCount v_keys v_h].flatten := hD
      refine lv_iinc (v := i18 + 1) (lv' := [(3, .int (i18 + 1)), (0, .ref (b0 o0)), (1, .int i16), (2, .int i17)]) hx hb dX8_addBraid_104 hl (k := 3) rfl rfl (by decide) rfl (fun ls hl => ?_)
      refine lv_goto (tgt := 73) hx hb dX8_addBraid_107 (by decide) ?_
      exact ih (i18 + 1) c22 _ _ _ hP hD hS (lv_sub hl [1, 2, 3, 0] rfl) hf
set_option maxRecDepth 100000 in
set_option maxHeartbeats 1000000 in
theorem w_Model_addBraid_J181 {p : Program} {l : Launch} {e : Env} {s : State} {m : MethodId} {below : List Frame} {meth : Method} {c : Code} {args : Array Value} {A : Nat → Prop} {D : va_G} {k : Nat → ClassId} {t : Nat → Nat} (X : BX l D k t p s m args meth c cX8_addBraid 7 RX8 (some .int) A) (b0 : Nat → Nat) (o0 : Nat) (v_row : FI) (v_number : FJ) (v_saved : Int32) (v_place : FI) (v_low : FJ) (v_high : FJ) (v_lowBefore : FJ) (v_highBefore : FJ) (v_least : FJ) (v_greatest : FJ) (v_things : Int32) (v_changing : Int32) (v_overLow : FJ) (v_overHigh : FJ) (v_text : FI) (v_length : Int32) (v_at : Int32) (v_readKey : FI) (v_readCount : FJ) (v_keys : Int32) (v_h : Int64) (N : Nat) (j45 : Int32) (j46 : Int32) (j47 : Int32) (j48 : Int32) (j49 : Int32) (c50 : FI) (c51 : FJ) (c52 : Int32) (out : Int32 × FI × FJ × Int32) (B115 : Int32 → Int32 → FI → FJ → Option (Int32 × FI × FJ × Int32)) (hB115 : ∀ (i36' : Int32) (i37' : Int32) (c38' : FI) (c39' : FJ) (H : Heap) (locs : List Loc) (ls : Array Slot), va_P D vwCl [W_Model k b0 o0 c38' c39' c52 v_place v_low v_high v_lowBefore v_highBefore v_least v_greatest v_things v_changing v_overLow v_overHigh v_text v_length v_at v_readKey v_readCount v_keys v_h].flatten H → va_D A [W_Model k b0 o0 c38' c39' c52 v_place v_low v_high v_lowBefore v_highBefore v_least v_greatest v_things v_changing v_overLow v_overHigh v_text v_length v_at v_readKey v_readCount v_keys v_h].flatten → va_S A s.heap H locs → lv_has ls 7 [(0, .ref (b0 o0)), (1, .int j45), (2, .int j46), (3, .int i36'), (4, .int i37')] → B115 i36' i37' c38' c39' = some out → W p l e rm_Model_addBraid s m args below meth c H locs 0 0 (Q_Model_addBraid below D k A args s b0 o0 v_row v_number v_saved v_place v_low v_high v_lowBefore v_highBefore v_least v_greatest v_things v_changing v_overLow v_overHigh v_text v_length v_at v_readKey v_readCount v_keys v_h out) (F0 m 115 ls [])) : ∀ (H : Heap) (locs : List Loc) (ls : Array Slot), va_P D vwCl [W_Model k b0 o0 c50 c51 c52 v_place v_low v_high v_lowBefore v_highBefore v_least v_greatest v_things v_changing v_overLow v_overHigh v_text v_length v_at v_readKey v_readCount v_keys v_h].flatten H → va_D A [W_Model k b0 o0 c50 c51 c52 v_place v_low v_high v_lowBefore v_highBefore v_least v_greatest v_things v_changing v_overLow v_overHigh v_text v_length v_at v_readKey v_readCount v_keys v_h].flatten → va_S A s.heap H locs → lv_has ls 7 [(0, .ref (b0 o0)), (1, .int j45), (2, .int j46), (3, .int j47), (4, .int j48), (5, .int j49)] → f_Model_addBraid_J181 j46 j47 j48 j49 c50 c51 B115 = some out → W p l e rm_Model_addBraid s m args below meth c H locs 0 0 (Q_Model_addBraid below D k A args s b0 o0 v_row v_number v_saved v_place v_low v_high v_lowBefore v_highBefore v_least v_greatest v_things v_changing v_overLow v_overHigh v_text v_length v_at v_readKey v_readCount v_keys v_h out) (F0 m 181 ls []) := by
  have hx := X.1.1
  have hb := X.1.2.1
  have hml := X.1.2.2.1
  have hown := X.1.2.2.2.1
  have hts := X.1.2.2.2.2
  intro H locs ls hP hD hS hl hf
  rw [f_Model_addBraid_J181] at hf
  refine lv_iload_n hx hb dX8_addBraid_181 rfl (lv_at hl 3 rfl) ?_
  refine lv_iload hx hb dX8_addBraid_182 (lv_at hl 5 rfl) ?_
  refine lv_if_ne (tgt := 201) hx hb dX8_addBraid_184 (by decide) (fun hc => ?_) (fun hc => ?_)
  · have hf := ofneg hf hc
    refine lv_iconst (v := 0) hx hb dX8_addBraid_201 (by decide) ?_
    refine lv_iadd hx hb dX8_addBraid_202 ?_
    refine lv_istore_n (lv' := [(3, .int (j47 + 0)), (0, .ref (b0 o0)), (1, .int j45), (2, .int j46), (4, .int j48), (5, .int j49)]) hx hb dX8_addBraid_203 rfl hl (by decide) rfl (fun ls hl => ?_)
    refine lv_iinc (v := j48 + 1) (lv' := [(4, .int (j48 + 1)), (3, .int (j47 + 0)), (0, .ref (b0 o0)), (1, .int j45), (2, .int j46), (5, .int j49)]) hx hb dX8_addBraid_204 hl (k := 4) rfl rfl (by decide) rfl (fun ls hl => ?_)
    refine lv_goto (tgt := 115) hx hb dX8_addBraid_207 (by decide) ?_
    exact hB115 (j47 + 0) (j48 + 1) c50 c51 _ _ _ hP hD hS (lv_sub hl [2, 3, 4, 1, 0] rfl) hf
  · have hf := ofpos hf hc
    refine lv_aload_n hx hb dX8_addBraid_187 rfl (lv_at hl 0 rfl) ?_
    refine lv_iload_n hx hb dX8_addBraid_188 rfl (lv_at hl 2 rfl) ?_
    refine lv_iload hx hb dX8_addBraid_189 (lv_at hl 4 rfl) ?_
    obtain ⟨r53, hg_r53, hf⟩ := ofbind hf
    refine kcV (bs := [W_Model k b0 o0 c50 c51 c52 v_place v_low v_high v_lowBefore v_highBefore v_least v_greatest v_things v_changing v_overLow v_overHigh v_text v_length v_at v_readKey v_readCount v_keys v_h]) (br := []) (bc := [W_Model k b0 o0 c50 c51 c52 v_place v_low v_high v_lowBefore v_highBefore v_least v_greatest v_things v_changing v_overLow v_overHigh v_text v_length v_at v_readKey v_readCount v_keys v_h]) (bc' := [W_Model k b0 o0 c50 c51 c52 v_place v_low v_high v_lowBefore v_highBefore v_least v_greatest v_things v_changing v_overLow v_overHigh v_text v_length v_at v_readKey v_readCount v_keys v_h]) X hP hD hS (c_Model_marked l D k t b0 o0 c50 c51 c52 v_place v_low v_high v_lowBefore v_highBefore v_least v_greatest v_things v_changing v_overLow v_overHigh v_text v_length v_at v_readKey v_readCount v_keys v_h j46 j48 r53 hg_r53) mv_X8_120 hl [] [0] 8 ⟨rfl, rfl⟩ ⟨Nat.le_of_ble_eq_true rfl, Nat.le_of_ble_eq_true rfl⟩ rfl rfl rfl rfl rfl rfl rfl (Nat.le_of_ble_eq_true rfl) dX8_addBraid_191 (fun H locs hP hD hS => ?_)
    have hP : va_P D vwCl [W_Model k b0 o0 c50 c51 c52 v_place v_low v_high v_lowBefore v_highBefore v_least v_greatest v_things v_changing v_overLow v_overHigh v_text v_length v_at v_readKey v_readCount v_keys v_h].flatten _ := hP
    have hD : va_D A [W_Model k b0 o0 c50 c51 c52 v_place v_low v_high v_lowBefore v_highBefore v_least v_greatest v_things v_changing v_overLow v_overHigh v_text v_length v_at v_readKey v_readCount v_keys v_h].flatten := hD
    refine lv_if_eq (tgt := 201) hx hb dX8_addBraid_194 (by decide) (fun hc => ?_) (fun hc => ?_)
    · have hf := ofpos hf hc
      refine lv_iconst (v := 0) hx hb dX8_addBraid_201 (by decide) ?_
      refine lv_iadd hx hb dX8_addBraid_202 ?_
      refine lv_istore_n (lv' := [(3, .int (j47 + 0)), (0, .ref (b0 o0)), (1, .int j45), (2, .int j46), (4, .int j48), (5, .int j49)]) hx hb dX8_addBraid_203 rfl hl (by decide) rfl (fun ls hl => ?_)
      refine lv_iinc (v := j48 + 1) (lv' := [(4, .int (j48 + 1)), (3, .int (j47 + 0)), (0, .ref (b0 o0)), (1, .int j45), (2, .int j46), (5, .int j49)]) hx hb dX8_addBraid_204 hl (k := 4) rfl rfl (by decide) rfl (fun ls hl => ?_)
      refine lv_goto (tgt := 115) hx hb dX8_addBraid_207 (by decide) ?_
      exact hB115 (j47 + 0) (j48 + 1) c50 c51 _ _ _ hP hD hS (lv_sub hl [2, 3, 4, 1, 0] rfl) hf
    · have hf := ofneg hf hc
      refine lv_iconst (v := 1) hx hb dX8_addBraid_197 (by decide) ?_
      refine lv_goto (tgt := 202) hx hb dX8_addBraid_198 (by decide) ?_
      refine lv_iadd hx hb dX8_addBraid_202 ?_
      refine lv_istore_n (lv' := [(3, .int (j47 + 1)), (0, .ref (b0 o0)), (1, .int j45), (2, .int j46), (4, .int j48), (5, .int j49)]) hx hb dX8_addBraid_203 rfl hl (by decide) rfl (fun ls hl => ?_)
      refine lv_iinc (v := j48 + 1) (lv' := [(4, .int (j48 + 1)), (3, .int (j47 + 1)), (0, .ref (b0 o0)), (1, .int j45), (2, .int j46), (5, .int j49)]) hx hb dX8_addBraid_204 hl (k := 4) rfl rfl (by decide) rfl (fun ls hl => ?_)
      refine lv_goto (tgt := 115) hx hb dX8_addBraid_207 (by decide) ?_
      exact hB115 (j47 + 1) (j48 + 1) c50 c51 _ _ _ hP hD hS (lv_sub hl [2, 3, 4, 1, 0] rfl) hf
set_option maxRecDepth 100000 in
set_option maxHeartbeats 1000000 in
theorem w_Model_addBraid_L115 {p : Program} {l : Launch} {e : Env} {s : State} {m : MethodId} {below : List Frame} {meth : Method} {c : Code} {args : Array Value} {A : Nat → Prop} {D : va_G} {k : Nat → ClassId} {t : Nat → Nat} (X : BX l D k t p s m args meth c cX8_addBraid 7 RX8 (some .int) A) (b0 : Nat → Nat) (o0 : Nat) (v_row : FI) (v_number : FJ) (v_saved : Int32) (v_place : FI) (v_low : FJ) (v_high : FJ) (v_lowBefore : FJ) (v_highBefore : FJ) (v_least : FJ) (v_greatest : FJ) (v_things : Int32) (v_changing : Int32) (v_overLow : FJ) (v_overHigh : FJ) (v_text : FI) (v_length : Int32) (v_at : Int32) (v_readKey : FI) (v_readCount : FJ) (v_keys : Int32) (v_h : Int64) (N : Nat) (i34 : Int32) (i35 : Int32) (c40 : Int32) (out : Int32 × FI × FJ × Int32) (K210 : Int32 → Int32 → FI → FJ → Option (Int32 × FI × FJ × Int32)) (hK210 : ∀ (i36' : Int32) (i37' : Int32) (c38' : FI) (c39' : FJ) (H : Heap) (locs : List Loc) (ls : Array Slot), va_P D vwCl [W_Model k b0 o0 c38' c39' c40 v_place v_low v_high v_lowBefore v_highBefore v_least v_greatest v_things v_changing v_overLow v_overHigh v_text v_length v_at v_readKey v_readCount v_keys v_h].flatten H → va_D A [W_Model k b0 o0 c38' c39' c40 v_place v_low v_high v_lowBefore v_highBefore v_least v_greatest v_things v_changing v_overLow v_overHigh v_text v_length v_at v_readKey v_readCount v_keys v_h].flatten → va_S A s.heap H locs → lv_has ls 7 [(3, .int i36')] → K210 i36' i37' c38' c39' = some out → W p l e rm_Model_addBraid s m args below meth c H locs 0 0 (Q_Model_addBraid below D k A args s b0 o0 v_row v_number v_saved v_place v_low v_high v_lowBefore v_highBefore v_least v_greatest v_things v_changing v_overLow v_overHigh v_text v_length v_at v_readKey v_readCount v_keys v_h out) (F0 m 210 ls [])) : ∀ (n : Nat) (i36 : Int32) (i37 : Int32) (c38 : FI) (c39 : FJ) (H : Heap) (locs : List Loc) (ls : Array Slot), va_P D vwCl [W_Model k b0 o0 c38 c39 c40 v_place v_low v_high v_lowBefore v_highBefore v_least v_greatest v_things v_changing v_overLow v_overHigh v_text v_length v_at v_readKey v_readCount v_keys v_h].flatten H → va_D A [W_Model k b0 o0 c38 c39 c40 v_place v_low v_high v_lowBefore v_highBefore v_least v_greatest v_things v_changing v_overLow v_overHigh v_text v_length v_at v_readKey v_readCount v_keys v_h].flatten → va_S A s.heap H locs → lv_has ls 7 [(0, .ref (b0 o0)), (1, .int i34), (2, .int i35), (3, .int i36), (4, .int i37)] → f_Model_addBraid_L115 N i34 i35 K210 n i36 i37 c38 c39 = some out → W p l e rm_Model_addBraid s m args below meth c H locs 0 0 (Q_Model_addBraid below D k A args s b0 o0 v_row v_number v_saved v_place v_low v_high v_lowBefore v_highBefore v_least v_greatest v_things v_changing v_overLow v_overHigh v_text v_length v_at v_readKey v_readCount v_keys v_h out) (F0 m 115 ls []) := by
  have hx := X.1.1
  have hb := X.1.2.1
  have hml := X.1.2.2.1
  have hown := X.1.2.2.2.1
  have hts := X.1.2.2.2.2
  intro n
  induction n with
  | zero =>
    intro i36 i37 c38 c39 H locs ls hP hD hS hl hf
    rw [f_Model_addBraid_L115] at hf
    cases hf
  | succ n ih =>
    intro i36 i37 c38 c39 H locs ls hP hD hS hl hf
    rw [f_Model_addBraid_L115] at hf
    refine lv_iload hx hb dX8_addBraid_115 (lv_at hl 4 rfl) ?_
    refine lv_aload_n hx hb dX8_addBraid_117 rfl (lv_at hl 0 rfl) ?_
    refine kget (v := .ref (b0 (o0+1))) X hP ff_X8_7 0 rfl rfl dX8_addBraid_118 ?_
    refine lv_iconst (v := 0) hx hb dX8_addBraid_121 (by decide) ?_
    obtain ⟨hc, hf⟩ := ofck hf
    refine kiald (f := c38) (n := 1002) X hP 1 rfl hc dX8_addBraid_122 ?_
    refine lv_icmp_ge (tgt := 210) hx hb dX8_addBraid_123 (by decide) (fun hc => ?_) (fun hc => ?_)
    · have hf := ofpos hf hc
      exact hK210 i36 i37 c38 c39 _ _ _ hP hD hS (lv_sub hl [3] rfl) hf
    · have hf := ofneg hf hc
      refine lv_aload_n hx hb dX8_addBraid_126 rfl (lv_at hl 0 rfl) ?_
      refine lv_iload_n hx hb dX8_addBraid_127 rfl (lv_at hl 2 rfl) ?_
      refine lv_iload hx hb dX8_addBraid_128 (lv_at hl 4 rfl) ?_
      obtain ⟨r41, hg_r41, hf⟩ := ofbind hf
      refine kcV (bs := [W_Model k b0 o0 c38 c39 c40 v_place v_low v_high v_lowBefore v_highBefore v_least v_greatest v_things v_changing v_overLow v_overHigh v_text v_length v_at v_readKey v_readCount v_keys v_h]) (br := []) (bc := [W_Model k b0 o0 c38 c39 c40 v_place v_low v_high v_lowBefore v_highBefore v_least v_greatest v_things v_changing v_overLow v_overHigh v_text v_length v_at v_readKey v_readCount v_keys v_h]) (bc' := [W_Model k b0 o0 c38 c39 c40 v_place v_low v_high v_lowBefore v_highBefore v_least v_greatest v_things v_changing v_overLow v_overHigh v_text v_length v_at v_readKey v_readCount v_keys v_h]) X hP hD hS (c_Model_marked l D k t b0 o0 c38 c39 c40 v_place v_low v_high v_lowBefore v_highBefore v_least v_greatest v_things v_changing v_overLow v_overHigh v_text v_length v_at v_readKey v_readCount v_keys v_h i35 i37 r41 hg_r41) mv_X8_120 hl [] [0] 8 ⟨rfl, rfl⟩ ⟨Nat.le_of_ble_eq_true rfl, Nat.le_of_ble_eq_true rfl⟩ rfl rfl rfl rfl rfl rfl rfl (Nat.le_of_ble_eq_true rfl) dX8_addBraid_130 (fun H locs hP hD hS => ?_)
      have hP : va_P D vwCl [W_Model k b0 o0 c38 c39 c40 v_place v_low v_high v_lowBefore v_highBefore v_least v_greatest v_things v_changing v_overLow v_overHigh v_text v_length v_at v_readKey v_readCount v_keys v_h].flatten _ := hP
      have hD : va_D A [W_Model k b0 o0 c38 c39 c40 v_place v_low v_high v_lowBefore v_highBefore v_least v_greatest v_things v_changing v_overLow v_overHigh v_text v_length v_at v_readKey v_readCount v_keys v_h].flatten := hD
      refine lv_istore (lv' := [(5, .int r41), (0, .ref (b0 o0)), (1, .int i34), (2, .int i35), (3, .int i36), (4, .int i37)]) hx hb dX8_addBraid_133 hl (by decide) rfl (fun ls hl => ?_)
      refine lv_aload_n hx hb dX8_addBraid_135 rfl (lv_at hl 1 rfl) ?_
      refine lv_iload_n hx hb dX8_addBraid_136 rfl (lv_at hl 3 rfl) ?_
      refine lv_iload hx hb dX8_addBraid_137 (lv_at hl 5 rfl) ?_
      refine lv_aload_n hx hb dX8_addBraid_139 rfl (lv_at hl 1 rfl) ?_
      refine lv_iload_n hx hb dX8_addBraid_140 rfl (lv_at hl 2 rfl) ?_
      refine lv_iload hx hb dX8_addBraid_141 (lv_at hl 5 rfl) ?_
      obtain ⟨r42, hg_r42, hf⟩ := ofbind hf
      refine kcV (bs := [W_Model k b0 o0 c38 c39 c40 v_place v_low v_high v_lowBefore v_highBefore v_least v_greatest v_things v_changing v_overLow v_overHigh v_text v_length v_at v_readKey v_readCount v_keys v_h]) (br := []) (bc := [W_Model k b0 o0 c38 c39 c40 v_place v_low v_high v_lowBefore v_highBefore v_least v_greatest v_things v_changing v_overLow v_overHigh v_text v_length v_at v_readKey v_readCount v_keys v_h]) (bc' := [W_Model k b0 o0 c38 c39 c40 v_place v_low v_high v_lowBefore v_highBefore v_least v_greatest v_things v_changing v_overLow v_overHigh v_text v_length v_at v_readKey v_readCount v_keys v_h]) X hP hD hS (c_Model_restAt l D k t b0 o0 c38 c39 c40 v_place v_low v_high v_lowBefore v_highBefore v_least v_greatest v_things v_changing v_overLow v_overHigh v_text v_length v_at v_readKey v_readCount v_keys v_h i34 i37 r42 hg_r42) mv_X8_92 hl [] [0] 8 ⟨rfl, rfl⟩ ⟨Nat.le_of_ble_eq_true rfl, Nat.le_of_ble_eq_true rfl⟩ rfl rfl rfl rfl rfl rfl rfl (Nat.le_of_ble_eq_true rfl) dX8_addBraid_143 (fun H locs hP hD hS => ?_)
      have hP : va_P D vwCl [W_Model k b0 o0 c38 c39 c40 v_place v_low v_high v_lowBefore v_highBefore v_least v_greatest v_things v_changing v_overLow v_overHigh v_text v_length v_at v_readKey v_readCount v_keys v_h].flatten _ := hP
      have hD : va_D A [W_Model k b0 o0 c38 c39 c40 v_place v_low v_high v_lowBefore v_highBefore v_least v_greatest v_things v_changing v_overLow v_overHigh v_text v_length v_at v_readKey v_readCount v_keys v_h].flatten := hD
      refine lv_i2l (v := r42.toInt64) hx hb dX8_addBraid_146 rfl ?_
      obtain ⟨r43, hg_r43, hf⟩ := ofbind hf
      refine kcV (bs := [W_Model k b0 o0 c38 c39 c40 v_place v_low v_high v_lowBefore v_highBefore v_least v_greatest v_things v_changing v_overLow v_overHigh v_text v_length v_at v_readKey v_readCount v_keys v_h]) (br := []) (bc := [W_Model k b0 o0 c38 c39 c40 v_place v_low v_high v_lowBefore v_highBefore v_least v_greatest v_things v_changing v_overLow v_overHigh v_text v_length v_at v_readKey v_readCount v_keys v_h]) (bc' := [W_Model k b0 o0 r43.2.1 r43.2.2 c40 v_place v_low v_high v_lowBefore v_highBefore v_least v_greatest v_things v_changing v_overLow v_overHigh v_text v_length v_at v_readKey v_readCount v_keys v_h]) X hP hD hS (c_Model_grows l D k t b0 o0 c38 c39 c40 v_place v_low v_high v_lowBefore v_highBefore v_least v_greatest v_things v_changing v_overLow v_overHigh v_text v_length v_at v_readKey v_readCount v_keys v_h i35 i37 r42.toInt64 N r43 hg_r43) mv_X8_96 hl [] [0] 8 ⟨rfl, rfl⟩ ⟨Nat.le_of_ble_eq_true rfl, Nat.le_of_ble_eq_true rfl⟩ rfl rfl rfl rfl rfl rfl rfl (Nat.le_of_ble_eq_true rfl) dX8_addBraid_147 (fun H locs hP hD hS => ?_)
      have hP : va_P D vwCl [W_Model k b0 o0 r43.2.1 r43.2.2 c40 v_place v_low v_high v_lowBefore v_highBefore v_least v_greatest v_things v_changing v_overLow v_overHigh v_text v_length v_at v_readKey v_readCount v_keys v_h].flatten _ := hP
      have hD : va_D A [W_Model k b0 o0 r43.2.1 r43.2.2 c40 v_place v_low v_high v_lowBefore v_highBefore v_least v_greatest v_things v_changing v_overLow v_overHigh v_text v_length v_at v_readKey v_readCount v_keys v_h].flatten := hD
      refine lv_istore (lv' := [(6, .int r43.1), (5, .int r41), (0, .ref (b0 o0)), (1, .int i34), (2, .int i35), (3, .int i36), (4, .int i37)]) hx hb dX8_addBraid_150 hl (by decide) rfl (fun ls hl => ?_)
      refine lv_aload_n hx hb dX8_addBraid_152 rfl (lv_at hl 2 rfl) ?_
      refine lv_iload_n hx hb dX8_addBraid_153 rfl (lv_at hl 3 rfl) ?_
      refine lv_iload hx hb dX8_addBraid_154 (lv_at hl 6 rfl) ?_
      obtain ⟨r44, hg_r44, hf⟩ := ofbind hf
      refine kcV (bs := [W_Model k b0 o0 r43.2.1 r43.2.2 c40 v_place v_low v_high v_lowBefore v_highBefore v_least v_greatest v_things v_changing v_overLow v_overHigh v_text v_length v_at v_readKey v_readCount v_keys v_h]) (br := []) (bc := [W_Model k b0 o0 r43.2.1 r43.2.2 c40 v_place v_low v_high v_lowBefore v_highBefore v_least v_greatest v_things v_changing v_overLow v_overHigh v_text v_length v_at v_readKey v_readCount v_keys v_h]) (bc' := [W_Model k b0 o0 r43.2.1 r43.2.2 c40 v_place v_low v_high v_lowBefore v_highBefore v_least v_greatest v_things v_changing v_overLow v_overHigh v_text v_length v_at v_readKey v_readCount v_keys v_h]) X hP hD hS (c_Model_marked l D k t b0 o0 r43.2.1 r43.2.2 c40 v_place v_low v_high v_lowBefore v_highBefore v_least v_greatest v_things v_changing v_overLow v_overHigh v_text v_length v_at v_readKey v_readCount v_keys v_h i34 i37 r44 hg_r44) mv_X8_120 hl [] [0] 8 ⟨rfl, rfl⟩ ⟨Nat.le_of_ble_eq_true rfl, Nat.le_of_ble_eq_true rfl⟩ rfl rfl rfl rfl rfl rfl rfl (Nat.le_of_ble_eq_true rfl) dX8_addBraid_156 (fun H locs hP hD hS => ?_)
      have hP : va_P D vwCl [W_Model k b0 o0 r43.2.1 r43.2.2 c40 v_place v_low v_high v_lowBefore v_highBefore v_least v_greatest v_things v_changing v_overLow v_overHigh v_text v_length v_at v_readKey v_readCount v_keys v_h].flatten _ := hP
      have hD : va_D A [W_Model k b0 o0 r43.2.1 r43.2.2 c40 v_place v_low v_high v_lowBefore v_highBefore v_least v_greatest v_things v_changing v_overLow v_overHigh v_text v_length v_at v_readKey v_readCount v_keys v_h].flatten := hD
      refine lv_if_eq (tgt := 181) hx hb dX8_addBraid_159 (by decide) (fun hc => ?_) (fun hc => ?_)
      · have hf := ofpos hf hc
        exact w_Model_addBraid_J181 X b0 o0 v_row v_number v_saved v_place v_low v_high v_lowBefore v_highBefore v_least v_greatest v_things v_changing v_overLow v_overHigh v_text v_length v_at v_readKey v_readCount v_keys v_h N i34 i35 i36 i37 r41 r43.2.1 r43.2.2 c40 out _ ih _ _ _ hP hD hS (lv_sub hl [2, 3, 4, 5, 6, 1] rfl) hf
      · have hf := ofneg hf hc
        refine lv_aload_n hx hb dX8_addBraid_162 rfl (lv_at hl 2 rfl) ?_
        refine kget (v := .ref (b0 (o0+1))) X hP ff_X8_7 0 rfl rfl dX8_addBraid_163 ?_
        refine lv_bipush (v := 23) hx hb dX8_addBraid_166 (by decide) ?_
        refine lv_bipush (v := 48) hx hb dX8_addBraid_168 (by decide) ?_
        refine lv_iload_n hx hb dX8_addBraid_170 rfl (lv_at hl 4 rfl) ?_
        refine lv_imul hx hb dX8_addBraid_171 ?_
        refine lv_iadd hx hb dX8_addBraid_172 ?_
        refine lv_bipush (v := 24) hx hb dX8_addBraid_173 (by decide) ?_
        refine lv_iadd hx hb dX8_addBraid_175 ?_
        refine lv_iload hx hb dX8_addBraid_176 (lv_at hl 6 rfl) ?_
        refine lv_iadd hx hb dX8_addBraid_178 ?_
        refine lv_iconst (v := 1) hx hb dX8_addBraid_179 (by decide) ?_
        obtain ⟨hc, hf⟩ := ofck hf
        generalize hc54 : upd r43.2.1 (((23 + (48 * i35)) + 24) + i37).toNatClampNeg 1 = c54 at hf
        refine kiast2 (f := r43.2.1) (n := 1002) (g := c54) X hP hD hS 1 rfl hc hc54 dX8_addBraid_180 (fun H locs hP hD hS => ?_)
        have hP : va_P D vwCl [W_Model k b0 o0 c54 r43.2.2 c40 v_place v_low v_high v_lowBefore v_highBefore v_least v_greatest v_things v_changing v_overLow v_overHigh v_text v_length v_at v_readKey v_readCount v_keys v_h].flatten _ := hP
        have hD : va_D A [W_Model k b0 o0 c54 r43.2.2 c40 v_place v_low v_high v_lowBefore v_highBefore v_least v_greatest v_things v_changing v_overLow v_overHigh v_text v_length v_at v_readKey v_readCount v_keys v_h].flatten := hD
        exact w_Model_addBraid_J181 X b0 o0 v_row v_number v_saved v_place v_low v_high v_lowBefore v_highBefore v_least v_greatest v_things v_changing v_overLow v_overHigh v_text v_length v_at v_readKey v_readCount v_keys v_h N i34 i35 i36 i37 r41 c54 r43.2.2 c40 out _ ih _ _ _ hP hD hS (lv_sub hl [2, 3, 4, 5, 6, 1] rfl) hf
set_option maxRecDepth 100000 in
set_option maxHeartbeats 1000000 in
theorem c_Model_addBraid (l : Launch) (D : va_G) (k : Nat → ClassId) (t : Nat → Nat) (b0 : Nat → Nat) (o0 : Nat) (v_row : FI) (v_number : FJ) (v_saved : Int32) (v_place : FI) (v_low : FJ) (v_high : FJ) (v_lowBefore : FJ) (v_highBefore : FJ) (v_least : FJ) (v_greatest : FJ) (v_things : Int32) (v_changing : Int32) (v_overLow : FJ) (v_overHigh : FJ) (v_text : FI) (v_length : Int32) (v_at : Int32) (v_readKey : FI) (v_readCount : FJ) (v_keys : Int32) (v_h : Int64) (x1 : Int32) (x2 : Int32) (N : Nat) (out : Int32 × FI × FJ × Int32) (hf : f_Model_addBraid N x1 x2 v_row v_number v_saved = some out) : CT l D k t yX8_addBraid cX8_addBraid 7 (some .int) rm_Model_addBraid [.ref (b0 o0), .int x1, .int x2] [W_Model k b0 o0 v_row v_number v_saved v_place v_low v_high v_lowBefore v_highBefore v_least v_greatest v_things v_changing v_overLow v_overHigh v_text v_length v_at v_readKey v_readCount v_keys v_h].flatten (some (.int out.1)) [W_Model k b0 o0 out.2.1 out.2.2.1 out.2.2.2 v_place v_low v_high v_lowBefore v_highBefore v_least v_greatest v_things v_changing v_overLow v_overHigh v_text v_length v_at v_readKey v_readCount v_keys v_h].flatten := by
  refine kofW (by decide) (Nat.le_of_ble_eq_true rfl) ?_
  intro p e s m below meth c A ls X hP hD hS hl
  have hx := X.1.1
  have hb := X.1.2.1
  have hml := X.1.2.2.1
  have hown := X.1.2.2.2.1
  have hts := X.1.2.2.2.2
  have hl : lv_has ls 7 [(0, .ref (b0 o0)), (1, .int x1), (2, .int x2)] := hl
  rw [f_Model_addBraid] at hf
  refine lv_iload_n hx hb dX8_addBraid_0 rfl (lv_at hl 1 rfl) ?_
  obtain ⟨r1, hg_r1, hf⟩ := ofbind hf
  refine kcS (bs := [W_Model k b0 o0 v_row v_number v_saved v_place v_low v_high v_lowBefore v_highBefore v_least v_greatest v_things v_changing v_overLow v_overHigh v_text v_length v_at v_readKey v_readCount v_keys v_h]) (br := [W_Model k b0 o0 v_row v_number v_saved v_place v_low v_high v_lowBefore v_highBefore v_least v_greatest v_things v_changing v_overLow v_overHigh v_text v_length v_at v_readKey v_readCount v_keys v_h]) (bc := []) (bc' := []) X hP hD hS (c_Model_isBraid l D k t x1 r1 hg_r1) ms_X8_100 hl [0] [] ⟨rfl, rfl⟩ ⟨Nat.le_of_ble_eq_true rfl, Nat.le_of_ble_eq_true rfl⟩ rfl rfl rfl rfl (Nat.le_of_ble_eq_true rfl) dX8_addBraid_1 (fun H locs hP hD hS => ?_)
  have hP : va_P D vwCl [W_Model k b0 o0 v_row v_number v_saved v_place v_low v_high v_lowBefore v_highBefore v_least v_greatest v_things v_changing v_overLow v_overHigh v_text v_length v_at v_readKey v_readCount v_keys v_h].flatten _ := hP
  have hD : va_D A [W_Model k b0 o0 v_row v_number v_saved v_place v_low v_high v_lowBefore v_highBefore v_least v_greatest v_things v_changing v_overLow v_overHigh v_text v_length v_at v_readKey v_readCount v_keys v_h].flatten := hD
  refine lv_if_eq (tgt := 14) hx hb dX8_addBraid_4 (by decide) (fun hc => ?_) (fun hc => ?_)
  · have hf := ofpos hf hc
    refine lv_bipush (v := (-2)) hx hb dX8_addBraid_14 (by decide) ?_
    have hf := Option.some.inj hf
    subst hf
    exact kiret (v := (-2)) X hP hD hS dX8_addBraid_16
  · have hf := ofneg hf hc
    refine lv_iload_n hx hb dX8_addBraid_7 rfl (lv_at hl 2 rfl) ?_
    obtain ⟨r2, hg_r2, hf⟩ := ofbind hf
    refine kcS (bs := [W_Model k b0 o0 v_row v_number v_saved v_place v_low v_high v_lowBefore v_highBefore v_least v_greatest v_things v_changing v_overLow v_overHigh v_text v_length v_at v_readKey v_readCount v_keys v_h]) (br := [W_Model k b0 o0 v_row v_number v_saved v_place v_low v_high v_lowBefore v_highBefore v_least v_greatest v_things v_changing v_overLow v_overHigh v_text v_length v_at v_readKey v_readCount v_keys v_h]) (bc := []) (bc' := []) X hP hD hS (c_Model_isBraid l D k t x2 r2 hg_r2) ms_X8_100 hl [0] [] ⟨rfl, rfl⟩ ⟨Nat.le_of_ble_eq_true rfl, Nat.le_of_ble_eq_true rfl⟩ rfl rfl rfl rfl (Nat.le_of_ble_eq_true rfl) dX8_addBraid_8 (fun H locs hP hD hS => ?_)
    have hP : va_P D vwCl [W_Model k b0 o0 v_row v_number v_saved v_place v_low v_high v_lowBefore v_highBefore v_least v_greatest v_things v_changing v_overLow v_overHigh v_text v_length v_at v_readKey v_readCount v_keys v_h].flatten _ := hP
    have hD : va_D A [W_Model k b0 o0 v_row v_number v_saved v_place v_low v_high v_lowBefore v_highBefore v_least v_greatest v_things v_changing v_overLow v_overHigh v_text v_length v_at v_readKey v_readCount v_keys v_h].flatten := hD
    refine lv_if_ne (tgt := 17) hx hb dX8_addBraid_11 (by decide) (fun hc => ?_) (fun hc => ?_)
    · have hf := ofneg hf hc
      refine lv_iload_n hx hb dX8_addBraid_17 rfl (lv_at hl 1 rfl) ?_
      refine lv_iload_n hx hb dX8_addBraid_18 rfl (lv_at hl 2 rfl) ?_
      refine lv_icmp_ne (tgt := 25) hx hb dX8_addBraid_19 (by decide) (fun hc => ?_) (fun hc => ?_)
      · have hf := ofneg hf hc
        refine lv_iconst (v := 0) hx hb dX8_addBraid_25 (by decide) ?_
        refine lv_istore_n (lv' := [(3, .int 0), (0, .ref (b0 o0)), (1, .int x1), (2, .int x2)]) hx hb dX8_addBraid_26 rfl hl (by decide) rfl (fun ls hl => ?_)
        refine w_Model_addBraid_L27 X b0 o0 v_row v_number v_saved v_place v_low v_high v_lowBefore v_highBefore v_least v_greatest v_things v_changing v_overLow v_overHigh v_text v_length v_at v_readKey v_readCount v_keys v_h N x1 x2 v_row v_number v_saved out _ ?_ N 0 _ _ _ hP hD hS (lv_sub hl [1, 2, 3, 0] rfl) hf
        · intro i13 H locs ls hP hD hS hl hf
          refine lv_aload_n hx hb dX8_addBraid_67 rfl (lv_at hl 0 rfl) ?_
          obtain ⟨r14, hg_r14, hf⟩ := ofbind hf
          refine kcV (bs := [W_Model k b0 o0 v_row v_number v_saved v_place v_low v_high v_lowBefore v_highBefore v_least v_greatest v_things v_changing v_overLow v_overHigh v_text v_length v_at v_readKey v_readCount v_keys v_h]) (br := []) (bc := [W_Model k b0 o0 v_row v_number v_saved v_place v_low v_high v_lowBefore v_highBefore v_least v_greatest v_things v_changing v_overLow v_overHigh v_text v_length v_at v_readKey v_readCount v_keys v_h]) (bc' := [W_Model k b0 o0 r14.1 r14.2.1 r14.2.2 v_place v_low v_high v_lowBefore v_highBefore v_least v_greatest v_things v_changing v_overLow v_overHigh v_text v_length v_at v_readKey v_readCount v_keys v_h]) X hP hD hS (c_Model_saves l D k t b0 o0 v_row v_number v_saved v_place v_low v_high v_lowBefore v_highBefore v_least v_greatest v_things v_changing v_overLow v_overHigh v_text v_length v_at v_readKey v_readCount v_keys v_h N r14 hg_r14) mv_X8_65 hl [] [0] 8 ⟨rfl, rfl⟩ ⟨Nat.le_of_ble_eq_true rfl, Nat.le_of_ble_eq_true rfl⟩ rfl rfl rfl rfl rfl rfl rfl (Nat.le_of_ble_eq_true rfl) dX8_addBraid_68 (fun H locs hP hD hS => ?_)
          have hP : va_P D vwCl [W_Model k b0 o0 r14.1 r14.2.1 r14.2.2 v_place v_low v_high v_lowBefore v_highBefore v_least v_greatest v_things v_changing v_overLow v_overHigh v_text v_length v_at v_readKey v_readCount v_keys v_h].flatten _ := hP
          have hD : va_D A [W_Model k b0 o0 r14.1 r14.2.1 r14.2.2 v_place v_low v_high v_lowBefore v_highBefore v_least v_greatest v_things v_changing v_overLow v_overHigh v_text v_length v_at v_readKey v_readCount v_keys v_h].flatten := hD
          refine lv_iconst (v := 0) hx hb dX8_addBraid_71 (by decide) ?_
          refine lv_istore_n (lv' := [(3, .int 0), (0, .ref (b0 o0)), (1, .int x1), (2, .int x2)]) hx hb dX8_addBraid_72 rfl hl (by decide) rfl (fun ls hl => ?_)
          refine w_Model_addBraid_L73 X b0 o0 v_row v_number v_saved v_place v_low v_high v_lowBefore v_highBefore v_least v_greatest v_things v_changing v_overLow v_overHigh v_text v_length v_at v_readKey v_readCount v_keys v_h N x1 x2 r14.1 r14.2.2 out _ ?_ N 0 r14.2.1 _ _ _ hP hD hS (lv_sub hl [1, 2, 3, 0] rfl) hf
          · intro i23 c24 H locs ls hP hD hS hl hf
            refine lv_iconst (v := 0) hx hb dX8_addBraid_110 (by decide) ?_
            refine lv_istore_n (lv' := [(3, .int 0), (0, .ref (b0 o0)), (1, .int x1), (2, .int x2)]) hx hb dX8_addBraid_111 rfl hl (by decide) rfl (fun ls hl => ?_)
            refine lv_iconst (v := 0) hx hb dX8_addBraid_112 (by decide) ?_
            refine lv_istore (lv' := [(4, .int 0), (3, .int 0), (0, .ref (b0 o0)), (1, .int x1), (2, .int x2)]) hx hb dX8_addBraid_113 hl (by decide) rfl (fun ls hl => ?_)
            refine w_Model_addBraid_L115 X b0 o0 v_row v_number v_saved v_place v_low v_high v_lowBefore v_highBefore v_least v_greatest v_things v_changing v_overLow v_overHigh v_text v_length v_at v_readKey v_readCount v_keys v_h N x1 x2 r14.2.2 out _ ?_ N 0 0 r14.1 c24 _ _ _ hP hD hS (lv_sub hl [2, 3, 4, 1, 0] rfl) hf
            · intro i55 i56 c57 c58 H locs ls hP hD hS hl hf
              refine lv_iload_n hx hb dX8_addBraid_210 rfl (lv_at hl 0 rfl) ?_
              have hf := Option.some.inj hf
              subst hf
              exact kiret (v := i55) X hP hD hS dX8_addBraid_211
      · have hf := ofpos hf hc
        refine lv_bipush (v := (-3)) hx hb dX8_addBraid_22 (by decide) ?_
        have hf := Option.some.inj hf
        subst hf
        exact kiret (v := (-3)) X hP hD hS dX8_addBraid_24
    · have hf := ofpos hf hc
      refine lv_bipush (v := (-2)) hx hb dX8_addBraid_14 (by decide) ?_
      have hf := Option.some.inj hf
      subst hf
      exact kiret (v := (-2)) X hP hD hS dX8_addBraid_16
/-! Model_clear: public long clear(int); -/
abbrev rm_Model_clear : Room := ({ frames := 2, cells := 0, slots := 0, locals := 44 } : Room)
def f_Model_clear_L20 (i4 : Int32) (c7 : FI) (c8 : FJ) (K48 : Int64 → Int32 → Option (Int64 × FI × FJ × Int32)) : Nat → Int64 → Int32 → Option (Int64 × FI × FJ × Int32)
  | 0, _, _ => none
  | n + 1, i5, i6 => if ck 6 1002 = true then if (c7 (6 : Int32).toNatClampNeg) ≤ i6 then K48 i5 i6 else (f_Model_truthAt i4 i6 c8).bind (fun r10 => f_Model_clear_L20 i4 c7 c8 K48 n (i5 + r10) (i6 + 1)) else none
def f_Model_clear (N : Nat) (x1 : Int32) (v_row : FI) (v_number : FJ) (v_saved : Int32) : Option (Int64 × FI × FJ × Int32) := (f_Model_isBraid x1).bind (fun r1 => if r1 = 0 then some ((-2), v_row, v_number, v_saved) else (f_Model_saves N v_row v_number v_saved).bind (fun r2 => f_Model_clear_L20 x1 r2.1 r2.2.1 (fun i11 i12 => (f_Model_empties N x1 r2.1 r2.2.1).bind (fun r13 => some (i11, r13.1, r13.2, r2.2.2))) N 0 0))
abbrev Q_Model_clear (below : List Frame) (D : va_G) (k : Nat → ClassId) (A : Nat → Prop) (args : Array Value) (s : State) (b0 : Nat → Nat) (o0 : Nat) (v_row : FI) (v_number : FJ) (v_saved : Int32) (v_place : FI) (v_low : FJ) (v_high : FJ) (v_lowBefore : FJ) (v_highBefore : FJ) (v_least : FJ) (v_greatest : FJ) (v_things : Int32) (v_changing : Int32) (v_overLow : FJ) (v_overHigh : FJ) (v_text : FI) (v_length : Int32) (v_at : Int32) (v_readKey : FI) (v_readCount : FJ) (v_keys : Int32) (v_h : Int64) (out : Int64 × FI × FJ × Int32) : State → Prop := MQ below (QW D k A (some (.long out.1)) [W_Model k b0 o0 out.2.1 out.2.2.1 out.2.2.2 v_place v_low v_high v_lowBefore v_highBefore v_least v_greatest v_things v_changing v_overLow v_overHigh v_text v_length v_at v_readKey v_readCount v_keys v_h].flatten) args s 0 0 A
set_option maxRecDepth 100000 in
set_option maxHeartbeats 1000000 in
theorem w_Model_clear_L20 {p : Program} {l : Launch} {e : Env} {s : State} {m : MethodId} {below : List Frame} {meth : Method} {c : Code} {args : Array Value} {A : Nat → Prop} {D : va_G} {k : Nat → ClassId} {t : Nat → Nat} (X : BX l D k t p s m args meth c cX8_clear 5 RX8 (some .long) A) (b0 : Nat → Nat) (o0 : Nat) (v_row : FI) (v_number : FJ) (v_saved : Int32) (v_place : FI) (v_low : FJ) (v_high : FJ) (v_lowBefore : FJ) (v_highBefore : FJ) (v_least : FJ) (v_greatest : FJ) (v_things : Int32) (v_changing : Int32) (v_overLow : FJ) (v_overHigh : FJ) (v_text : FI) (v_length : Int32) (v_at : Int32) (v_readKey : FI) (v_readCount : FJ) (v_keys : Int32) (v_h : Int64) (N : Nat) (i4 : Int32) (c7 : FI) (c8 : FJ) (c9 : Int32) (out : Int64 × FI × FJ × Int32) (K48 : Int64 → Int32 → Option (Int64 × FI × FJ × Int32)) (hK48 : ∀ (i5' : Int64) (i6' : Int32) (H : Heap) (locs : List Loc) (ls : Array Slot), va_P D vwCl [W_Model k b0 o0 c7 c8 c9 v_place v_low v_high v_lowBefore v_highBefore v_least v_greatest v_things v_changing v_overLow v_overHigh v_text v_length v_at v_readKey v_readCount v_keys v_h].flatten H → va_D A [W_Model k b0 o0 c7 c8 c9 v_place v_low v_high v_lowBefore v_highBefore v_least v_greatest v_things v_changing v_overLow v_overHigh v_text v_length v_at v_readKey v_readCount v_keys v_h].flatten → va_S A s.heap H locs → lv_has ls 5 [(0, .ref (b0 o0)), (1, .int i4), (2, .long i5')] → K48 i5' i6' = some out → W p l e rm_Model_clear s m args below meth c H locs 0 0 (Q_Model_clear below D k A args s b0 o0 v_row v_number v_saved v_place v_low v_high v_lowBefore v_highBefore v_least v_greatest v_things v_changing v_overLow v_overHigh v_text v_length v_at v_readKey v_readCount v_keys v_h out) (F0 m 48 ls [])) : ∀ (n : Nat) (i5 : Int64) (i6 : Int32) (H : Heap) (locs : List Loc) (ls : Array Slot), va_P D vwCl [W_Model k b0 o0 c7 c8 c9 v_place v_low v_high v_lowBefore v_highBefore v_least v_greatest v_things v_changing v_overLow v_overHigh v_text v_length v_at v_readKey v_readCount v_keys v_h].flatten H → va_D A [W_Model k b0 o0 c7 c8 c9 v_place v_low v_high v_lowBefore v_highBefore v_least v_greatest v_things v_changing v_overLow v_overHigh v_text v_length v_at v_readKey v_readCount v_keys v_h].flatten → va_S A s.heap H locs → lv_has ls 5 [(0, .ref (b0 o0)), (1, .int i4), (2, .long i5), (4, .int i6)] → f_Model_clear_L20 i4 c7 c8 K48 n i5 i6 = some out → W p l e rm_Model_clear s m args below meth c H locs 0 0 (Q_Model_clear below D k A args s b0 o0 v_row v_number v_saved v_place v_low v_high v_lowBefore v_highBefore v_least v_greatest v_things v_changing v_overLow v_overHigh v_text v_length v_at v_readKey v_readCount v_keys v_h out) (F0 m 20 ls []) := by
  have hx := X.1.1
  have hb := X.1.2.1
  have hml := X.1.2.2.1
  have hown := X.1.2.2.2.1
  have hts := X.1.2.2.2.2
  intro n
  induction n with
  | zero =>
    intro i5 i6 H locs ls hP hD hS hl hf
    rw [f_Model_clear_L20] at hf
    cases hf
  | succ n ih =>
    intro i5 i6 H locs ls hP hD hS hl hf
    rw [f_Model_clear_L20] at hf
    refine lv_iload hx hb dX8_clear_20 (lv_at hl 3 rfl) ?_
    refine lv_aload_n hx hb dX8_clear_22 rfl (lv_at hl 0 rfl) ?_
    refine kget (v := .ref (b0 (o0+1))) X hP ff_X8_7 0 rfl rfl dX8_clear_23 ?_
    refine lv_bipush (v := 6) hx hb dX8_clear_26 (by decide) ?_
    obtain ⟨hc, hf⟩ := ofck hf
    refine kiald (f := c7) (n := 1002) X hP 1 rfl hc dX8_clear_28 ?_
    refine lv_icmp_ge (tgt := 48) hx hb dX8_clear_29 (by decide) (fun hc => ?_) (fun hc => ?_)
    · have hf := ofpos hf hc
      exact hK48 i5 i6 _ _ _ hP hD hS (lv_sub hl [0, 1, 2] rfl) hf
    · have hf := ofneg hf hc
      refine lv_lload_n hx hb dX8_clear_32 rfl (lv_at hl 2 rfl) ?_
      refine lv_aload_n hx hb dX8_clear_33 rfl (lv_at hl 0 rfl) ?_
      refine lv_iload_n hx hb dX8_clear_34 rfl (lv_at hl 1 rfl) ?_
      refine lv_iload hx hb dX8_clear_35 (lv_at hl 3 rfl) ?_
      obtain ⟨r10, hg_r10, hf⟩ := ofbind hf
      refine kcV (bs := [W_Model k b0 o0 c7 c8 c9 v_place v_low v_high v_lowBefore v_highBefore v_least v_greatest v_things v_changing v_overLow v_overHigh v_text v_length v_at v_readKey v_readCount v_keys v_h]) (br := []) (bc := [W_Model k b0 o0 c7 c8 c9 v_place v_low v_high v_lowBefore v_highBefore v_least v_greatest v_things v_changing v_overLow v_overHigh v_text v_length v_at v_readKey v_readCount v_keys v_h]) (bc' := [W_Model k b0 o0 c7 c8 c9 v_place v_low v_high v_lowBefore v_highBefore v_least v_greatest v_things v_changing v_overLow v_overHigh v_text v_length v_at v_readKey v_readCount v_keys v_h]) X hP hD hS (c_Model_truthAt l D k t b0 o0 c7 c8 c9 v_place v_low v_high v_lowBefore v_highBefore v_least v_greatest v_things v_changing v_overLow v_overHigh v_text v_length v_at v_readKey v_readCount v_keys v_h i4 i6 r10 hg_r10) mv_X8_108 hl [] [0] 8 ⟨rfl, rfl⟩ ⟨Nat.le_of_ble_eq_true rfl, Nat.le_of_ble_eq_true rfl⟩ rfl rfl rfl rfl rfl rfl rfl (Nat.le_of_ble_eq_true rfl) dX8_clear_37 (fun H locs hP hD hS => ?_)
      have hP : va_P D vwCl [W_Model k b0 o0 c7 c8 c9 v_place v_low v_high v_lowBefore v_highBefore v_least v_greatest v_things v_changing v_overLow v_overHigh v_text v_length v_at v_readKey v_readCount v_keys v_h].flatten _ := hP
      have hD : va_D A [W_Model k b0 o0 c7 c8 c9 v_place v_low v_high v_lowBefore v_highBefore v_least v_greatest v_things v_changing v_overLow v_overHigh v_text v_length v_at v_readKey v_readCount v_keys v_h].flatten := hD
      refine lv_ladd hx hb dX8_clear_40 ?_
      refine lv_lstore_n (lv' := [(2, .long (i5 + r10)), (0, .ref (b0 o0)), (1, .int i4), (4, .int i6)]) hx hb dX8_clear_41 rfl hl (by decide) rfl (fun ls hl => ?_)
      refine lv_iinc (v := i6 + 1) (lv' := [(4, .int (i6 + 1)), (2, .long (i5 + r10)), (0, .ref (b0 o0)), (1, .int i4)]) hx hb dX8_clear_42 hl (k := 3) rfl rfl (by decide) rfl (fun ls hl => ?_)
      refine lv_goto (tgt := 20) hx hb dX8_clear_45 (by decide) ?_
      exact ih (i5 + r10) (i6 + 1) _ _ _ hP hD hS (lv_sub hl [2, 3, 1, 0] rfl) hf
set_option maxRecDepth 100000 in
set_option maxHeartbeats 1000000 in
theorem c_Model_clear (l : Launch) (D : va_G) (k : Nat → ClassId) (t : Nat → Nat) (b0 : Nat → Nat) (o0 : Nat) (v_row : FI) (v_number : FJ) (v_saved : Int32) (v_place : FI) (v_low : FJ) (v_high : FJ) (v_lowBefore : FJ) (v_highBefore : FJ) (v_least : FJ) (v_greatest : FJ) (v_things : Int32) (v_changing : Int32) (v_overLow : FJ) (v_overHigh : FJ) (v_text : FI) (v_length : Int32) (v_at : Int32) (v_readKey : FI) (v_readCount : FJ) (v_keys : Int32) (v_h : Int64) (x1 : Int32) (N : Nat) (out : Int64 × FI × FJ × Int32) (hf : f_Model_clear N x1 v_row v_number v_saved = some out) : CT l D k t yX8_clear cX8_clear 5 (some .long) rm_Model_clear [.ref (b0 o0), .int x1] [W_Model k b0 o0 v_row v_number v_saved v_place v_low v_high v_lowBefore v_highBefore v_least v_greatest v_things v_changing v_overLow v_overHigh v_text v_length v_at v_readKey v_readCount v_keys v_h].flatten (some (.long out.1)) [W_Model k b0 o0 out.2.1 out.2.2.1 out.2.2.2 v_place v_low v_high v_lowBefore v_highBefore v_least v_greatest v_things v_changing v_overLow v_overHigh v_text v_length v_at v_readKey v_readCount v_keys v_h].flatten := by
  refine kofW (by decide) (Nat.le_of_ble_eq_true rfl) ?_
  intro p e s m below meth c A ls X hP hD hS hl
  have hx := X.1.1
  have hb := X.1.2.1
  have hml := X.1.2.2.1
  have hown := X.1.2.2.2.1
  have hts := X.1.2.2.2.2
  have hl : lv_has ls 5 [(0, .ref (b0 o0)), (1, .int x1)] := hl
  rw [f_Model_clear] at hf
  refine lv_iload_n hx hb dX8_clear_0 rfl (lv_at hl 1 rfl) ?_
  obtain ⟨r1, hg_r1, hf⟩ := ofbind hf
  refine kcS (bs := [W_Model k b0 o0 v_row v_number v_saved v_place v_low v_high v_lowBefore v_highBefore v_least v_greatest v_things v_changing v_overLow v_overHigh v_text v_length v_at v_readKey v_readCount v_keys v_h]) (br := [W_Model k b0 o0 v_row v_number v_saved v_place v_low v_high v_lowBefore v_highBefore v_least v_greatest v_things v_changing v_overLow v_overHigh v_text v_length v_at v_readKey v_readCount v_keys v_h]) (bc := []) (bc' := []) X hP hD hS (c_Model_isBraid l D k t x1 r1 hg_r1) ms_X8_100 hl [0] [] ⟨rfl, rfl⟩ ⟨Nat.le_of_ble_eq_true rfl, Nat.le_of_ble_eq_true rfl⟩ rfl rfl rfl rfl (Nat.le_of_ble_eq_true rfl) dX8_clear_1 (fun H locs hP hD hS => ?_)
  have hP : va_P D vwCl [W_Model k b0 o0 v_row v_number v_saved v_place v_low v_high v_lowBefore v_highBefore v_least v_greatest v_things v_changing v_overLow v_overHigh v_text v_length v_at v_readKey v_readCount v_keys v_h].flatten _ := hP
  have hD : va_D A [W_Model k b0 o0 v_row v_number v_saved v_place v_low v_high v_lowBefore v_highBefore v_least v_greatest v_things v_changing v_overLow v_overHigh v_text v_length v_at v_readKey v_readCount v_keys v_h].flatten := hD
  refine lv_if_ne (tgt := 11) hx hb dX8_clear_4 (by decide) (fun hc => ?_) (fun hc => ?_)
  · have hf := ofneg hf hc
    refine lv_aload_n hx hb dX8_clear_11 rfl (lv_at hl 0 rfl) ?_
    obtain ⟨r2, hg_r2, hf⟩ := ofbind hf
    refine kcV (bs := [W_Model k b0 o0 v_row v_number v_saved v_place v_low v_high v_lowBefore v_highBefore v_least v_greatest v_things v_changing v_overLow v_overHigh v_text v_length v_at v_readKey v_readCount v_keys v_h]) (br := []) (bc := [W_Model k b0 o0 v_row v_number v_saved v_place v_low v_high v_lowBefore v_highBefore v_least v_greatest v_things v_changing v_overLow v_overHigh v_text v_length v_at v_readKey v_readCount v_keys v_h]) (bc' := [W_Model k b0 o0 r2.1 r2.2.1 r2.2.2 v_place v_low v_high v_lowBefore v_highBefore v_least v_greatest v_things v_changing v_overLow v_overHigh v_text v_length v_at v_readKey v_readCount v_keys v_h]) X hP hD hS (c_Model_saves l D k t b0 o0 v_row v_number v_saved v_place v_low v_high v_lowBefore v_highBefore v_least v_greatest v_things v_changing v_overLow v_overHigh v_text v_length v_at v_readKey v_readCount v_keys v_h N r2 hg_r2) mv_X8_65 hl [] [0] 8 ⟨rfl, rfl⟩ ⟨Nat.le_of_ble_eq_true rfl, Nat.le_of_ble_eq_true rfl⟩ rfl rfl rfl rfl rfl rfl rfl (Nat.le_of_ble_eq_true rfl) dX8_clear_12 (fun H locs hP hD hS => ?_)
    have hP : va_P D vwCl [W_Model k b0 o0 r2.1 r2.2.1 r2.2.2 v_place v_low v_high v_lowBefore v_highBefore v_least v_greatest v_things v_changing v_overLow v_overHigh v_text v_length v_at v_readKey v_readCount v_keys v_h].flatten _ := hP
    have hD : va_D A [W_Model k b0 o0 r2.1 r2.2.1 r2.2.2 v_place v_low v_high v_lowBefore v_highBefore v_least v_greatest v_things v_changing v_overLow v_overHigh v_text v_length v_at v_readKey v_readCount v_keys v_h].flatten := hD
    refine lv_lconst (v := 0) hx hb dX8_clear_15 (by decide) ?_
    refine lv_lstore_n (lv' := [(2, .long 0), (0, .ref (b0 o0)), (1, .int x1)]) hx hb dX8_clear_16 rfl hl (by decide) rfl (fun ls hl => ?_)
    refine lv_iconst (v := 0) hx hb dX8_clear_17 (by decide) ?_
    refine lv_istore (lv' := [(4, .int 0), (2, .long 0), (0, .ref (b0 o0)), (1, .int x1)]) hx hb dX8_clear_18 hl (by decide) rfl (fun ls hl => ?_)
    refine w_Model_clear_L20 X b0 o0 v_row v_number v_saved v_place v_low v_high v_lowBefore v_highBefore v_least v_greatest v_things v_changing v_overLow v_overHigh v_text v_length v_at v_readKey v_readCount v_keys v_h N x1 r2.1 r2.2.1 r2.2.2 out _ ?_ N 0 0 _ _ _ hP hD hS (lv_sub hl [2, 3, 1, 0] rfl) hf
    · intro i11 i12 H locs ls hP hD hS hl hf
      refine lv_aload_n hx hb dX8_clear_48 rfl (lv_at hl 0 rfl) ?_
      refine lv_iload_n hx hb dX8_clear_49 rfl (lv_at hl 1 rfl) ?_
      obtain ⟨r13, hg_r13, hf⟩ := ofbind hf
      refine kcV (bs := [W_Model k b0 o0 r2.1 r2.2.1 r2.2.2 v_place v_low v_high v_lowBefore v_highBefore v_least v_greatest v_things v_changing v_overLow v_overHigh v_text v_length v_at v_readKey v_readCount v_keys v_h]) (br := []) (bc := [W_Model k b0 o0 r2.1 r2.2.1 r2.2.2 v_place v_low v_high v_lowBefore v_highBefore v_least v_greatest v_things v_changing v_overLow v_overHigh v_text v_length v_at v_readKey v_readCount v_keys v_h]) (bc' := [W_Model k b0 o0 r13.1 r13.2 r2.2.2 v_place v_low v_high v_lowBefore v_highBefore v_least v_greatest v_things v_changing v_overLow v_overHigh v_text v_length v_at v_readKey v_readCount v_keys v_h]) X hP hD hS (c_Model_empties l D k t b0 o0 r2.1 r2.2.1 r2.2.2 v_place v_low v_high v_lowBefore v_highBefore v_least v_greatest v_things v_changing v_overLow v_overHigh v_text v_length v_at v_readKey v_readCount v_keys v_h x1 N r13 hg_r13) mv_X8_68 hl [] [0] 8 ⟨rfl, rfl⟩ ⟨Nat.le_of_ble_eq_true rfl, Nat.le_of_ble_eq_true rfl⟩ rfl rfl rfl rfl rfl rfl rfl (Nat.le_of_ble_eq_true rfl) dX8_clear_50 (fun H locs hP hD hS => ?_)
      have hP : va_P D vwCl [W_Model k b0 o0 r13.1 r13.2 r2.2.2 v_place v_low v_high v_lowBefore v_highBefore v_least v_greatest v_things v_changing v_overLow v_overHigh v_text v_length v_at v_readKey v_readCount v_keys v_h].flatten _ := hP
      have hD : va_D A [W_Model k b0 o0 r13.1 r13.2 r2.2.2 v_place v_low v_high v_lowBefore v_highBefore v_least v_greatest v_things v_changing v_overLow v_overHigh v_text v_length v_at v_readKey v_readCount v_keys v_h].flatten := hD
      refine lv_lload_n hx hb dX8_clear_53 rfl (lv_at hl 2 rfl) ?_
      have hf := Option.some.inj hf
      subst hf
      exact klret (v := i11) X hP hD hS dX8_clear_54
  · have hf := ofpos hf hc
    refine lv_ldc2 (v := (-2)) hx hb hown (hts _ kc_X8_103) dX8_clear_7 ?_
    have hf := Option.some.inj hf
    subst hf
    exact klret (v := (-2)) X hP hD hS dX8_clear_10
/-! Model_truth: public long truth(int, int); -/
abbrev rm_Model_truth : Room := ({ frames := 2, cells := 0, slots := 0, locals := 43 } : Room)
def f_Model_truth (x1 : Int32) (x2 : Int32) (v_row : FI) (v_number : FJ) : Option (Int64) := (f_Model_isBraid x1).bind (fun r1 => if r1 = 0 then some (-2) else (f_Model_isFlow x2 v_row).bind (fun r2 => if r2 = 0 then some (-2) else (f_Model_truthAt x1 x2 v_number).bind (fun r3 => some r3)))
abbrev Q_Model_truth (below : List Frame) (D : va_G) (k : Nat → ClassId) (A : Nat → Prop) (args : Array Value) (s : State) (b0 : Nat → Nat) (o0 : Nat) (v_row : FI) (v_number : FJ) (v_saved : Int32) (v_place : FI) (v_low : FJ) (v_high : FJ) (v_lowBefore : FJ) (v_highBefore : FJ) (v_least : FJ) (v_greatest : FJ) (v_things : Int32) (v_changing : Int32) (v_overLow : FJ) (v_overHigh : FJ) (v_text : FI) (v_length : Int32) (v_at : Int32) (v_readKey : FI) (v_readCount : FJ) (v_keys : Int32) (v_h : Int64) (out : Int64) : State → Prop := MQ below (QW D k A (some (.long out)) [W_Model k b0 o0 v_row v_number v_saved v_place v_low v_high v_lowBefore v_highBefore v_least v_greatest v_things v_changing v_overLow v_overHigh v_text v_length v_at v_readKey v_readCount v_keys v_h].flatten) args s 0 0 A
set_option maxRecDepth 100000 in
set_option maxHeartbeats 1000000 in
theorem c_Model_truth (l : Launch) (D : va_G) (k : Nat → ClassId) (t : Nat → Nat) (b0 : Nat → Nat) (o0 : Nat) (v_row : FI) (v_number : FJ) (v_saved : Int32) (v_place : FI) (v_low : FJ) (v_high : FJ) (v_lowBefore : FJ) (v_highBefore : FJ) (v_least : FJ) (v_greatest : FJ) (v_things : Int32) (v_changing : Int32) (v_overLow : FJ) (v_overHigh : FJ) (v_text : FI) (v_length : Int32) (v_at : Int32) (v_readKey : FI) (v_readCount : FJ) (v_keys : Int32) (v_h : Int64) (x1 : Int32) (x2 : Int32) (out : Int64) (hf : f_Model_truth x1 x2 v_row v_number = some out) : CT l D k t yX8_truth cX8_truth 3 (some .long) rm_Model_truth [.ref (b0 o0), .int x1, .int x2] [W_Model k b0 o0 v_row v_number v_saved v_place v_low v_high v_lowBefore v_highBefore v_least v_greatest v_things v_changing v_overLow v_overHigh v_text v_length v_at v_readKey v_readCount v_keys v_h].flatten (some (.long out)) [W_Model k b0 o0 v_row v_number v_saved v_place v_low v_high v_lowBefore v_highBefore v_least v_greatest v_things v_changing v_overLow v_overHigh v_text v_length v_at v_readKey v_readCount v_keys v_h].flatten := by
  refine kofW (by decide) (Nat.le_of_ble_eq_true rfl) ?_
  intro p e s m below meth c A ls X hP hD hS hl
  have N : Nat := 0
  have hx := X.1.1
  have hb := X.1.2.1
  have hml := X.1.2.2.1
  have hown := X.1.2.2.2.1
  have hts := X.1.2.2.2.2
  have hl : lv_has ls 3 [(0, .ref (b0 o0)), (1, .int x1), (2, .int x2)] := hl
  rw [f_Model_truth] at hf
  refine lv_iload_n hx hb dX8_truth_0 rfl (lv_at hl 1 rfl) ?_
  obtain ⟨r1, hg_r1, hf⟩ := ofbind hf
  refine kcS (bs := [W_Model k b0 o0 v_row v_number v_saved v_place v_low v_high v_lowBefore v_highBefore v_least v_greatest v_things v_changing v_overLow v_overHigh v_text v_length v_at v_readKey v_readCount v_keys v_h]) (br := [W_Model k b0 o0 v_row v_number v_saved v_place v_low v_high v_lowBefore v_highBefore v_least v_greatest v_things v_changing v_overLow v_overHigh v_text v_length v_at v_readKey v_readCount v_keys v_h]) (bc := []) (bc' := []) X hP hD hS (c_Model_isBraid l D k t x1 r1 hg_r1) ms_X8_100 hl [0] [] ⟨rfl, rfl⟩ ⟨Nat.le_of_ble_eq_true rfl, Nat.le_of_ble_eq_true rfl⟩ rfl rfl rfl rfl (Nat.le_of_ble_eq_true rfl) dX8_truth_1 (fun H locs hP hD hS => ?_)
  have hP : va_P D vwCl [W_Model k b0 o0 v_row v_number v_saved v_place v_low v_high v_lowBefore v_highBefore v_least v_greatest v_things v_changing v_overLow v_overHigh v_text v_length v_at v_readKey v_readCount v_keys v_h].flatten _ := hP
  have hD : va_D A [W_Model k b0 o0 v_row v_number v_saved v_place v_low v_high v_lowBefore v_highBefore v_least v_greatest v_things v_changing v_overLow v_overHigh v_text v_length v_at v_readKey v_readCount v_keys v_h].flatten := hD
  refine lv_if_eq (tgt := 24) hx hb dX8_truth_4 (by decide) (fun hc => ?_) (fun hc => ?_)
  · have hf := ofpos hf hc
    refine lv_ldc2 (v := (-2)) hx hb hown (hts _ kc_X8_103) dX8_truth_24 ?_
    have hf := Option.some.inj hf
    subst hf
    exact klret (v := (-2)) X hP hD hS dX8_truth_27
  · have hf := ofneg hf hc
    refine lv_aload_n hx hb dX8_truth_7 rfl (lv_at hl 0 rfl) ?_
    refine lv_iload_n hx hb dX8_truth_8 rfl (lv_at hl 2 rfl) ?_
    obtain ⟨r2, hg_r2, hf⟩ := ofbind hf
    refine kcV (bs := [W_Model k b0 o0 v_row v_number v_saved v_place v_low v_high v_lowBefore v_highBefore v_least v_greatest v_things v_changing v_overLow v_overHigh v_text v_length v_at v_readKey v_readCount v_keys v_h]) (br := []) (bc := [W_Model k b0 o0 v_row v_number v_saved v_place v_low v_high v_lowBefore v_highBefore v_least v_greatest v_things v_changing v_overLow v_overHigh v_text v_length v_at v_readKey v_readCount v_keys v_h]) (bc' := [W_Model k b0 o0 v_row v_number v_saved v_place v_low v_high v_lowBefore v_highBefore v_least v_greatest v_things v_changing v_overLow v_overHigh v_text v_length v_at v_readKey v_readCount v_keys v_h]) X hP hD hS (c_Model_isFlow l D k t b0 o0 v_row v_number v_saved v_place v_low v_high v_lowBefore v_highBefore v_least v_greatest v_things v_changing v_overLow v_overHigh v_text v_length v_at v_readKey v_readCount v_keys v_h x2 r2 hg_r2) mv_X8_79 hl [] [0] 8 ⟨rfl, rfl⟩ ⟨Nat.le_of_ble_eq_true rfl, Nat.le_of_ble_eq_true rfl⟩ rfl rfl rfl rfl rfl rfl rfl (Nat.le_of_ble_eq_true rfl) dX8_truth_9 (fun H locs hP hD hS => ?_)
    have hP : va_P D vwCl [W_Model k b0 o0 v_row v_number v_saved v_place v_low v_high v_lowBefore v_highBefore v_least v_greatest v_things v_changing v_overLow v_overHigh v_text v_length v_at v_readKey v_readCount v_keys v_h].flatten _ := hP
    have hD : va_D A [W_Model k b0 o0 v_row v_number v_saved v_place v_low v_high v_lowBefore v_highBefore v_least v_greatest v_things v_changing v_overLow v_overHigh v_text v_length v_at v_readKey v_readCount v_keys v_h].flatten := hD
    refine lv_if_eq (tgt := 24) hx hb dX8_truth_12 (by decide) (fun hc => ?_) (fun hc => ?_)
    · have hf := ofpos hf hc
      refine lv_ldc2 (v := (-2)) hx hb hown (hts _ kc_X8_103) dX8_truth_24 ?_
      have hf := Option.some.inj hf
      subst hf
      exact klret (v := (-2)) X hP hD hS dX8_truth_27
    · have hf := ofneg hf hc
      refine lv_aload_n hx hb dX8_truth_15 rfl (lv_at hl 0 rfl) ?_
      refine lv_iload_n hx hb dX8_truth_16 rfl (lv_at hl 1 rfl) ?_
      refine lv_iload_n hx hb dX8_truth_17 rfl (lv_at hl 2 rfl) ?_
      obtain ⟨r3, hg_r3, hf⟩ := ofbind hf
      refine kcV (bs := [W_Model k b0 o0 v_row v_number v_saved v_place v_low v_high v_lowBefore v_highBefore v_least v_greatest v_things v_changing v_overLow v_overHigh v_text v_length v_at v_readKey v_readCount v_keys v_h]) (br := []) (bc := [W_Model k b0 o0 v_row v_number v_saved v_place v_low v_high v_lowBefore v_highBefore v_least v_greatest v_things v_changing v_overLow v_overHigh v_text v_length v_at v_readKey v_readCount v_keys v_h]) (bc' := [W_Model k b0 o0 v_row v_number v_saved v_place v_low v_high v_lowBefore v_highBefore v_least v_greatest v_things v_changing v_overLow v_overHigh v_text v_length v_at v_readKey v_readCount v_keys v_h]) X hP hD hS (c_Model_truthAt l D k t b0 o0 v_row v_number v_saved v_place v_low v_high v_lowBefore v_highBefore v_least v_greatest v_things v_changing v_overLow v_overHigh v_text v_length v_at v_readKey v_readCount v_keys v_h x1 x2 r3 hg_r3) mv_X8_108 hl [] [0] 8 ⟨rfl, rfl⟩ ⟨Nat.le_of_ble_eq_true rfl, Nat.le_of_ble_eq_true rfl⟩ rfl rfl rfl rfl rfl rfl rfl (Nat.le_of_ble_eq_true rfl) dX8_truth_18 (fun H locs hP hD hS => ?_)
      have hP : va_P D vwCl [W_Model k b0 o0 v_row v_number v_saved v_place v_low v_high v_lowBefore v_highBefore v_least v_greatest v_things v_changing v_overLow v_overHigh v_text v_length v_at v_readKey v_readCount v_keys v_h].flatten _ := hP
      have hD : va_D A [W_Model k b0 o0 v_row v_number v_saved v_place v_low v_high v_lowBefore v_highBefore v_least v_greatest v_things v_changing v_overLow v_overHigh v_text v_length v_at v_readKey v_readCount v_keys v_h].flatten := hD
      refine lv_goto (tgt := 27) hx hb dX8_truth_21 (by decide) ?_
      have hf := Option.some.inj hf
      subst hf
      exact klret (v := r3) X hP hD hS dX8_truth_27
