/-! Model_reads: private int reads(int, int); -/
abbrev rm_Model_reads : Room := ({ frames := 1, cells := 0, slots := 0, locals := 22 } : Room)
def f_Model_reads_L14 (i5 : Int32) (c8 : Int32) (v_text : FI) (v_length : Int32) (K84 : Int32 → Int32 → Option (Int32 × Int32)) : Nat → Int32 → Int32 → Option (Int32 × Int32)
  | 0, _, _ => none
  | n + 1, i6, i7 => if i5 < 0 then K84 i6 i7 else if v_length ≤ i6 then K84 i6 i7 else if ck i6 100 = true then (f_Model_in (v_text i6.toNatClampNeg) 48 57).bind (fun r9 => if r9 = 0 then K84 i6 i7 else if 5 ≤ (i6 - c8) then f_Model_reads_L14 i5 c8 v_text v_length K84 n (i6 + 1) i7 else if ck i6 100 = true then f_Model_reads_L14 i5 c8 v_text v_length K84 n (i6 + 1) (((10 * i7) + (v_text i6.toNatClampNeg)) - 48) else none) else none
def f_Model_reads_J84 (j12 : Int32) (j13 : Int32) (j14 : Int32) (j15 : Int32) (c16 : Int32) : Option (Int32 × Int32) := if j14 = c16 then some ((-1), c16) else if 4 < (j14 - c16) then some ((-1), c16) else (f_Model_in j15 j12 j13).bind (fun r17 => if r17 = 0 then some ((-1), c16) else some (j15, j14))
def f_Model_reads (N : Nat) (x1 : Int32) (x2 : Int32) (v_text : FI) (v_length : Int32) (v_at : Int32) : Option (Int32 × Int32) := (f_Model_here N v_text v_length v_at).bind (fun r1 => f_Model_reads_L14 r1.1 r1.2 v_text v_length (fun i10 i11 => f_Model_reads_J84 x1 x2 i10 i11 r1.2) N r1.2 0)
abbrev Q_Model_reads (below : List Frame) (D : va_G) (k : Nat → ClassId) (A : Nat → Prop) (args : Array Value) (s : State) (b0 : Nat → Nat) (o0 : Nat) (v_row : FI) (v_number : FJ) (v_saved : Int32) (v_place : FI) (v_low : FJ) (v_high : FJ) (v_lowBefore : FJ) (v_highBefore : FJ) (v_least : FJ) (v_greatest : FJ) (v_things : Int32) (v_changing : Int32) (v_overLow : FJ) (v_overHigh : FJ) (v_text : FI) (v_length : Int32) (v_at : Int32) (v_readKey : FI) (v_readCount : FJ) (v_keys : Int32) (v_h : Int64) (out : Int32 × Int32) : State → Prop := MQ below (QW D k A (some (.int out.1)) [W_Model k b0 o0 v_row v_number v_saved v_place v_low v_high v_lowBefore v_highBefore v_least v_greatest v_things v_changing v_overLow v_overHigh v_text v_length out.2 v_readKey v_readCount v_keys v_h].flatten) args s 0 0 A
set_option maxRecDepth 100000 in
set_option maxHeartbeats 1000000 in
theorem w_Model_reads_L14 {p : Program} {l : Launch} {e : Env} {s : State} {m : MethodId} {below : List Frame} {meth : Method} {c : Code} {args : Array Value} {A : Nat → Prop} {D : va_G} {k : Nat → ClassId} {t : Nat → Nat} (X : BX l D k t p s m args meth c cX8_reads 6 RX8 (some .int) A) (b0 : Nat → Nat) (o0 : Nat) (v_row : FI) (v_number : FJ) (v_saved : Int32) (v_place : FI) (v_low : FJ) (v_high : FJ) (v_lowBefore : FJ) (v_highBefore : FJ) (v_least : FJ) (v_greatest : FJ) (v_things : Int32) (v_changing : Int32) (v_overLow : FJ) (v_overHigh : FJ) (v_text : FI) (v_length : Int32) (v_at : Int32) (v_readKey : FI) (v_readCount : FJ) (v_keys : Int32) (v_h : Int64) (N : Nat) (i3 : Int32) (i4 : Int32) (i5 : Int32) (c8 : Int32) (out : Int32 × Int32) (K84 : Int32 → Int32 → Option (Int32 × Int32)) (hK84 : ∀ (i6' : Int32) (i7' : Int32) (H : Heap) (locs : List Loc) (ls : Array Slot), va_P D vwCl [W_Model k b0 o0 v_row v_number v_saved v_place v_low v_high v_lowBefore v_highBefore v_least v_greatest v_things v_changing v_overLow v_overHigh v_text v_length c8 v_readKey v_readCount v_keys v_h].flatten H → va_D A [W_Model k b0 o0 v_row v_number v_saved v_place v_low v_high v_lowBefore v_highBefore v_least v_greatest v_things v_changing v_overLow v_overHigh v_text v_length c8 v_readKey v_readCount v_keys v_h].flatten → va_S A s.heap H locs → lv_has ls 6 [(0, .ref (b0 o0)), (1, .int i3), (2, .int i4), (4, .int i6'), (5, .int i7')] → K84 i6' i7' = some out → W p l e rm_Model_reads s m args below meth c H locs 0 0 (Q_Model_reads below D k A args s b0 o0 v_row v_number v_saved v_place v_low v_high v_lowBefore v_highBefore v_least v_greatest v_things v_changing v_overLow v_overHigh v_text v_length v_at v_readKey v_readCount v_keys v_h out) (F0 m 84 ls [])) : ∀ (n : Nat) (i6 : Int32) (i7 : Int32) (H : Heap) (locs : List Loc) (ls : Array Slot), va_P D vwCl [W_Model k b0 o0 v_row v_number v_saved v_place v_low v_high v_lowBefore v_highBefore v_least v_greatest v_things v_changing v_overLow v_overHigh v_text v_length c8 v_readKey v_readCount v_keys v_h].flatten H → va_D A [W_Model k b0 o0 v_row v_number v_saved v_place v_low v_high v_lowBefore v_highBefore v_least v_greatest v_things v_changing v_overLow v_overHigh v_text v_length c8 v_readKey v_readCount v_keys v_h].flatten → va_S A s.heap H locs → lv_has ls 6 [(0, .ref (b0 o0)), (1, .int i3), (2, .int i4), (3, .int i5), (4, .int i6), (5, .int i7)] → f_Model_reads_L14 i5 c8 v_text v_length K84 n i6 i7 = some out → W p l e rm_Model_reads s m args below meth c H locs 0 0 (Q_Model_reads below D k A args s b0 o0 v_row v_number v_saved v_place v_low v_high v_lowBefore v_highBefore v_least v_greatest v_things v_changing v_overLow v_overHigh v_text v_length v_at v_readKey v_readCount v_keys v_h out) (F0 m 14 ls []) := by
  have hx := X.1.1
  have hb := X.1.2.1
  have hml := X.1.2.2.1
  have hown := X.1.2.2.2.1
  have hts := X.1.2.2.2.2
  intro n
  induction n with
  | zero =>
    intro i6 i7 H locs ls hP hD hS hl hf
    rw [f_Model_reads_L14] at hf
    cases hf
  | succ n ih =>
    intro i6 i7 H locs ls hP hD hS hl hf
    rw [f_Model_reads_L14] at hf
    refine lv_iload_n hx hb dX8_reads_14 rfl (lv_at hl 3 rfl) ?_
    refine lv_if_lt (tgt := 84) hx hb dX8_reads_15 (by decide) (fun hc => ?_) (fun hc => ?_)
    · have hf := ofpos hf hc
      exact hK84 i6 i7 _ _ _ hP hD hS (lv_sub hl [0, 1, 2, 4, 5] rfl) hf
    · have hf := ofneg hf hc
      refine lv_iload hx hb dX8_reads_18 (lv_at hl 4 rfl) ?_
      refine lv_aload_n hx hb dX8_reads_20 rfl (lv_at hl 0 rfl) ?_
      refine kget (v := .int v_length) X hP ff_X8_175 0 rfl rfl dX8_reads_21 ?_
      refine lv_icmp_ge (tgt := 84) hx hb dX8_reads_24 (by decide) (fun hc => ?_) (fun hc => ?_)
      · have hf := ofpos hf hc
        exact hK84 i6 i7 _ _ _ hP hD hS (lv_sub hl [0, 1, 2, 4, 5] rfl) hf
      · have hf := ofneg hf hc
        refine lv_aload_n hx hb dX8_reads_27 rfl (lv_at hl 0 rfl) ?_
        refine kget (v := .ref (b0 (o0+12))) X hP ff_X8_44 0 rfl rfl dX8_reads_28 ?_
        refine lv_iload hx hb dX8_reads_31 (lv_at hl 4 rfl) ?_
        obtain ⟨hc, hf⟩ := ofck hf
        refine kiald (f := v_text) (n := 100) X hP 12 rfl hc dX8_reads_33 ?_
        refine lv_bipush (v := 48) hx hb dX8_reads_34 (by decide) ?_
        refine lv_bipush (v := 57) hx hb dX8_reads_36 (by decide) ?_
        obtain ⟨r9, hg_r9, hf⟩ := ofbind hf
        refine kcS (bs := [W_Model k b0 o0 v_row v_number v_saved v_place v_low v_high v_lowBefore v_highBefore v_least v_greatest v_things v_changing v_overLow v_overHigh v_text v_length c8 v_readKey v_readCount v_keys v_h]) (br := [W_Model k b0 o0 v_row v_number v_saved v_place v_low v_high v_lowBefore v_highBefore v_least v_greatest v_things v_changing v_overLow v_overHigh v_text v_length c8 v_readKey v_readCount v_keys v_h]) (bc := []) (bc' := []) X hP hD hS (c_Model_in l D k t (v_text i6.toNatClampNeg) 48 57 r9 hg_r9) ms_X8_61 hl [0] [] ⟨rfl, rfl⟩ ⟨Nat.le_of_ble_eq_true rfl, Nat.le_of_ble_eq_true rfl⟩ rfl rfl rfl rfl (Nat.le_of_ble_eq_true rfl) dX8_reads_38 (fun H locs hP hD hS => ?_)
        have hP : va_P D vwCl [W_Model k b0 o0 v_row v_number v_saved v_place v_low v_high v_lowBefore v_highBefore v_least v_greatest v_things v_changing v_overLow v_overHigh v_text v_length c8 v_readKey v_readCount v_keys v_h].flatten _ := hP
        have hD : va_D A [W_Model k b0 o0 v_row v_number v_saved v_place v_low v_high v_lowBefore v_highBefore v_least v_greatest v_things v_changing v_overLow v_overHigh v_text v_length c8 v_readKey v_readCount v_keys v_h].flatten := hD
        refine lv_if_eq (tgt := 84) hx hb dX8_reads_41 (by decide) (fun hc => ?_) (fun hc => ?_)
        · have hf := ofpos hf hc
          exact hK84 i6 i7 _ _ _ hP hD hS (lv_sub hl [0, 1, 2, 4, 5] rfl) hf
        · have hf := ofneg hf hc
          refine lv_iload hx hb dX8_reads_44 (lv_at hl 4 rfl) ?_
          refine lv_aload_n hx hb dX8_reads_46 rfl (lv_at hl 0 rfl) ?_
          refine kget (v := .int c8) X hP ff_X8_178 0 rfl rfl dX8_reads_47 ?_
          refine lv_isub hx hb dX8_reads_50 ?_
          refine lv_iconst (v := 5) hx hb dX8_reads_51 (by decide) ?_
          refine lv_icmp_ge (tgt := 74) hx hb dX8_reads_52 (by decide) (fun hc => ?_) (fun hc => ?_)
          · have hf := ofpos hf hc
            refine lv_iload hx hb dX8_reads_74 (lv_at hl 5 rfl) ?_
            refine lv_istore (lv' := [(5, .int i7), (0, .ref (b0 o0)), (1, .int i3), (2, .int i4), (3, .int i5), (4, .int i6)]) hx hb dX8_reads_76 hl (by decide) rfl (fun ls hl => ?_)
            refine lv_iinc (v := i6 + 1) (lv' := [(4, .int (i6 + 1)), (5, .int i7), (0, .ref (b0 o0)), (1, .int i3), (2, .int i4), (3, .int i5)]) hx hb dX8_reads_78 hl (k := 5) rfl rfl (by decide) rfl (fun ls hl => ?_)
            refine lv_goto (tgt := 14) hx hb dX8_reads_81 (by decide) ?_
            exact ih (i6 + 1) i7 _ _ _ hP hD hS (lv_sub hl [2, 3, 4, 5, 0, 1] rfl) hf
          · have hf := ofneg hf hc
            refine lv_bipush (v := 10) hx hb dX8_reads_55 (by decide) ?_
            refine lv_iload hx hb dX8_reads_57 (lv_at hl 5 rfl) ?_
            refine lv_imul hx hb dX8_reads_59 ?_
            refine lv_aload_n hx hb dX8_reads_60 rfl (lv_at hl 0 rfl) ?_
            refine kget (v := .ref (b0 (o0+12))) X hP ff_X8_44 0 rfl rfl dX8_reads_61 ?_
            refine lv_iload hx hb dX8_reads_64 (lv_at hl 4 rfl) ?_
            obtain ⟨hc, hf⟩ := ofck hf
            refine kiald (f := v_text) (n := 100) X hP 12 rfl hc dX8_reads_66 ?_
            refine lv_iadd hx hb dX8_reads_67 ?_
            refine lv_bipush (v := 48) hx hb dX8_reads_68 (by decide) ?_
            refine lv_isub hx hb dX8_reads_70 ?_
            refine lv_goto (tgt := 76) hx hb dX8_reads_71 (by decide) ?_
            refine lv_istore (lv' := [(5, .int (((10 * i7) + (v_text i6.toNatClampNeg)) - 48)), (0, .ref (b0 o0)), (1, .int i3), (2, .int i4), (3, .int i5), (4, .int i6)]) hx hb dX8_reads_76 hl (by decide) rfl (fun ls hl => ?_)
            refine lv_iinc (v := i6 + 1) (lv' := [(4, .int (i6 + 1)), (5, .int (((10 * i7) + (v_text i6.toNatClampNeg)) - 48)), (0, .ref (b0 o0)), (1, .int i3), (2, .int i4), (3, .int i5)]) hx hb dX8_reads_78 hl (k := 5) rfl rfl (by decide) rfl (fun ls hl => ?_)
            refine lv_goto (tgt := 14) hx hb dX8_reads_81 (by decide) ?_
            exact ih (i6 + 1) (((10 * i7) + (v_text i6.toNatClampNeg)) - 48) _ _ _ hP hD hS (lv_sub hl [2, 3, 4, 5, 0, 1] rfl) hf
set_option maxRecDepth 100000 in
set_option maxHeartbeats 1000000 in
theorem w_Model_reads_J84 {p : Program} {l : Launch} {e : Env} {s : State} {m : MethodId} {below : List Frame} {meth : Method} {c : Code} {args : Array Value} {A : Nat → Prop} {D : va_G} {k : Nat → ClassId} {t : Nat → Nat} (X : BX l D k t p s m args meth c cX8_reads 6 RX8 (some .int) A) (b0 : Nat → Nat) (o0 : Nat) (v_row : FI) (v_number : FJ) (v_saved : Int32) (v_place : FI) (v_low : FJ) (v_high : FJ) (v_lowBefore : FJ) (v_highBefore : FJ) (v_least : FJ) (v_greatest : FJ) (v_things : Int32) (v_changing : Int32) (v_overLow : FJ) (v_overHigh : FJ) (v_text : FI) (v_length : Int32) (v_at : Int32) (v_readKey : FI) (v_readCount : FJ) (v_keys : Int32) (v_h : Int64) (N : Nat) (j12 : Int32) (j13 : Int32) (j14 : Int32) (j15 : Int32) (c16 : Int32) (out : Int32 × Int32) : ∀ (H : Heap) (locs : List Loc) (ls : Array Slot), va_P D vwCl [W_Model k b0 o0 v_row v_number v_saved v_place v_low v_high v_lowBefore v_highBefore v_least v_greatest v_things v_changing v_overLow v_overHigh v_text v_length c16 v_readKey v_readCount v_keys v_h].flatten H → va_D A [W_Model k b0 o0 v_row v_number v_saved v_place v_low v_high v_lowBefore v_highBefore v_least v_greatest v_things v_changing v_overLow v_overHigh v_text v_length c16 v_readKey v_readCount v_keys v_h].flatten → va_S A s.heap H locs → lv_has ls 6 [(0, .ref (b0 o0)), (1, .int j12), (2, .int j13), (4, .int j14), (5, .int j15)] → f_Model_reads_J84 j12 j13 j14 j15 c16 = some out → W p l e rm_Model_reads s m args below meth c H locs 0 0 (Q_Model_reads below D k A args s b0 o0 v_row v_number v_saved v_place v_low v_high v_lowBefore v_highBefore v_least v_greatest v_things v_changing v_overLow v_overHigh v_text v_length v_at v_readKey v_readCount v_keys v_h out) (F0 m 84 ls []) := by
  have hx := X.1.1
  have hb := X.1.2.1
  have hml := X.1.2.2.1
  have hown := X.1.2.2.2.1
  have hts := X.1.2.2.2.2
  intro H locs ls hP hD hS hl hf
  rw [f_Model_reads_J84] at hf
  refine lv_iload hx hb dX8_reads_84 (lv_at hl 3 rfl) ?_
  refine lv_aload_n hx hb dX8_reads_86 rfl (lv_at hl 0 rfl) ?_
  refine kget (v := .int c16) X hP ff_X8_178 0 rfl rfl dX8_reads_87 ?_
  refine lv_icmp_eq (tgt := 114) hx hb dX8_reads_90 (by decide) (fun hc => ?_) (fun hc => ?_)
  · have hf := ofpos hf hc
    refine lv_iconst (v := (-1)) hx hb dX8_reads_114 (by decide) ?_
    have hf := Option.some.inj hf
    subst hf
    exact kiret (v := (-1)) X hP hD hS dX8_reads_115
  · have hf := ofneg hf hc
    refine lv_iload hx hb dX8_reads_93 (lv_at hl 3 rfl) ?_
    refine lv_aload_n hx hb dX8_reads_95 rfl (lv_at hl 0 rfl) ?_
    refine kget (v := .int c16) X hP ff_X8_178 0 rfl rfl dX8_reads_96 ?_
    refine lv_isub hx hb dX8_reads_99 ?_
    refine lv_iconst (v := 4) hx hb dX8_reads_100 (by decide) ?_
    refine lv_icmp_gt (tgt := 114) hx hb dX8_reads_101 (by decide) (fun hc => ?_) (fun hc => ?_)
    · have hf := ofpos hf hc
      refine lv_iconst (v := (-1)) hx hb dX8_reads_114 (by decide) ?_
      have hf := Option.some.inj hf
      subst hf
      exact kiret (v := (-1)) X hP hD hS dX8_reads_115
    · have hf := ofneg hf hc
      refine lv_iload hx hb dX8_reads_104 (lv_at hl 4 rfl) ?_
      refine lv_iload_n hx hb dX8_reads_106 rfl (lv_at hl 1 rfl) ?_
      refine lv_iload_n hx hb dX8_reads_107 rfl (lv_at hl 2 rfl) ?_
      obtain ⟨r17, hg_r17, hf⟩ := ofbind hf
      refine kcS (bs := [W_Model k b0 o0 v_row v_number v_saved v_place v_low v_high v_lowBefore v_highBefore v_least v_greatest v_things v_changing v_overLow v_overHigh v_text v_length c16 v_readKey v_readCount v_keys v_h]) (br := [W_Model k b0 o0 v_row v_number v_saved v_place v_low v_high v_lowBefore v_highBefore v_least v_greatest v_things v_changing v_overLow v_overHigh v_text v_length c16 v_readKey v_readCount v_keys v_h]) (bc := []) (bc' := []) X hP hD hS (c_Model_in l D k t j15 j12 j13 r17 hg_r17) ms_X8_61 hl [0] [] ⟨rfl, rfl⟩ ⟨Nat.le_of_ble_eq_true rfl, Nat.le_of_ble_eq_true rfl⟩ rfl rfl rfl rfl (Nat.le_of_ble_eq_true rfl) dX8_reads_108 (fun H locs hP hD hS => ?_)
      have hP : va_P D vwCl [W_Model k b0 o0 v_row v_number v_saved v_place v_low v_high v_lowBefore v_highBefore v_least v_greatest v_things v_changing v_overLow v_overHigh v_text v_length c16 v_readKey v_readCount v_keys v_h].flatten _ := hP
      have hD : va_D A [W_Model k b0 o0 v_row v_number v_saved v_place v_low v_high v_lowBefore v_highBefore v_least v_greatest v_things v_changing v_overLow v_overHigh v_text v_length c16 v_readKey v_readCount v_keys v_h].flatten := hD
      refine lv_if_ne (tgt := 116) hx hb dX8_reads_111 (by decide) (fun hc => ?_) (fun hc => ?_)
      · have hf := ofneg hf hc
        refine lv_aload_n hx hb dX8_reads_116 rfl (lv_at hl 0 rfl) ?_
        refine lv_iload hx hb dX8_reads_117 (lv_at hl 3 rfl) ?_
        refine kputi (v := j14) X hP hD hS fp_X8_178 0 rfl (Nat.le_of_ble_eq_true rfl) dX8_reads_119 (fun H locs hP hD hS => ?_)
        have hP : va_P D vwCl [W_Model k b0 o0 v_row v_number v_saved v_place v_low v_high v_lowBefore v_highBefore v_least v_greatest v_things v_changing v_overLow v_overHigh v_text v_length j14 v_readKey v_readCount v_keys v_h].flatten _ := hP
        have hD : va_D A [W_Model k b0 o0 v_row v_number v_saved v_place v_low v_high v_lowBefore v_highBefore v_least v_greatest v_things v_changing v_overLow v_overHigh v_text v_length j14 v_readKey v_readCount v_keys v_h].flatten := hD
        refine lv_iload hx hb dX8_reads_122 (lv_at hl 4 rfl) ?_
        have hf := Option.some.inj hf
        subst hf
        exact kiret (v := j15) X hP hD hS dX8_reads_124
      · have hf := ofpos hf hc
        refine lv_iconst (v := (-1)) hx hb dX8_reads_114 (by decide) ?_
        have hf := Option.some.inj hf
        subst hf
        exact kiret (v := (-1)) X hP hD hS dX8_reads_115
set_option maxRecDepth 100000 in
set_option maxHeartbeats 1000000 in
theorem c_Model_reads (l : Launch) (D : va_G) (k : Nat → ClassId) (t : Nat → Nat) (b0 : Nat → Nat) (o0 : Nat) (v_row : FI) (v_number : FJ) (v_saved : Int32) (v_place : FI) (v_low : FJ) (v_high : FJ) (v_lowBefore : FJ) (v_highBefore : FJ) (v_least : FJ) (v_greatest : FJ) (v_things : Int32) (v_changing : Int32) (v_overLow : FJ) (v_overHigh : FJ) (v_text : FI) (v_length : Int32) (v_at : Int32) (v_readKey : FI) (v_readCount : FJ) (v_keys : Int32) (v_h : Int64) (x1 : Int32) (x2 : Int32) (N : Nat) (out : Int32 × Int32) (hf : f_Model_reads N x1 x2 v_text v_length v_at = some out) : CT l D k t yX8_reads cX8_reads 6 (some .int) rm_Model_reads [.ref (b0 o0), .int x1, .int x2] [W_Model k b0 o0 v_row v_number v_saved v_place v_low v_high v_lowBefore v_highBefore v_least v_greatest v_things v_changing v_overLow v_overHigh v_text v_length v_at v_readKey v_readCount v_keys v_h].flatten (some (.int out.1)) [W_Model k b0 o0 v_row v_number v_saved v_place v_low v_high v_lowBefore v_highBefore v_least v_greatest v_things v_changing v_overLow v_overHigh v_text v_length out.2 v_readKey v_readCount v_keys v_h].flatten := by
  refine kofW (by decide) (Nat.le_of_ble_eq_true rfl) ?_
  intro p e s m below meth c A ls X hP hD hS hl
  have hx := X.1.1
  have hb := X.1.2.1
  have hml := X.1.2.2.1
  have hown := X.1.2.2.2.1
  have hts := X.1.2.2.2.2
  have hl : lv_has ls 6 [(0, .ref (b0 o0)), (1, .int x1), (2, .int x2)] := hl
  rw [f_Model_reads] at hf
  refine lv_aload_n hx hb dX8_reads_0 rfl (lv_at hl 0 rfl) ?_
  obtain ⟨r1, hg_r1, hf⟩ := ofbind hf
  refine kcV (bs := [W_Model k b0 o0 v_row v_number v_saved v_place v_low v_high v_lowBefore v_highBefore v_least v_greatest v_things v_changing v_overLow v_overHigh v_text v_length v_at v_readKey v_readCount v_keys v_h]) (br := []) (bc := [W_Model k b0 o0 v_row v_number v_saved v_place v_low v_high v_lowBefore v_highBefore v_least v_greatest v_things v_changing v_overLow v_overHigh v_text v_length v_at v_readKey v_readCount v_keys v_h]) (bc' := [W_Model k b0 o0 v_row v_number v_saved v_place v_low v_high v_lowBefore v_highBefore v_least v_greatest v_things v_changing v_overLow v_overHigh v_text v_length r1.2 v_readKey v_readCount v_keys v_h]) X hP hD hS (c_Model_here l D k t b0 o0 v_row v_number v_saved v_place v_low v_high v_lowBefore v_highBefore v_least v_greatest v_things v_changing v_overLow v_overHigh v_text v_length v_at v_readKey v_readCount v_keys v_h N r1 hg_r1) mv_X8_181 hl [] [0] 8 ⟨rfl, rfl⟩ ⟨Nat.le_of_ble_eq_true rfl, Nat.le_of_ble_eq_true rfl⟩ rfl rfl rfl rfl rfl rfl rfl (Nat.le_of_ble_eq_true rfl) dX8_reads_1 (fun H locs hP hD hS => ?_)
  have hP : va_P D vwCl [W_Model k b0 o0 v_row v_number v_saved v_place v_low v_high v_lowBefore v_highBefore v_least v_greatest v_things v_changing v_overLow v_overHigh v_text v_length r1.2 v_readKey v_readCount v_keys v_h].flatten _ := hP
  have hD : va_D A [W_Model k b0 o0 v_row v_number v_saved v_place v_low v_high v_lowBefore v_highBefore v_least v_greatest v_things v_changing v_overLow v_overHigh v_text v_length r1.2 v_readKey v_readCount v_keys v_h].flatten := hD
  refine lv_istore_n (lv' := [(3, .int r1.1), (0, .ref (b0 o0)), (1, .int x1), (2, .int x2)]) hx hb dX8_reads_4 rfl hl (by decide) rfl (fun ls hl => ?_)
  refine lv_aload_n hx hb dX8_reads_5 rfl (lv_at hl 1 rfl) ?_
  refine kget (v := .int r1.2) X hP ff_X8_178 0 rfl rfl dX8_reads_6 ?_
  refine lv_istore (lv' := [(4, .int r1.2), (3, .int r1.1), (0, .ref (b0 o0)), (1, .int x1), (2, .int x2)]) hx hb dX8_reads_9 hl (by decide) rfl (fun ls hl => ?_)
  refine lv_iconst (v := 0) hx hb dX8_reads_11 (by decide) ?_
  refine lv_istore (lv' := [(5, .int 0), (4, .int r1.2), (3, .int r1.1), (0, .ref (b0 o0)), (1, .int x1), (2, .int x2)]) hx hb dX8_reads_12 hl (by decide) rfl (fun ls hl => ?_)
  refine w_Model_reads_L14 X b0 o0 v_row v_number v_saved v_place v_low v_high v_lowBefore v_highBefore v_least v_greatest v_things v_changing v_overLow v_overHigh v_text v_length v_at v_readKey v_readCount v_keys v_h N x1 x2 r1.1 r1.2 out _ ?_ N r1.2 0 _ _ _ hP hD hS (lv_sub hl [3, 4, 5, 2, 1, 0] rfl) hf
  · intro i10 i11 H locs ls hP hD hS hl hf
    exact w_Model_reads_J84 X b0 o0 v_row v_number v_saved v_place v_low v_high v_lowBefore v_highBefore v_least v_greatest v_things v_changing v_overLow v_overHigh v_text v_length v_at v_readKey v_readCount v_keys v_h N x1 x2 i10 i11 r1.2 out _ _ _ hP hD hS (lv_sub hl [0, 1, 2, 3, 4] rfl) hf
