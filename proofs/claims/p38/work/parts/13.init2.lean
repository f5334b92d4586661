/-- a block told by other names of the same addresses -/
def BE (w w' : va_W) : Prop := (∀ (D : va_G) (H : Heap), va_P D vwCl w H → va_P D vwCl w' H) ∧ w.map (·.1) = w'.map (·.1)
theorem BE.refl {w : va_W} : BE w w := ⟨fun _ _ h => h, rfl⟩
theorem BE.of {w w' : va_W} (h : w = w') : BE w w' := by subst h; exact BE.refl
theorem BE.app {w w' v v' : va_W} (h : BE w w') (g : BE v v') : BE (w ++ v) (w' ++ v') := by
  refine ⟨fun D H hP => ?_, by rw [List.map_append, List.map_append, h.2, g.2]⟩
  have hP := P_mem.mp hP
  have h1 := P_mem.mp (h.1 D H (P_mem.mpr fun q hq => hP q (List.mem_append_left _ hq)))
  have h2 := P_mem.mp (g.1 D H (P_mem.mpr fun q hq => hP q (List.mem_append_right _ hq)))
  refine P_mem.mpr fun q hq => ?_
  rcases List.mem_append.mp hq with h | h
  · exact h1 q h
  · exact h2 q h
theorem BE.D {w w' : va_W} (h : BE w w') {A : Nat → Prop} (hD : va_D A w) : va_D A w' := by
  have hD := D_nd.mp hD
  refine D_nd.mpr ⟨by rw [← h.2]; exact hD.1, fun q hq => ?_⟩
  have h1 : q.1 ∈ w'.map (·.1) := List.mem_map.mpr ⟨q, hq, rfl⟩
  rw [← h.2] at h1
  obtain ⟨q', hq', e⟩ := List.mem_map.mp h1
  rw [← e]
  exact hD.2 q' hq'

theorem sh_Form {k : Nat → ClassId} {b b' : Nat → Nat} {o o' : Nat} (x_counters : Int32) (x_bits : Int32) (x_functions : Int32) (x_countersAbove : Int32) (x_functionsAbove : Int32) (x_rounds : Int32) (h : ∀ i, i < 1 → b (o + i) = b' (o' + i)) : W_Form k b' o' x_counters x_bits x_functions x_countersAbove x_functionsAbove x_rounds = W_Form k b o x_counters x_bits x_functions x_countersAbove x_functionsAbove x_rounds := by
  unfold W_Form
  have e0 : b (o + 0) = b' (o' + 0) := h 0 (by decide)
  rw [Nat.add_zero, Nat.add_zero] at e0
  rw [e0]
theorem sh_Braid {k : Nat → ClassId} {b b' : Nat → Nat} {o o' : Nat} (x_truths : FJ) (x_rests : FI) (x_marks : FI) (x_numbers : FJ) (h : ∀ i, i < 5 → b (o + i) = b' (o' + i)) : W_Braid k b' o' x_truths x_rests x_marks x_numbers = W_Braid k b o x_truths x_rests x_marks x_numbers := by
  unfold W_Braid
  have e0 : b (o + 0) = b' (o' + 0) := h 0 (by decide)
  have e1 : b (o + 1) = b' (o' + 1) := h 1 (by decide)
  have e2 : b (o + 2) = b' (o' + 2) := h 2 (by decide)
  have e3 : b (o + 3) = b' (o' + 3) := h 3 (by decide)
  have e4 : b (o + 4) = b' (o' + 4) := h 4 (by decide)
  rw [Nat.add_zero, Nat.add_zero] at e0
  rw [e0, e1, e2, e3, e4]
theorem sh_Text {k : Nat → ClassId} {b b' : Nat → Nat} {o o' : Nat} (x_codes : FI) (x_length : Int32) (x_itemKeys : FI) (x_itemCounts : FI) (x_items : Int32) (x_newFlows : Int32) (x_at : Int32) (h : ∀ i, i < 4 → b (o + i) = b' (o' + i)) : W_Text k b' o' x_codes x_length x_itemKeys x_itemCounts x_items x_newFlows x_at = W_Text k b o x_codes x_length x_itemKeys x_itemCounts x_items x_newFlows x_at := by
  unfold W_Text
  have e0 : b (o + 0) = b' (o' + 0) := h 0 (by decide)
  have e1 : b (o + 1) = b' (o' + 1) := h 1 (by decide)
  have e2 : b (o + 2) = b' (o' + 2) := h 2 (by decide)
  have e3 : b (o + 3) = b' (o' + 3) := h 3 (by decide)
  rw [Nat.add_zero, Nat.add_zero] at e0
  rw [e0, e1, e2, e3]
theorem sh_State {k : Nat → ClassId} {b b' : Nat → Nat} {o o' : Nat} (x_form_counters : Int32) (x_form_bits : Int32) (x_form_functions : Int32) (x_form_countersAbove : Int32) (x_form_functionsAbove : Int32) (x_form_rounds : Int32) (x_flows : Int32) (x_keys : FI) (x_first_truths : FJ) (x_first_rests : FI) (x_first_marks : FI) (x_first_numbers : FJ) (x_second_truths : FJ) (x_second_rests : FI) (x_second_marks : FI) (x_second_numbers : FJ) (h : ∀ i, i < 13 → b (o + i) = b' (o' + i)) : W_State k b' o' x_form_counters x_form_bits x_form_functions x_form_countersAbove x_form_functionsAbove x_form_rounds x_flows x_keys x_first_truths x_first_rests x_first_marks x_first_numbers x_second_truths x_second_rests x_second_marks x_second_numbers = W_State k b o x_form_counters x_form_bits x_form_functions x_form_countersAbove x_form_functionsAbove x_form_rounds x_flows x_keys x_first_truths x_first_rests x_first_marks x_first_numbers x_second_truths x_second_rests x_second_marks x_second_numbers := by
  unfold W_State
  have e0 : b (o + 0) = b' (o' + 0) := h 0 (by decide)
  rw [Nat.add_zero, Nat.add_zero] at e0
  rw [e0, h 1 (by decide), h 2 (by decide), h 3 (by decide), h 8 (by decide)]
  rw [sh_Form (b := b) (b' := b') (o := o + 1) (o' := o' + 1) _ _ _ _ _ _ (fun i hi => by rw [Nat.add_assoc, Nat.add_assoc]; exact h (1 + i) (by omega))]
  rw [sh_Braid (b := b) (b' := b') (o := o + 3) (o' := o' + 3) _ _ _ _ (fun i hi => by rw [Nat.add_assoc, Nat.add_assoc]; exact h (3 + i) (by omega))]
  rw [sh_Braid (b := b) (b' := b') (o := o + 8) (o' := o' + 8) _ _ _ _ (fun i hi => by rw [Nat.add_assoc, Nat.add_assoc]; exact h (8 + i) (by omega))]
theorem sh_History {k : Nat → ClassId} {b b' : Nat → Nat} {o o' : Nat} {h0 : HistoryS} (e0 : b o = b' o') (e1 : b (o + 1) = b' (o' + 1)) : W_History k b' o' h0 = W_History k b o h0 := by
  unfold W_History
  rw [e0, e1]
theorem sh_Bounds {k : Nat → ClassId} {b b' : Nat → Nat} {o o' : Nat} (x_least : FJ) (x_greatest : FJ) (x_lowerSums : FJ) (x_upperSums : FJ) (x_lower : FJ) (x_upper : FJ) (x_places : (Nat → FI)) (x_placeCounts : FI) (x_things : Int32) (h : ∀ i, i < 33 → b (o + i) = b' (o' + i)) : BE (W_Bounds k b' o' x_least x_greatest x_lowerSums x_upperSums x_lower x_upper x_places x_placeCounts x_things) (W_Bounds k b o x_least x_greatest x_lowerSums x_upperSums x_lower x_upper x_places x_placeCounts x_things) := by
  unfold W_Bounds
  have e0 : b (o + 0) = b' (o' + 0) := h 0 (by decide)
  rw [Nat.add_zero, Nat.add_zero] at e0
  refine BE.app ?_ (BE.of ?_)
  · rw [e0, h 1 (by decide), h 2 (by decide), h 3 (by decide), h 4 (by decide), h 5 (by decide), h 6 (by decide), h 7 (by decide), h 8 (by decide)]
    refine ⟨fun D H hP => ?_, rfl⟩
    have hP := P_mem.mp hP
    refine P_mem.mpr fun q hq => ?_
    simp only [List.mem_cons, List.not_mem_nil, or_false] at hq
    rcases hq with rfl | rfl | rfl | rfl | rfl | rfl | rfl | rfl | rfl
    · exact hP _ (List.mem_of_getElem? (i := 0) rfl)
    · exact hP _ (List.mem_of_getElem? (i := 1) rfl)
    · exact hP _ (List.mem_of_getElem? (i := 2) rfl)
    · exact hP _ (List.mem_of_getElem? (i := 3) rfl)
    · exact hP _ (List.mem_of_getElem? (i := 4) rfl)
    · exact hP _ (List.mem_of_getElem? (i := 5) rfl)
    · exact hP _ (List.mem_of_getElem? (i := 6) rfl)
    · have hh := hP _ (List.mem_of_getElem? (i := 7) rfl)
      show H[b' (o' + 7)]? = some (vp_cell _ _)
      rw [cell_q (g := fun i => some (b' (o' + 9 + i))) (fun j hj => by rw [Nat.add_assoc, Nat.add_assoc, h (9 + j) (by omega)])]
      exact hh
    · exact hP _ (List.mem_of_getElem? (i := 8) rfl)
  · unfold gRows
    refine List.map_congr_left fun i hi => ?_
    rw [Nat.add_assoc o 9 i, Nat.add_assoc o' 9 i, h (9 + i) (by have := List.mem_range.mp hi; omega)]
theorem sh_Decoder {k : Nat → ClassId} {b b' : Nat → Nat} {o o' : Nat} (x_overflows_least : FJ) (x_overflows_greatest : FJ) (x_overflows_lowerSums : FJ) (x_overflows_upperSums : FJ) (x_overflows_lower : FJ) (x_overflows_upper : FJ) (x_overflows_places : (Nat → FI)) (x_overflows_placeCounts : FI) (x_overflows_things : Int32) (x_amounts_least : FJ) (x_amounts_greatest : FJ) (x_amounts_lowerSums : FJ) (x_amounts_upperSums : FJ) (x_amounts_lower : FJ) (x_amounts_upper : FJ) (x_amounts_places : (Nat → FI)) (x_amounts_placeCounts : FI) (x_amounts_things : Int32) (h : ∀ i, i < 67 → b (o + i) = b' (o' + i)) : BE (W_Decoder k b' o' x_overflows_least x_overflows_greatest x_overflows_lowerSums x_overflows_upperSums x_overflows_lower x_overflows_upper x_overflows_places x_overflows_placeCounts x_overflows_things x_amounts_least x_amounts_greatest x_amounts_lowerSums x_amounts_upperSums x_amounts_lower x_amounts_upper x_amounts_places x_amounts_placeCounts x_amounts_things) (W_Decoder k b o x_overflows_least x_overflows_greatest x_overflows_lowerSums x_overflows_upperSums x_overflows_lower x_overflows_upper x_overflows_places x_overflows_placeCounts x_overflows_things x_amounts_least x_amounts_greatest x_amounts_lowerSums x_amounts_upperSums x_amounts_lower x_amounts_upper x_amounts_places x_amounts_placeCounts x_amounts_things) := by
  unfold W_Decoder
  have e0 : b (o + 0) = b' (o' + 0) := h 0 (by decide)
  rw [Nat.add_zero, Nat.add_zero] at e0
  rw [e0, h 1 (by decide), h 34 (by decide)]
  refine BE.app BE.refl (BE.app (sh_Bounds (o := o + 1) (o' := o' + 1) _ _ _ _ _ _ _ _ _ (fun i hi => ?_)) (sh_Bounds (o := o + 34) (o' := o' + 34) _ _ _ _ _ _ _ _ _ (fun i hi => ?_)))
  · rw [Nat.add_assoc, Nat.add_assoc]
    exact h (1 + i) (by omega)
  · rw [Nat.add_assoc, Nat.add_assoc]
    exact h (34 + i) (by omega)
def bD (a : Nat) (b1 b2 : Nat → Nat) : Nat → Nat := fun i => if i = 0 then a else if i < 34 then b1 (i - 1) else b2 (i - 34)
def bC (a : Nat) (b1 b2 b3 b4 b5 : Nat → Nat) : Nat → Nat := fun i => if i = 0 then a else if i < 14 then b1 (i - 1) else if i < 81 then b2 (i - 14) else if i < 85 then b3 (i - 81) else if i < 152 then b4 (i - 85) else b5 (i - 152)
theorem bD_1 {a : Nat} {b1 b2 : Nat → Nat} {i : Nat} (hi : i < 33) : bD a b1 b2 (0 + 1 + i) = b1 (0 + i) := by
  unfold bD
  rw [if_neg (by omega), if_pos (by omega)]
  exact congrArg b1 (by omega)
theorem bD_2 {a : Nat} {b1 b2 : Nat → Nat} {i : Nat} : bD a b1 b2 (0 + 34 + i) = b2 (0 + i) := by
  unfold bD
  rw [if_neg (by omega), if_neg (by omega)]
  exact congrArg b2 (by omega)
theorem bC_1 {a : Nat} {b1 b2 b3 b4 b5 : Nat → Nat} {i : Nat} (hi : i < 13) : bC a b1 b2 b3 b4 b5 (0 + 1 + i) = b1 (0 + i) := by
  unfold bC
  rw [if_neg (by omega), if_pos (by omega)]
  exact congrArg b1 (by omega)
theorem bC_3 {a : Nat} {b1 b2 b3 b4 b5 : Nat → Nat} {i : Nat} (hi : i < 4) : bC a b1 b2 b3 b4 b5 (0 + 81 + i) = b3 (0 + i) := by
  unfold bC
  rw [if_neg (by omega), if_neg (by omega), if_neg (by omega), if_pos (by omega)]
  exact congrArg b3 (by omega)
theorem bC_4 {a : Nat} {b1 b2 b3 b4 b5 : Nat → Nat} {i : Nat} (hi : i < 67) : bC a b1 b2 b3 b4 b5 (0 + 85 + i) = b4 (0 + i) := by
  unfold bC
  rw [if_neg (by omega), if_neg (by omega), if_neg (by omega), if_neg (by omega), if_pos (by omega)]
  exact congrArg b4 (by omega)
theorem bC_5 {a : Nat} {b1 b2 b3 b4 b5 : Nat → Nat} {i : Nat} : bC a b1 b2 b3 b4 b5 (0 + 152 + i) = b5 (0 + i) := by
  unfold bC
  rw [if_neg (by omega), if_neg (by omega), if_neg (by omega), if_neg (by omega), if_neg (by omega)]
  exact congrArg b5 (by omega)

theorem fn_X2_9 : FN RX2 9 0 [.null, .null, .null, .null, .null, .null, .null, .null, .int 0] := ⟨(RX0, TX0, 9), rfl, inlX0, (wm_r4 (List.mem_of_getElem? (i := 3) rfl)), (wm_r4 (List.mem_of_getElem? (i := 4) rfl)), (wm_r4 (List.mem_of_getElem? (i := 5) rfl)), rfl, tyX0, tyX0_ok, by decide +kernel⟩
theorem mi_X2_11 : MIN RX2 11 0 yX0_init cX0_init 1 := ⟨⟨by decide +kernel, (wm_r4 (List.mem_of_getElem? (i := 8) rfl)), (wm_r4 (List.mem_of_getElem? (i := 5) rfl)), (wm_r4 (List.mem_of_getElem? (i := 9) rfl))⟩, rfl, by decide +kernel, by decide +kernel, by decide +kernel⟩
theorem fpF_X2_12 : FPF RX2 12 2 0 (.object "CounterBraid$Bounds") := ⟨(RX2, TX2, 2), rfl, by decide, inlX2, (wm_r4 (List.mem_of_getElem? (i := 6) rfl)), rfl, rfl, rfl, by decide +kernel, ⟨tyX2, tyX2_ok⟩, nmX2⟩
theorem fpF_X2_18 : FPF RX2 18 2 1 (.object "CounterBraid$Bounds") := ⟨(RX2, TX2, 2), rfl, by decide, inlX2, (wm_r4 (List.mem_of_getElem? (i := 7) rfl)), rfl, rfl, rfl, by decide +kernel, ⟨tyX2, tyX2_ok⟩, nmX2⟩
abbrev rm_Decoder_init : Room := ({ frames := 2, cells := 66, slots := 594, locals := 32 } : Room)
set_option maxRecDepth 100000 in
set_option maxHeartbeats 4000000 in
theorem c_Decoder_init (l : Launch) (D : va_G) (k : Nat → ClassId) (t : Nat → Nat) (a : Nat) : CN l D k t yX2_init cX2_init 1 rm_Decoder_init [.ref a] [[(a, .inr (2, [.null, .null]))]].flatten (fun w => ∃ b : Nat → Nat, b 0 = a ∧ w = W_Decoder k b 0 (fun _ => 0) (fun _ => 0) (fun _ => 0) (fun _ => 0) (fun _ => 0) (fun _ => 0) (fun _ _ => 0) (fun _ => 0) 0 (fun _ => 0) (fun _ => 0) (fun _ => 0) (fun _ => 0) (fun _ => 0) (fun _ => 0) (fun _ _ => 0) (fun _ => 0) 0) 66 594 := by
  refine kofN (by decide) rfl (Nat.le_of_ble_eq_true rfl) ?_
  intro p e s m below meth c A ls X hin hAO hP hD hS hl
  have hx := X.1.1
  have hb := X.1.2.1
  have hl : lv_has ls 1 [(0, .ref a)] := hl
  have hP : va_P D vwCl [[(a, .inr (2, [.null, .null]))]].flatten _ := hP
  have hD : va_D A [[(a, .inr (2, [.null, .null]))]].flatten := hD
  refine lv_aload_n hx hb dX2_init_0 rfl (lv_at hl 0 rfl) ?_
  refine kobj X hl (wm_r4 (List.mem_of_getElem? (i := 2) rfl)) (wm_r1 (List.mem_of_getElem? (i := 10) rfl)) (wm_r1 (List.mem_of_getElem? (i := 11) rfl)) dX2_init_1 (Nat.le_of_ble_eq_true rfl) (Nat.le_of_ble_eq_true rfl) ?_
  refine lv_aload_n hx hb dX2_init_4 rfl (lv_at hl 0 rfl) ?_
  refine knewB (bs := [[(a, .inr (2, [.null, .null]))]]) (N := 9) X hP hD hS fn_X2_9 rfl (Nat.le_of_ble_eq_true rfl) (Nat.le_of_ble_eq_true rfl) dX2_init_5 (fun q1 H hP hD hS => ?_)
  have hP : va_P D vwCl [[(a, .inr (2, [.null, .null]))], [(q1, .inr (0, [.null, .null, .null, .null, .null, .null, .null, .null, .int 0]))]].flatten _ := hP
  have hD : va_D A [[(a, .inr (2, [.null, .null]))], [(q1, .inr (0, [.null, .null, .null, .null, .null, .null, .null, .null, .int 0]))]].flatten := hD
  refine lv_dup hx hb dX2_init_8 rfl ?_
  refine kcJ (bs := [[(a, .inr (2, [.null, .null]))], [(q1, .inr (0, [.null, .null, .null, .null, .null, .null, .null, .null, .int 0]))]]) (br := [[(a, .inr (2, [.null, .null]))]]) (bc := [[(q1, .inr (0, [.null, .null, .null, .null, .null, .null, .null, .null, .int 0]))]]) (F := (fun w => ∃ b : Nat → Nat, b 0 = q1 ∧ w = W_Bounds k b 0 (fun _ => 0) (fun _ => 0) (fun _ => 0) (fun _ => 0) (fun _ => 0) (fun _ => 0) (fun _ _ => 0) (fun _ => 0) 0)) X hAO hP hD hS (c_Bounds_init l D k t q1) mi_X2_11 hl [0] [1] ⟨rfl, rfl⟩ ⟨Nat.le_of_ble_eq_true rfl, Nat.le_of_ble_eq_true rfl⟩ rfl rfl rfl rfl (Nat.le_of_ble_eq_true rfl) ⟨Nat.le_of_ble_eq_true rfl, Nat.le_of_ble_eq_true rfl⟩ dX2_init_9 (fun ws H locs hF hPn hDn hS => ?_)
  obtain ⟨b1, hb1, rfl⟩ := hF
  subst hb1
  have hP : va_P D vwCl [[(a, .inr (2, [.null, .null]))], W_Bounds k b1 0 (fun _ => 0) (fun _ => 0) (fun _ => 0) (fun _ => 0) (fun _ => 0) (fun _ => 0) (fun _ _ => 0) (fun _ => 0) 0].flatten _ := hPn
  have hD : va_D A [[(a, .inr (2, [.null, .null]))], W_Bounds k b1 0 (fun _ => 0) (fun _ => 0) (fun _ => 0) (fun _ => 0) (fun _ => 0) (fun _ => 0) (fun _ _ => 0) (fun _ => 0) 0].flatten := hDn
  refine kputR (v := (b1 0)) X hin hP hD hS fpF_X2_12 0 rfl rfl rfl (Nat.le_of_ble_eq_true rfl) dX2_init_12 (fun H locs hP hD hS => ?_)
  have hP : va_P D vwCl [[(a, .inr (2, [.ref (b1 0), .null]))], W_Bounds k b1 0 (fun _ => 0) (fun _ => 0) (fun _ => 0) (fun _ => 0) (fun _ => 0) (fun _ => 0) (fun _ _ => 0) (fun _ => 0) 0].flatten _ := hP
  have hD : va_D A [[(a, .inr (2, [.ref (b1 0), .null]))], W_Bounds k b1 0 (fun _ => 0) (fun _ => 0) (fun _ => 0) (fun _ => 0) (fun _ => 0) (fun _ => 0) (fun _ _ => 0) (fun _ => 0) 0].flatten := hD
  refine lv_aload_n hx hb dX2_init_15 rfl (lv_at hl 0 rfl) ?_
  refine knewB (bs := [[(a, .inr (2, [.ref (b1 0), .null]))], W_Bounds k b1 0 (fun _ => 0) (fun _ => 0) (fun _ => 0) (fun _ => 0) (fun _ => 0) (fun _ => 0) (fun _ _ => 0) (fun _ => 0) 0]) (N := 9) X hP hD hS fn_X2_9 rfl (Nat.le_of_ble_eq_true rfl) (Nat.le_of_ble_eq_true rfl) dX2_init_16 (fun q2 H hP hD hS => ?_)
  have hP : va_P D vwCl [[(a, .inr (2, [.ref (b1 0), .null]))], W_Bounds k b1 0 (fun _ => 0) (fun _ => 0) (fun _ => 0) (fun _ => 0) (fun _ => 0) (fun _ => 0) (fun _ _ => 0) (fun _ => 0) 0, [(q2, .inr (0, [.null, .null, .null, .null, .null, .null, .null, .null, .int 0]))]].flatten _ := hP
  have hD : va_D A [[(a, .inr (2, [.ref (b1 0), .null]))], W_Bounds k b1 0 (fun _ => 0) (fun _ => 0) (fun _ => 0) (fun _ => 0) (fun _ => 0) (fun _ => 0) (fun _ _ => 0) (fun _ => 0) 0, [(q2, .inr (0, [.null, .null, .null, .null, .null, .null, .null, .null, .int 0]))]].flatten := hD
  refine lv_dup hx hb dX2_init_19 rfl ?_
  refine kcJ (bs := [[(a, .inr (2, [.ref (b1 0), .null]))], W_Bounds k b1 0 (fun _ => 0) (fun _ => 0) (fun _ => 0) (fun _ => 0) (fun _ => 0) (fun _ => 0) (fun _ _ => 0) (fun _ => 0) 0, [(q2, .inr (0, [.null, .null, .null, .null, .null, .null, .null, .null, .int 0]))]]) (br := [[(a, .inr (2, [.ref (b1 0), .null]))], W_Bounds k b1 0 (fun _ => 0) (fun _ => 0) (fun _ => 0) (fun _ => 0) (fun _ => 0) (fun _ => 0) (fun _ _ => 0) (fun _ => 0) 0]) (bc := [[(q2, .inr (0, [.null, .null, .null, .null, .null, .null, .null, .null, .int 0]))]]) (F := (fun w => ∃ b : Nat → Nat, b 0 = q2 ∧ w = W_Bounds k b 0 (fun _ => 0) (fun _ => 0) (fun _ => 0) (fun _ => 0) (fun _ => 0) (fun _ => 0) (fun _ _ => 0) (fun _ => 0) 0)) X hAO hP hD hS (c_Bounds_init l D k t q2) mi_X2_11 hl [0, 1] [2] ⟨rfl, rfl⟩ ⟨Nat.le_of_ble_eq_true rfl, Nat.le_of_ble_eq_true rfl⟩ rfl rfl rfl rfl (Nat.le_of_ble_eq_true rfl) ⟨Nat.le_of_ble_eq_true rfl, Nat.le_of_ble_eq_true rfl⟩ dX2_init_20 (fun ws H locs hF hPn hDn hS => ?_)
  obtain ⟨b2, hb2, rfl⟩ := hF
  subst hb2
  have hP : va_P D vwCl [[(a, .inr (2, [.ref (b1 0), .null]))], W_Bounds k b1 0 (fun _ => 0) (fun _ => 0) (fun _ => 0) (fun _ => 0) (fun _ => 0) (fun _ => 0) (fun _ _ => 0) (fun _ => 0) 0, W_Bounds k b2 0 (fun _ => 0) (fun _ => 0) (fun _ => 0) (fun _ => 0) (fun _ => 0) (fun _ => 0) (fun _ _ => 0) (fun _ => 0) 0].flatten _ := hPn
  have hD : va_D A [[(a, .inr (2, [.ref (b1 0), .null]))], W_Bounds k b1 0 (fun _ => 0) (fun _ => 0) (fun _ => 0) (fun _ => 0) (fun _ => 0) (fun _ => 0) (fun _ _ => 0) (fun _ => 0) 0, W_Bounds k b2 0 (fun _ => 0) (fun _ => 0) (fun _ => 0) (fun _ => 0) (fun _ => 0) (fun _ => 0) (fun _ _ => 0) (fun _ => 0) 0].flatten := hDn
  refine kputR (v := (b2 0)) X hin hP hD hS fpF_X2_18 0 rfl rfl rfl (Nat.le_of_ble_eq_true rfl) dX2_init_23 (fun H locs hP hD hS => ?_)
  have hP : va_P D vwCl [[(a, .inr (2, [.ref (b1 0), .ref (b2 0)]))], W_Bounds k b1 0 (fun _ => 0) (fun _ => 0) (fun _ => 0) (fun _ => 0) (fun _ => 0) (fun _ => 0) (fun _ _ => 0) (fun _ => 0) 0, W_Bounds k b2 0 (fun _ => 0) (fun _ => 0) (fun _ => 0) (fun _ => 0) (fun _ => 0) (fun _ => 0) (fun _ _ => 0) (fun _ => 0) 0].flatten _ := hP
  have hD : va_D A [[(a, .inr (2, [.ref (b1 0), .ref (b2 0)]))], W_Bounds k b1 0 (fun _ => 0) (fun _ => 0) (fun _ => 0) (fun _ => 0) (fun _ => 0) (fun _ => 0) (fun _ _ => 0) (fun _ => 0) 0, W_Bounds k b2 0 (fun _ => 0) (fun _ => 0) (fun _ => 0) (fun _ => 0) (fun _ => 0) (fun _ => 0) (fun _ _ => 0) (fun _ => 0) 0].flatten := hD
  have hE : BE ([[(a, .inr (2, [.ref (b1 0), .ref (b2 0)]))], W_Bounds k b1 0 (fun _ => 0) (fun _ => 0) (fun _ => 0) (fun _ => 0) (fun _ => 0) (fun _ => 0) (fun _ _ => 0) (fun _ => 0) 0, W_Bounds k b2 0 (fun _ => 0) (fun _ => 0) (fun _ => 0) (fun _ => 0) (fun _ => 0) (fun _ => 0) (fun _ _ => 0) (fun _ => 0) 0] : List va_W).flatten (W_Decoder k (bD a b1 b2) 0 (fun _ => 0) (fun _ => 0) (fun _ => 0) (fun _ => 0) (fun _ => 0) (fun _ => 0) (fun _ _ => 0) (fun _ => 0) 0 (fun _ => 0) (fun _ => 0) (fun _ => 0) (fun _ => 0) (fun _ => 0) (fun _ => 0) (fun _ _ => 0) (fun _ => 0) 0) := by
    unfold W_Decoder
    refine BE.app (BE.of rfl) (BE.app (sh_Bounds (b := (bD a b1 b2)) _ _ _ _ _ _ _ _ _ (fun i hi => bD_1 hi)) ?_)
    rw [List.flatten_singleton]
    exact sh_Bounds (b := (bD a b1 b2)) _ _ _ _ _ _ _ _ _ (fun i hi => bD_2)
  exact kretN (F := (fun w => ∃ b : Nat → Nat, b 0 = a ∧ w = W_Decoder k b 0 (fun _ => 0) (fun _ => 0) (fun _ => 0) (fun _ => 0) (fun _ => 0) (fun _ => 0) (fun _ _ => 0) (fun _ => 0) 0 (fun _ => 0) (fun _ => 0) (fun _ => 0) (fun _ => 0) (fun _ => 0) (fun _ => 0) (fun _ _ => 0) (fun _ => 0) 0)) X (hE.1 _ _ hP) (hE.D hD) hS ⟨(bD a b1 b2), rfl, rfl⟩ dX2_init_26

theorem fn_X7_9 : FN RX7 9 5 [.null, .int 0, .null, .null, .null] := ⟨(RX5, TX5, 5), rfl, inlX5, (wm_r1 (List.mem_of_getElem? (i := 12) rfl)), (wm_r1 (List.mem_of_getElem? (i := 13) rfl)), (wm_r1 (List.mem_of_getElem? (i := 14) rfl)), rfl, tyX5, tyX5_ok, by decide +kernel⟩
theorem mi_X7_11 : MIN RX7 11 0 yX5_init cX5_init 1 := ⟨⟨by decide +kernel, (wm_r2 (List.mem_of_getElem? (i := 5) rfl)), (wm_r1 (List.mem_of_getElem? (i := 14) rfl)), (wm_r2 (List.mem_of_getElem? (i := 6) rfl))⟩, rfl, by decide +kernel, by decide +kernel, by decide +kernel⟩
theorem fpF_X7_12 : FPF RX7 12 7 0 (.object "CounterBraid$State") := ⟨(RX7, TX7, 5), rfl, by decide, inlX7, (wm_r1 (List.mem_of_getElem? (i := 15) rfl)), rfl, rfl, rfl, by decide +kernel, ⟨tyX7, tyX7_ok⟩, nmX7⟩
theorem fn_X7_16 : FN RX7 16 4 [.null, .int 0] := ⟨(RX4, TX4, 2), rfl, inlX4, (wm_r1 (List.mem_of_getElem? (i := 16) rfl)), (wm_r1 (List.mem_of_getElem? (i := 17) rfl)), (wm_r1 (List.mem_of_getElem? (i := 18) rfl)), rfl, tyX4, tyX4_ok, by decide +kernel⟩
theorem mi_X7_18 : MI RX7 18 0 yX4_init cX4_init 2 := ⟨⟨(wm_r3 (List.mem_of_getElem? (i := 12) rfl)), (wm_r3 (List.mem_of_getElem? (i := 13) rfl)), (wm_r1 (List.mem_of_getElem? (i := 18) rfl)), (wm_r3 (List.mem_of_getElem? (i := 14) rfl))⟩, rfl, by decide +kernel, by decide +kernel, by decide +kernel⟩
theorem fpF_X7_19 : FPF RX7 19 7 1 (.object "CounterBraid$History") := ⟨(RX7, TX7, 5), rfl, by decide, inlX7, (wm_r1 (List.mem_of_getElem? (i := 19) rfl)), rfl, rfl, rfl, by decide +kernel, ⟨tyX7, tyX7_ok⟩, nmX7⟩
theorem fn_X7_23 : FN RX7 23 6 [.null, .int 0, .null, .null, .int 0, .int 0, .int 0] := ⟨(RX6, TX6, 7), rfl, inlX6, (wm_r1 (List.mem_of_getElem? (i := 20) rfl)), (wm_r1 (List.mem_of_getElem? (i := 21) rfl)), (wm_r1 (List.mem_of_getElem? (i := 22) rfl)), rfl, tyX6, tyX6_ok, by decide +kernel⟩
theorem mi_X7_25 : MIN RX7 25 0 yX6_init cX6_init 1 := ⟨⟨by decide +kernel, (wm_r3 (List.mem_of_getElem? (i := 18) rfl)), (wm_r1 (List.mem_of_getElem? (i := 22) rfl)), (wm_r3 (List.mem_of_getElem? (i := 19) rfl))⟩, rfl, by decide +kernel, by decide +kernel, by decide +kernel⟩
theorem fpF_X7_26 : FPF RX7 26 7 2 (.object "CounterBraid$Text") := ⟨(RX7, TX7, 5), rfl, by decide, inlX7, (wm_r1 (List.mem_of_getElem? (i := 23) rfl)), rfl, rfl, rfl, by decide +kernel, ⟨tyX7, tyX7_ok⟩, nmX7⟩
theorem fn_X7_30 : FN RX7 30 2 [.null, .null] := ⟨(RX2, TX2, 2), rfl, inlX2, (wm_r2 (List.mem_of_getElem? (i := 0) rfl)), (wm_r2 (List.mem_of_getElem? (i := 1) rfl)), (wm_r2 (List.mem_of_getElem? (i := 2) rfl)), rfl, tyX2, tyX2_ok, by decide +kernel⟩
theorem mi_X7_32 : MIN RX7 32 0 yX2_init cX2_init 1 := ⟨⟨by decide +kernel, (wm_r4 (List.mem_of_getElem? (i := 0) rfl)), (wm_r2 (List.mem_of_getElem? (i := 2) rfl)), (wm_r4 (List.mem_of_getElem? (i := 1) rfl))⟩, rfl, by decide +kernel, by decide +kernel, by decide +kernel⟩
theorem fpF_X7_33 : FPF RX7 33 7 3 (.object "CounterBraid$Decoder") := ⟨(RX7, TX7, 5), rfl, by decide, inlX7, (wm_r2 (List.mem_of_getElem? (i := 3) rfl)), rfl, rfl, rfl, by decide +kernel, ⟨tyX7, tyX7_ok⟩, nmX7⟩
theorem fpF_X7_37 : FPF RX7 37 7 4 (.object "CounterBraid$State") := ⟨(RX7, TX7, 5), rfl, by decide, inlX7, (wm_r2 (List.mem_of_getElem? (i := 4) rfl)), rfl, rfl, rfl, by decide +kernel, ⟨tyX7, tyX7_ok⟩, nmX7⟩
abbrev rm_CB_init : Room := ({ frames := 4, cells := 164, slots := 2175, locals := 73 } : Room)
set_option maxRecDepth 100000 in
set_option maxHeartbeats 4000000 in
theorem c_CB_init (l : Launch) (D : va_G) (k : Nat → ClassId) (t : Nat → Nat) (a : Nat) : CN l D k t yX7_init cX7_init 1 rm_CB_init [.ref a] [[(a, .inr (7, [.null, .null, .null, .null, .null]))]].flatten (fun w => ∃ (b : Nat → Nat) (h : HistoryS), b 0 = a ∧ ini_h h ∧ w = W_CB k b 0 12 3 3 6 2 20 0 (fun _ => 0) (fun _ => 0) (fun _ => 0) (fun _ => 0) (fun _ => 0) (fun _ => 0) (fun _ => 0) (fun _ => 0) (fun _ => 0) h (fun _ => 0) 0 (fun _ => 0) (fun _ => 0) 0 0 0 (fun _ => 0) (fun _ => 0) (fun _ => 0) (fun _ => 0) (fun _ => 0) (fun _ => 0) (fun _ _ => 0) (fun _ => 0) 0 (fun _ => 0) (fun _ => 0) (fun _ => 0) (fun _ => 0) (fun _ => 0) (fun _ => 0) (fun _ _ => 0) (fun _ => 0) 0 12 3 3 6 2 20 0 (fun _ => 0) (fun _ => 0) (fun _ => 0) (fun _ => 0) (fun _ => 0) (fun _ => 0) (fun _ => 0) (fun _ => 0) (fun _ => 0)) 164 2175 := by
  refine kofN (by decide) rfl (Nat.le_of_ble_eq_true rfl) ?_
  intro p e s m below meth c A ls X hin hAO hP hD hS hl
  have hx := X.1.1
  have hb := X.1.2.1
  have hl : lv_has ls 1 [(0, .ref a)] := hl
  have hP : va_P D vwCl [[(a, .inr (7, [.null, .null, .null, .null, .null]))]].flatten _ := hP
  have hD : va_D A [[(a, .inr (7, [.null, .null, .null, .null, .null]))]].flatten := hD
  refine lv_aload_n hx hb dX7_init_0 rfl (lv_at hl 0 rfl) ?_
  refine kobj X hl (wm_r1 (List.mem_of_getElem? (i := 9) rfl)) (wm_r1 (List.mem_of_getElem? (i := 10) rfl)) (wm_r1 (List.mem_of_getElem? (i := 11) rfl)) dX7_init_1 (Nat.le_of_ble_eq_true rfl) (Nat.le_of_ble_eq_true rfl) ?_
  refine lv_aload_n hx hb dX7_init_4 rfl (lv_at hl 0 rfl) ?_
  refine knewB (bs := [[(a, .inr (7, [.null, .null, .null, .null, .null]))]]) (N := 5) X hP hD hS fn_X7_9 rfl (Nat.le_of_ble_eq_true rfl) (Nat.le_of_ble_eq_true rfl) dX7_init_5 (fun q1 H hP hD hS => ?_)
  have hP : va_P D vwCl [[(a, .inr (7, [.null, .null, .null, .null, .null]))], [(q1, .inr (5, [.null, .int 0, .null, .null, .null]))]].flatten _ := hP
  have hD : va_D A [[(a, .inr (7, [.null, .null, .null, .null, .null]))], [(q1, .inr (5, [.null, .int 0, .null, .null, .null]))]].flatten := hD
  refine lv_dup hx hb dX7_init_8 rfl ?_
  refine kcJ (bs := [[(a, .inr (7, [.null, .null, .null, .null, .null]))], [(q1, .inr (5, [.null, .int 0, .null, .null, .null]))]]) (br := [[(a, .inr (7, [.null, .null, .null, .null, .null]))]]) (bc := [[(q1, .inr (5, [.null, .int 0, .null, .null, .null]))]]) (F := (fun w => ∃ b : Nat → Nat, b 0 = q1 ∧ w = W_State k b 0 12 3 3 6 2 20 0 (fun _ => 0) (fun _ => 0) (fun _ => 0) (fun _ => 0) (fun _ => 0) (fun _ => 0) (fun _ => 0) (fun _ => 0) (fun _ => 0))) X hAO hP hD hS (c_State_init l D k t q1) mi_X7_11 hl [0] [1] ⟨rfl, rfl⟩ ⟨Nat.le_of_ble_eq_true rfl, Nat.le_of_ble_eq_true rfl⟩ rfl rfl rfl rfl (Nat.le_of_ble_eq_true rfl) ⟨Nat.le_of_ble_eq_true rfl, Nat.le_of_ble_eq_true rfl⟩ dX7_init_9 (fun ws H locs hF hPn hDn hS => ?_)
  obtain ⟨b1, hb1, rfl⟩ := hF
  subst hb1
  have hP : va_P D vwCl [[(a, .inr (7, [.null, .null, .null, .null, .null]))], W_State k b1 0 12 3 3 6 2 20 0 (fun _ => 0) (fun _ => 0) (fun _ => 0) (fun _ => 0) (fun _ => 0) (fun _ => 0) (fun _ => 0) (fun _ => 0) (fun _ => 0)].flatten _ := hPn
  have hD : va_D A [[(a, .inr (7, [.null, .null, .null, .null, .null]))], W_State k b1 0 12 3 3 6 2 20 0 (fun _ => 0) (fun _ => 0) (fun _ => 0) (fun _ => 0) (fun _ => 0) (fun _ => 0) (fun _ => 0) (fun _ => 0) (fun _ => 0)].flatten := hDn
  refine kputR (v := (b1 0)) X hin hP hD hS fpF_X7_12 0 rfl rfl rfl (Nat.le_of_ble_eq_true rfl) dX7_init_12 (fun H locs hP hD hS => ?_)
  have hP : va_P D vwCl [[(a, .inr (7, [.ref (b1 0), .null, .null, .null, .null]))], W_State k b1 0 12 3 3 6 2 20 0 (fun _ => 0) (fun _ => 0) (fun _ => 0) (fun _ => 0) (fun _ => 0) (fun _ => 0) (fun _ => 0) (fun _ => 0) (fun _ => 0)].flatten _ := hP
  have hD : va_D A [[(a, .inr (7, [.ref (b1 0), .null, .null, .null, .null]))], W_State k b1 0 12 3 3 6 2 20 0 (fun _ => 0) (fun _ => 0) (fun _ => 0) (fun _ => 0) (fun _ => 0) (fun _ => 0) (fun _ => 0) (fun _ => 0) (fun _ => 0)].flatten := hD
  refine lv_aload_n hx hb dX7_init_15 rfl (lv_at hl 0 rfl) ?_
  refine knewB (bs := [[(a, .inr (7, [.ref (b1 0), .null, .null, .null, .null]))], W_State k b1 0 12 3 3 6 2 20 0 (fun _ => 0) (fun _ => 0) (fun _ => 0) (fun _ => 0) (fun _ => 0) (fun _ => 0) (fun _ => 0) (fun _ => 0) (fun _ => 0)]) (N := 2) X hP hD hS fn_X7_16 rfl (Nat.le_of_ble_eq_true rfl) (Nat.le_of_ble_eq_true rfl) dX7_init_16 (fun q2 H hP hD hS => ?_)
  have hP : va_P D vwCl [[(a, .inr (7, [.ref (b1 0), .null, .null, .null, .null]))], W_State k b1 0 12 3 3 6 2 20 0 (fun _ => 0) (fun _ => 0) (fun _ => 0) (fun _ => 0) (fun _ => 0) (fun _ => 0) (fun _ => 0) (fun _ => 0) (fun _ => 0), [(q2, .inr (4, [.null, .int 0]))]].flatten _ := hP
  have hD : va_D A [[(a, .inr (7, [.ref (b1 0), .null, .null, .null, .null]))], W_State k b1 0 12 3 3 6 2 20 0 (fun _ => 0) (fun _ => 0) (fun _ => 0) (fun _ => 0) (fun _ => 0) (fun _ => 0) (fun _ => 0) (fun _ => 0) (fun _ => 0), [(q2, .inr (4, [.null, .int 0]))]].flatten := hD
  refine lv_dup hx hb dX7_init_19 rfl ?_
  refine kcI (bs := [[(a, .inr (7, [.ref (b1 0), .null, .null, .null, .null]))], W_State k b1 0 12 3 3 6 2 20 0 (fun _ => 0) (fun _ => 0) (fun _ => 0) (fun _ => 0) (fun _ => 0) (fun _ => 0) (fun _ => 0) (fun _ => 0) (fun _ => 0), [(q2, .inr (4, [.null, .int 0]))]]) (br := [[(a, .inr (7, [.ref (b1 0), .null, .null, .null, .null]))], W_State k b1 0 12 3 3 6 2 20 0 (fun _ => 0) (fun _ => 0) (fun _ => 0) (fun _ => 0) (fun _ => 0) (fun _ => 0) (fun _ => 0) (fun _ => 0) (fun _ => 0)]) (bc := [[(q2, .inr (4, [.null, .int 0]))]]) (F := (ini_History k q2)) X hAO hP hD hS (c_History_init l D k t q2) mi_X7_18 hl [0, 1] [2] ⟨rfl, rfl⟩ ⟨Nat.le_of_ble_eq_true rfl, Nat.le_of_ble_eq_true rfl⟩ rfl rfl rfl rfl (Nat.le_of_ble_eq_true rfl) ⟨Nat.le_of_ble_eq_true rfl, Nat.le_of_ble_eq_true rfl⟩ dX7_init_20 (fun ws H locs hF hPn hDn hS => ?_)
  obtain ⟨b2, h, hb2, hh, rfl⟩ := hF
  subst hb2
  have hP : va_P D vwCl [[(a, .inr (7, [.ref (b1 0), .null, .null, .null, .null]))], W_State k b1 0 12 3 3 6 2 20 0 (fun _ => 0) (fun _ => 0) (fun _ => 0) (fun _ => 0) (fun _ => 0) (fun _ => 0) (fun _ => 0) (fun _ => 0) (fun _ => 0), W_History k b2 0 h].flatten _ := hPn
  have hD : va_D A [[(a, .inr (7, [.ref (b1 0), .null, .null, .null, .null]))], W_State k b1 0 12 3 3 6 2 20 0 (fun _ => 0) (fun _ => 0) (fun _ => 0) (fun _ => 0) (fun _ => 0) (fun _ => 0) (fun _ => 0) (fun _ => 0) (fun _ => 0), W_History k b2 0 h].flatten := hDn
  refine kputR (v := (b2 0)) X hin hP hD hS fpF_X7_19 0 rfl rfl rfl (Nat.le_of_ble_eq_true rfl) dX7_init_23 (fun H locs hP hD hS => ?_)
  have hP : va_P D vwCl [[(a, .inr (7, [.ref (b1 0), .ref (b2 0), .null, .null, .null]))], W_State k b1 0 12 3 3 6 2 20 0 (fun _ => 0) (fun _ => 0) (fun _ => 0) (fun _ => 0) (fun _ => 0) (fun _ => 0) (fun _ => 0) (fun _ => 0) (fun _ => 0), W_History k b2 0 h].flatten _ := hP
  have hD : va_D A [[(a, .inr (7, [.ref (b1 0), .ref (b2 0), .null, .null, .null]))], W_State k b1 0 12 3 3 6 2 20 0 (fun _ => 0) (fun _ => 0) (fun _ => 0) (fun _ => 0) (fun _ => 0) (fun _ => 0) (fun _ => 0) (fun _ => 0) (fun _ => 0), W_History k b2 0 h].flatten := hD
  refine lv_aload_n hx hb dX7_init_26 rfl (lv_at hl 0 rfl) ?_
  refine knewB (bs := [[(a, .inr (7, [.ref (b1 0), .ref (b2 0), .null, .null, .null]))], W_State k b1 0 12 3 3 6 2 20 0 (fun _ => 0) (fun _ => 0) (fun _ => 0) (fun _ => 0) (fun _ => 0) (fun _ => 0) (fun _ => 0) (fun _ => 0) (fun _ => 0), W_History k b2 0 h]) (N := 7) X hP hD hS fn_X7_23 rfl (Nat.le_of_ble_eq_true rfl) (Nat.le_of_ble_eq_true rfl) dX7_init_27 (fun q3 H hP hD hS => ?_)
  have hP : va_P D vwCl [[(a, .inr (7, [.ref (b1 0), .ref (b2 0), .null, .null, .null]))], W_State k b1 0 12 3 3 6 2 20 0 (fun _ => 0) (fun _ => 0) (fun _ => 0) (fun _ => 0) (fun _ => 0) (fun _ => 0) (fun _ => 0) (fun _ => 0) (fun _ => 0), W_History k b2 0 h, [(q3, .inr (6, [.null, .int 0, .null, .null, .int 0, .int 0, .int 0]))]].flatten _ := hP
  have hD : va_D A [[(a, .inr (7, [.ref (b1 0), .ref (b2 0), .null, .null, .null]))], W_State k b1 0 12 3 3 6 2 20 0 (fun _ => 0) (fun _ => 0) (fun _ => 0) (fun _ => 0) (fun _ => 0) (fun _ => 0) (fun _ => 0) (fun _ => 0) (fun _ => 0), W_History k b2 0 h, [(q3, .inr (6, [.null, .int 0, .null, .null, .int 0, .int 0, .int 0]))]].flatten := hD
  refine lv_dup hx hb dX7_init_30 rfl ?_
  refine kcJ (bs := [[(a, .inr (7, [.ref (b1 0), .ref (b2 0), .null, .null, .null]))], W_State k b1 0 12 3 3 6 2 20 0 (fun _ => 0) (fun _ => 0) (fun _ => 0) (fun _ => 0) (fun _ => 0) (fun _ => 0) (fun _ => 0) (fun _ => 0) (fun _ => 0), W_History k b2 0 h, [(q3, .inr (6, [.null, .int 0, .null, .null, .int 0, .int 0, .int 0]))]]) (br := [[(a, .inr (7, [.ref (b1 0), .ref (b2 0), .null, .null, .null]))], W_State k b1 0 12 3 3 6 2 20 0 (fun _ => 0) (fun _ => 0) (fun _ => 0) (fun _ => 0) (fun _ => 0) (fun _ => 0) (fun _ => 0) (fun _ => 0) (fun _ => 0), W_History k b2 0 h]) (bc := [[(q3, .inr (6, [.null, .int 0, .null, .null, .int 0, .int 0, .int 0]))]]) (F := (fun w => ∃ b : Nat → Nat, b 0 = q3 ∧ w = W_Text k b 0 (fun _ => 0) 0 (fun _ => 0) (fun _ => 0) 0 0 0)) X hAO hP hD hS (c_Text_init l D k t q3) mi_X7_25 hl [0, 1, 2] [3] ⟨rfl, rfl⟩ ⟨Nat.le_of_ble_eq_true rfl, Nat.le_of_ble_eq_true rfl⟩ rfl rfl rfl rfl (Nat.le_of_ble_eq_true rfl) ⟨Nat.le_of_ble_eq_true rfl, Nat.le_of_ble_eq_true rfl⟩ dX7_init_31 (fun ws H locs hF hPn hDn hS => ?_)
  obtain ⟨b3, hb3, rfl⟩ := hF
  subst hb3
  have hP : va_P D vwCl [[(a, .inr (7, [.ref (b1 0), .ref (b2 0), .null, .null, .null]))], W_State k b1 0 12 3 3 6 2 20 0 (fun _ => 0) (fun _ => 0) (fun _ => 0) (fun _ => 0) (fun _ => 0) (fun _ => 0) (fun _ => 0) (fun _ => 0) (fun _ => 0), W_History k b2 0 h, W_Text k b3 0 (fun _ => 0) 0 (fun _ => 0) (fun _ => 0) 0 0 0].flatten _ := hPn
  have hD : va_D A [[(a, .inr (7, [.ref (b1 0), .ref (b2 0), .null, .null, .null]))], W_State k b1 0 12 3 3 6 2 20 0 (fun _ => 0) (fun _ => 0) (fun _ => 0) (fun _ => 0) (fun _ => 0) (fun _ => 0) (fun _ => 0) (fun _ => 0) (fun _ => 0), W_History k b2 0 h, W_Text k b3 0 (fun _ => 0) 0 (fun _ => 0) (fun _ => 0) 0 0 0].flatten := hDn
  refine kputR (v := (b3 0)) X hin hP hD hS fpF_X7_26 0 rfl rfl rfl (Nat.le_of_ble_eq_true rfl) dX7_init_34 (fun H locs hP hD hS => ?_)
  have hP : va_P D vwCl [[(a, .inr (7, [.ref (b1 0), .ref (b2 0), .ref (b3 0), .null, .null]))], W_State k b1 0 12 3 3 6 2 20 0 (fun _ => 0) (fun _ => 0) (fun _ => 0) (fun _ => 0) (fun _ => 0) (fun _ => 0) (fun _ => 0) (fun _ => 0) (fun _ => 0), W_History k b2 0 h, W_Text k b3 0 (fun _ => 0) 0 (fun _ => 0) (fun _ => 0) 0 0 0].flatten _ := hP
  have hD : va_D A [[(a, .inr (7, [.ref (b1 0), .ref (b2 0), .ref (b3 0), .null, .null]))], W_State k b1 0 12 3 3 6 2 20 0 (fun _ => 0) (fun _ => 0) (fun _ => 0) (fun _ => 0) (fun _ => 0) (fun _ => 0) (fun _ => 0) (fun _ => 0) (fun _ => 0), W_History k b2 0 h, W_Text k b3 0 (fun _ => 0) 0 (fun _ => 0) (fun _ => 0) 0 0 0].flatten := hD
  refine lv_aload_n hx hb dX7_init_37 rfl (lv_at hl 0 rfl) ?_
  refine knewB (bs := [[(a, .inr (7, [.ref (b1 0), .ref (b2 0), .ref (b3 0), .null, .null]))], W_State k b1 0 12 3 3 6 2 20 0 (fun _ => 0) (fun _ => 0) (fun _ => 0) (fun _ => 0) (fun _ => 0) (fun _ => 0) (fun _ => 0) (fun _ => 0) (fun _ => 0), W_History k b2 0 h, W_Text k b3 0 (fun _ => 0) 0 (fun _ => 0) (fun _ => 0) 0 0 0]) (N := 2) X hP hD hS fn_X7_30 rfl (Nat.le_of_ble_eq_true rfl) (Nat.le_of_ble_eq_true rfl) dX7_init_38 (fun q4 H hP hD hS => ?_)
  have hP : va_P D vwCl [[(a, .inr (7, [.ref (b1 0), .ref (b2 0), .ref (b3 0), .null, .null]))], W_State k b1 0 12 3 3 6 2 20 0 (fun _ => 0) (fun _ => 0) (fun _ => 0) (fun _ => 0) (fun _ => 0) (fun _ => 0) (fun _ => 0) (fun _ => 0) (fun _ => 0), W_History k b2 0 h, W_Text k b3 0 (fun _ => 0) 0 (fun _ => 0) (fun _ => 0) 0 0 0, [(q4, .inr (2, [.null, .null]))]].flatten _ := hP
  have hD : va_D A [[(a, .inr (7, [.ref (b1 0), .ref (b2 0), .ref (b3 0), .null, .null]))], W_State k b1 0 12 3 3 6 2 20 0 (fun _ => 0) (fun _ => 0) (fun _ => 0) (fun _ => 0) (fun _ => 0) (fun _ => 0) (fun _ => 0) (fun _ => 0) (fun _ => 0), W_History k b2 0 h, W_Text k b3 0 (fun _ => 0) 0 (fun _ => 0) (fun _ => 0) 0 0 0, [(q4, .inr (2, [.null, .null]))]].flatten := hD
  refine lv_dup hx hb dX7_init_41 rfl ?_
  refine kcJ (bs := [[(a, .inr (7, [.ref (b1 0), .ref (b2 0), .ref (b3 0), .null, .null]))], W_State k b1 0 12 3 3 6 2 20 0 (fun _ => 0) (fun _ => 0) (fun _ => 0) (fun _ => 0) (fun _ => 0) (fun _ => 0) (fun _ => 0) (fun _ => 0) (fun _ => 0), W_History k b2 0 h, W_Text k b3 0 (fun _ => 0) 0 (fun _ => 0) (fun _ => 0) 0 0 0, [(q4, .inr (2, [.null, .null]))]]) (br := [[(a, .inr (7, [.ref (b1 0), .ref (b2 0), .ref (b3 0), .null, .null]))], W_State k b1 0 12 3 3 6 2 20 0 (fun _ => 0) (fun _ => 0) (fun _ => 0) (fun _ => 0) (fun _ => 0) (fun _ => 0) (fun _ => 0) (fun _ => 0) (fun _ => 0), W_History k b2 0 h, W_Text k b3 0 (fun _ => 0) 0 (fun _ => 0) (fun _ => 0) 0 0 0]) (bc := [[(q4, .inr (2, [.null, .null]))]]) (F := (fun w => ∃ b : Nat → Nat, b 0 = q4 ∧ w = W_Decoder k b 0 (fun _ => 0) (fun _ => 0) (fun _ => 0) (fun _ => 0) (fun _ => 0) (fun _ => 0) (fun _ _ => 0) (fun _ => 0) 0 (fun _ => 0) (fun _ => 0) (fun _ => 0) (fun _ => 0) (fun _ => 0) (fun _ => 0) (fun _ _ => 0) (fun _ => 0) 0)) X hAO hP hD hS (c_Decoder_init l D k t q4) mi_X7_32 hl [0, 1, 2, 3] [4] ⟨rfl, rfl⟩ ⟨Nat.le_of_ble_eq_true rfl, Nat.le_of_ble_eq_true rfl⟩ rfl rfl rfl rfl (Nat.le_of_ble_eq_true rfl) ⟨Nat.le_of_ble_eq_true rfl, Nat.le_of_ble_eq_true rfl⟩ dX7_init_42 (fun ws H locs hF hPn hDn hS => ?_)
  obtain ⟨b4, hb4, rfl⟩ := hF
  subst hb4
  have hP : va_P D vwCl [[(a, .inr (7, [.ref (b1 0), .ref (b2 0), .ref (b3 0), .null, .null]))], W_State k b1 0 12 3 3 6 2 20 0 (fun _ => 0) (fun _ => 0) (fun _ => 0) (fun _ => 0) (fun _ => 0) (fun _ => 0) (fun _ => 0) (fun _ => 0) (fun _ => 0), W_History k b2 0 h, W_Text k b3 0 (fun _ => 0) 0 (fun _ => 0) (fun _ => 0) 0 0 0, W_Decoder k b4 0 (fun _ => 0) (fun _ => 0) (fun _ => 0) (fun _ => 0) (fun _ => 0) (fun _ => 0) (fun _ _ => 0) (fun _ => 0) 0 (fun _ => 0) (fun _ => 0) (fun _ => 0) (fun _ => 0) (fun _ => 0) (fun _ => 0) (fun _ _ => 0) (fun _ => 0) 0].flatten _ := hPn
  have hD : va_D A [[(a, .inr (7, [.ref (b1 0), .ref (b2 0), .ref (b3 0), .null, .null]))], W_State k b1 0 12 3 3 6 2 20 0 (fun _ => 0) (fun _ => 0) (fun _ => 0) (fun _ => 0) (fun _ => 0) (fun _ => 0) (fun _ => 0) (fun _ => 0) (fun _ => 0), W_History k b2 0 h, W_Text k b3 0 (fun _ => 0) 0 (fun _ => 0) (fun _ => 0) 0 0 0, W_Decoder k b4 0 (fun _ => 0) (fun _ => 0) (fun _ => 0) (fun _ => 0) (fun _ => 0) (fun _ => 0) (fun _ _ => 0) (fun _ => 0) 0 (fun _ => 0) (fun _ => 0) (fun _ => 0) (fun _ => 0) (fun _ => 0) (fun _ => 0) (fun _ _ => 0) (fun _ => 0) 0].flatten := hDn
  refine kputR (v := (b4 0)) X hin hP hD hS fpF_X7_33 0 rfl rfl rfl (Nat.le_of_ble_eq_true rfl) dX7_init_45 (fun H locs hP hD hS => ?_)
  have hP : va_P D vwCl [[(a, .inr (7, [.ref (b1 0), .ref (b2 0), .ref (b3 0), .ref (b4 0), .null]))], W_State k b1 0 12 3 3 6 2 20 0 (fun _ => 0) (fun _ => 0) (fun _ => 0) (fun _ => 0) (fun _ => 0) (fun _ => 0) (fun _ => 0) (fun _ => 0) (fun _ => 0), W_History k b2 0 h, W_Text k b3 0 (fun _ => 0) 0 (fun _ => 0) (fun _ => 0) 0 0 0, W_Decoder k b4 0 (fun _ => 0) (fun _ => 0) (fun _ => 0) (fun _ => 0) (fun _ => 0) (fun _ => 0) (fun _ _ => 0) (fun _ => 0) 0 (fun _ => 0) (fun _ => 0) (fun _ => 0) (fun _ => 0) (fun _ => 0) (fun _ => 0) (fun _ _ => 0) (fun _ => 0) 0].flatten _ := hP
  have hD : va_D A [[(a, .inr (7, [.ref (b1 0), .ref (b2 0), .ref (b3 0), .ref (b4 0), .null]))], W_State k b1 0 12 3 3 6 2 20 0 (fun _ => 0) (fun _ => 0) (fun _ => 0) (fun _ => 0) (fun _ => 0) (fun _ => 0) (fun _ => 0) (fun _ => 0) (fun _ => 0), W_History k b2 0 h, W_Text k b3 0 (fun _ => 0) 0 (fun _ => 0) (fun _ => 0) 0 0 0, W_Decoder k b4 0 (fun _ => 0) (fun _ => 0) (fun _ => 0) (fun _ => 0) (fun _ => 0) (fun _ => 0) (fun _ _ => 0) (fun _ => 0) 0 (fun _ => 0) (fun _ => 0) (fun _ => 0) (fun _ => 0) (fun _ => 0) (fun _ => 0) (fun _ _ => 0) (fun _ => 0) 0].flatten := hD
  refine lv_aload_n hx hb dX7_init_48 rfl (lv_at hl 0 rfl) ?_
  refine knewB (bs := [[(a, .inr (7, [.ref (b1 0), .ref (b2 0), .ref (b3 0), .ref (b4 0), .null]))], W_State k b1 0 12 3 3 6 2 20 0 (fun _ => 0) (fun _ => 0) (fun _ => 0) (fun _ => 0) (fun _ => 0) (fun _ => 0) (fun _ => 0) (fun _ => 0) (fun _ => 0), W_History k b2 0 h, W_Text k b3 0 (fun _ => 0) 0 (fun _ => 0) (fun _ => 0) 0 0 0, W_Decoder k b4 0 (fun _ => 0) (fun _ => 0) (fun _ => 0) (fun _ => 0) (fun _ => 0) (fun _ => 0) (fun _ _ => 0) (fun _ => 0) 0 (fun _ => 0) (fun _ => 0) (fun _ => 0) (fun _ => 0) (fun _ => 0) (fun _ => 0) (fun _ _ => 0) (fun _ => 0) 0]) (N := 5) X hP hD hS fn_X7_9 rfl (Nat.le_of_ble_eq_true rfl) (Nat.le_of_ble_eq_true rfl) dX7_init_49 (fun q5 H hP hD hS => ?_)
  have hP : va_P D vwCl [[(a, .inr (7, [.ref (b1 0), .ref (b2 0), .ref (b3 0), .ref (b4 0), .null]))], W_State k b1 0 12 3 3 6 2 20 0 (fun _ => 0) (fun _ => 0) (fun _ => 0) (fun _ => 0) (fun _ => 0) (fun _ => 0) (fun _ => 0) (fun _ => 0) (fun _ => 0), W_History k b2 0 h, W_Text k b3 0 (fun _ => 0) 0 (fun _ => 0) (fun _ => 0) 0 0 0, W_Decoder k b4 0 (fun _ => 0) (fun _ => 0) (fun _ => 0) (fun _ => 0) (fun _ => 0) (fun _ => 0) (fun _ _ => 0) (fun _ => 0) 0 (fun _ => 0) (fun _ => 0) (fun _ => 0) (fun _ => 0) (fun _ => 0) (fun _ => 0) (fun _ _ => 0) (fun _ => 0) 0, [(q5, .inr (5, [.null, .int 0, .null, .null, .null]))]].flatten _ := hP
  have hD : va_D A [[(a, .inr (7, [.ref (b1 0), .ref (b2 0), .ref (b3 0), .ref (b4 0), .null]))], W_State k b1 0 12 3 3 6 2 20 0 (fun _ => 0) (fun _ => 0) (fun _ => 0) (fun _ => 0) (fun _ => 0) (fun _ => 0) (fun _ => 0) (fun _ => 0) (fun _ => 0), W_History k b2 0 h, W_Text k b3 0 (fun _ => 0) 0 (fun _ => 0) (fun _ => 0) 0 0 0, W_Decoder k b4 0 (fun _ => 0) (fun _ => 0) (fun _ => 0) (fun _ => 0) (fun _ => 0) (fun _ => 0) (fun _ _ => 0) (fun _ => 0) 0 (fun _ => 0) (fun _ => 0) (fun _ => 0) (fun _ => 0) (fun _ => 0) (fun _ => 0) (fun _ _ => 0) (fun _ => 0) 0, [(q5, .inr (5, [.null, .int 0, .null, .null, .null]))]].flatten := hD
  refine lv_dup hx hb dX7_init_52 rfl ?_
  refine kcJ (bs := [[(a, .inr (7, [.ref (b1 0), .ref (b2 0), .ref (b3 0), .ref (b4 0), .null]))], W_State k b1 0 12 3 3 6 2 20 0 (fun _ => 0) (fun _ => 0) (fun _ => 0) (fun _ => 0) (fun _ => 0) (fun _ => 0) (fun _ => 0) (fun _ => 0) (fun _ => 0), W_History k b2 0 h, W_Text k b3 0 (fun _ => 0) 0 (fun _ => 0) (fun _ => 0) 0 0 0, W_Decoder k b4 0 (fun _ => 0) (fun _ => 0) (fun _ => 0) (fun _ => 0) (fun _ => 0) (fun _ => 0) (fun _ _ => 0) (fun _ => 0) 0 (fun _ => 0) (fun _ => 0) (fun _ => 0) (fun _ => 0) (fun _ => 0) (fun _ => 0) (fun _ _ => 0) (fun _ => 0) 0, [(q5, .inr (5, [.null, .int 0, .null, .null, .null]))]]) (br := [[(a, .inr (7, [.ref (b1 0), .ref (b2 0), .ref (b3 0), .ref (b4 0), .null]))], W_State k b1 0 12 3 3 6 2 20 0 (fun _ => 0) (fun _ => 0) (fun _ => 0) (fun _ => 0) (fun _ => 0) (fun _ => 0) (fun _ => 0) (fun _ => 0) (fun _ => 0), W_History k b2 0 h, W_Text k b3 0 (fun _ => 0) 0 (fun _ => 0) (fun _ => 0) 0 0 0, W_Decoder k b4 0 (fun _ => 0) (fun _ => 0) (fun _ => 0) (fun _ => 0) (fun _ => 0) (fun _ => 0) (fun _ _ => 0) (fun _ => 0) 0 (fun _ => 0) (fun _ => 0) (fun _ => 0) (fun _ => 0) (fun _ => 0) (fun _ => 0) (fun _ _ => 0) (fun _ => 0) 0]) (bc := [[(q5, .inr (5, [.null, .int 0, .null, .null, .null]))]]) (F := (fun w => ∃ b : Nat → Nat, b 0 = q5 ∧ w = W_State k b 0 12 3 3 6 2 20 0 (fun _ => 0) (fun _ => 0) (fun _ => 0) (fun _ => 0) (fun _ => 0) (fun _ => 0) (fun _ => 0) (fun _ => 0) (fun _ => 0))) X hAO hP hD hS (c_State_init l D k t q5) mi_X7_11 hl [0, 1, 2, 3, 4] [5] ⟨rfl, rfl⟩ ⟨Nat.le_of_ble_eq_true rfl, Nat.le_of_ble_eq_true rfl⟩ rfl rfl rfl rfl (Nat.le_of_ble_eq_true rfl) ⟨Nat.le_of_ble_eq_true rfl, Nat.le_of_ble_eq_true rfl⟩ dX7_init_53 (fun ws H locs hF hPn hDn hS => ?_)
  obtain ⟨b5, hb5, rfl⟩ := hF
  subst hb5
  have hP : va_P D vwCl [[(a, .inr (7, [.ref (b1 0), .ref (b2 0), .ref (b3 0), .ref (b4 0), .null]))], W_State k b1 0 12 3 3 6 2 20 0 (fun _ => 0) (fun _ => 0) (fun _ => 0) (fun _ => 0) (fun _ => 0) (fun _ => 0) (fun _ => 0) (fun _ => 0) (fun _ => 0), W_History k b2 0 h, W_Text k b3 0 (fun _ => 0) 0 (fun _ => 0) (fun _ => 0) 0 0 0, W_Decoder k b4 0 (fun _ => 0) (fun _ => 0) (fun _ => 0) (fun _ => 0) (fun _ => 0) (fun _ => 0) (fun _ _ => 0) (fun _ => 0) 0 (fun _ => 0) (fun _ => 0) (fun _ => 0) (fun _ => 0) (fun _ => 0) (fun _ => 0) (fun _ _ => 0) (fun _ => 0) 0, W_State k b5 0 12 3 3 6 2 20 0 (fun _ => 0) (fun _ => 0) (fun _ => 0) (fun _ => 0) (fun _ => 0) (fun _ => 0) (fun _ => 0) (fun _ => 0) (fun _ => 0)].flatten _ := hPn
  have hD : va_D A [[(a, .inr (7, [.ref (b1 0), .ref (b2 0), .ref (b3 0), .ref (b4 0), .null]))], W_State k b1 0 12 3 3 6 2 20 0 (fun _ => 0) (fun _ => 0) (fun _ => 0) (fun _ => 0) (fun _ => 0) (fun _ => 0) (fun _ => 0) (fun _ => 0) (fun _ => 0), W_History k b2 0 h, W_Text k b3 0 (fun _ => 0) 0 (fun _ => 0) (fun _ => 0) 0 0 0, W_Decoder k b4 0 (fun _ => 0) (fun _ => 0) (fun _ => 0) (fun _ => 0) (fun _ => 0) (fun _ => 0) (fun _ _ => 0) (fun _ => 0) 0 (fun _ => 0) (fun _ => 0) (fun _ => 0) (fun _ => 0) (fun _ => 0) (fun _ => 0) (fun _ _ => 0) (fun _ => 0) 0, W_State k b5 0 12 3 3 6 2 20 0 (fun _ => 0) (fun _ => 0) (fun _ => 0) (fun _ => 0) (fun _ => 0) (fun _ => 0) (fun _ => 0) (fun _ => 0) (fun _ => 0)].flatten := hDn
  refine kputR (v := (b5 0)) X hin hP hD hS fpF_X7_37 0 rfl rfl rfl (Nat.le_of_ble_eq_true rfl) dX7_init_56 (fun H locs hP hD hS => ?_)
  have hP : va_P D vwCl [[(a, .inr (7, [.ref (b1 0), .ref (b2 0), .ref (b3 0), .ref (b4 0), .ref (b5 0)]))], W_State k b1 0 12 3 3 6 2 20 0 (fun _ => 0) (fun _ => 0) (fun _ => 0) (fun _ => 0) (fun _ => 0) (fun _ => 0) (fun _ => 0) (fun _ => 0) (fun _ => 0), W_History k b2 0 h, W_Text k b3 0 (fun _ => 0) 0 (fun _ => 0) (fun _ => 0) 0 0 0, W_Decoder k b4 0 (fun _ => 0) (fun _ => 0) (fun _ => 0) (fun _ => 0) (fun _ => 0) (fun _ => 0) (fun _ _ => 0) (fun _ => 0) 0 (fun _ => 0) (fun _ => 0) (fun _ => 0) (fun _ => 0) (fun _ => 0) (fun _ => 0) (fun _ _ => 0) (fun _ => 0) 0, W_State k b5 0 12 3 3 6 2 20 0 (fun _ => 0) (fun _ => 0) (fun _ => 0) (fun _ => 0) (fun _ => 0) (fun _ => 0) (fun _ => 0) (fun _ => 0) (fun _ => 0)].flatten _ := hP
  have hD : va_D A [[(a, .inr (7, [.ref (b1 0), .ref (b2 0), .ref (b3 0), .ref (b4 0), .ref (b5 0)]))], W_State k b1 0 12 3 3 6 2 20 0 (fun _ => 0) (fun _ => 0) (fun _ => 0) (fun _ => 0) (fun _ => 0) (fun _ => 0) (fun _ => 0) (fun _ => 0) (fun _ => 0), W_History k b2 0 h, W_Text k b3 0 (fun _ => 0) 0 (fun _ => 0) (fun _ => 0) 0 0 0, W_Decoder k b4 0 (fun _ => 0) (fun _ => 0) (fun _ => 0) (fun _ => 0) (fun _ => 0) (fun _ => 0) (fun _ _ => 0) (fun _ => 0) 0 (fun _ => 0) (fun _ => 0) (fun _ => 0) (fun _ => 0) (fun _ => 0) (fun _ => 0) (fun _ _ => 0) (fun _ => 0) 0, W_State k b5 0 12 3 3 6 2 20 0 (fun _ => 0) (fun _ => 0) (fun _ => 0) (fun _ => 0) (fun _ => 0) (fun _ => 0) (fun _ => 0) (fun _ => 0) (fun _ => 0)].flatten := hD
  have hE : BE ([[(a, .inr (7, [.ref (b1 0), .ref (b2 0), .ref (b3 0), .ref (b4 0), .ref (b5 0)]))], W_State k b1 0 12 3 3 6 2 20 0 (fun _ => 0) (fun _ => 0) (fun _ => 0) (fun _ => 0) (fun _ => 0) (fun _ => 0) (fun _ => 0) (fun _ => 0) (fun _ => 0), W_History k b2 0 h, W_Text k b3 0 (fun _ => 0) 0 (fun _ => 0) (fun _ => 0) 0 0 0, W_Decoder k b4 0 (fun _ => 0) (fun _ => 0) (fun _ => 0) (fun _ => 0) (fun _ => 0) (fun _ => 0) (fun _ _ => 0) (fun _ => 0) 0 (fun _ => 0) (fun _ => 0) (fun _ => 0) (fun _ => 0) (fun _ => 0) (fun _ => 0) (fun _ _ => 0) (fun _ => 0) 0, W_State k b5 0 12 3 3 6 2 20 0 (fun _ => 0) (fun _ => 0) (fun _ => 0) (fun _ => 0) (fun _ => 0) (fun _ => 0) (fun _ => 0) (fun _ => 0) (fun _ => 0)] : List va_W).flatten (W_CB k (bC a b1 b2 b3 b4 b5) 0 12 3 3 6 2 20 0 (fun _ => 0) (fun _ => 0) (fun _ => 0) (fun _ => 0) (fun _ => 0) (fun _ => 0) (fun _ => 0) (fun _ => 0) (fun _ => 0) h (fun _ => 0) 0 (fun _ => 0) (fun _ => 0) 0 0 0 (fun _ => 0) (fun _ => 0) (fun _ => 0) (fun _ => 0) (fun _ => 0) (fun _ => 0) (fun _ _ => 0) (fun _ => 0) 0 (fun _ => 0) (fun _ => 0) (fun _ => 0) (fun _ => 0) (fun _ => 0) (fun _ => 0) (fun _ _ => 0) (fun _ => 0) 0 12 3 3 6 2 20 0 (fun _ => 0) (fun _ => 0) (fun _ => 0) (fun _ => 0) (fun _ => 0) (fun _ => 0) (fun _ => 0) (fun _ => 0) (fun _ => 0)) := by
    unfold W_CB
    refine BE.app (BE.of rfl) (BE.app (BE.of (sh_State (b := (bC a b1 b2 b3 b4 b5)) _ _ _ _ _ _ _ _ _ _ _ _ _ _ _ _ (fun i hi => bC_1 hi))) (BE.app (BE.of (sh_History (b := (bC a b1 b2 b3 b4 b5)) rfl rfl)) (BE.app (BE.of (sh_Text (b := (bC a b1 b2 b3 b4 b5)) _ _ _ _ _ _ _ (fun i hi => bC_3 hi))) (BE.app (sh_Decoder (b := (bC a b1 b2 b3 b4 b5)) _ _ _ _ _ _ _ _ _ _ _ _ _ _ _ _ _ _ (fun i hi => bC_4 hi)) ?_))))
    rw [List.flatten_singleton]
    exact BE.of (sh_State (b := (bC a b1 b2 b3 b4 b5)) _ _ _ _ _ _ _ _ _ _ _ _ _ _ _ _ (fun i hi => bC_5))
  exact kretN (F := (fun w => ∃ (b : Nat → Nat) (h : HistoryS), b 0 = a ∧ ini_h h ∧ w = W_CB k b 0 12 3 3 6 2 20 0 (fun _ => 0) (fun _ => 0) (fun _ => 0) (fun _ => 0) (fun _ => 0) (fun _ => 0) (fun _ => 0) (fun _ => 0) (fun _ => 0) h (fun _ => 0) 0 (fun _ => 0) (fun _ => 0) 0 0 0 (fun _ => 0) (fun _ => 0) (fun _ => 0) (fun _ => 0) (fun _ => 0) (fun _ => 0) (fun _ _ => 0) (fun _ => 0) 0 (fun _ => 0) (fun _ => 0) (fun _ => 0) (fun _ => 0) (fun _ => 0) (fun _ => 0) (fun _ _ => 0) (fun _ => 0) 0 12 3 3 6 2 20 0 (fun _ => 0) (fun _ => 0) (fun _ => 0) (fun _ => 0) (fun _ => 0) (fun _ => 0) (fun _ => 0) (fun _ => 0) (fun _ => 0))) X (hE.1 _ _ hP) (hE.D hD) hS ⟨(bC a b1 b2 b3 b4 b5), h, rfl, hh, rfl⟩ dX7_init_59

