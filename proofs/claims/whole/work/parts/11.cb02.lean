/-! CB_key: public int key(int); -/
abbrev rm_CB_key : Room := ({ frames := 2, cells := 0, slots := 0, locals := 43 } : Room)
def f_CB_key (x1 : Int32) (v_now_flows : Int32) (v_now_keys : FI) : Option (Int32) := (f_CB_isFlow x1 v_now_flows).bind (fun r1 => if r1 = 0 then some (-2) else if ck x1 16 = true then some (v_now_keys x1.toNatClampNeg) else none)
abbrev Q_CB_key (below : List Frame) (D : va_G) (k : Nat → ClassId) (A : Nat → Prop) (args : Array Value) (s : State) (b0 : Nat → Nat) (o0 : Nat) (s0 : CBS) (out : Int32) : State → Prop := MQ below (QW D k A (some (.int out)) [W_CB k b0 o0 s0].flatten) args s 0 0 A
set_option maxRecDepth 100000 in
set_option maxHeartbeats 1000000 in
theorem c_CB_key (l : Launch) (D : va_G) (k : Nat → ClassId) (t : Nat → Nat) (b0 : Nat → Nat) (o0 : Nat) (s0 : CBS) (x1 : Int32) (out : Int32) (hf : f_CB_key x1 s0.1.1.1.1.1.2 s0.1.1.1.1.2 = some out) : CT l D k t yX7_key cX7_key 2 (some .int) rm_CB_key [.ref (b0 o0), .int x1] [W_CB k b0 o0 s0].flatten (some (.int out)) [W_CB k b0 o0 s0].flatten := by
  refine kofW (by decide) (Nat.le_of_ble_eq_true rfl) ?_
  intro p e s m below meth c A ls X hP hD hS hl
  have N : Nat := 0
  have hx := X.1.1
  have hb := X.1.2.1
  have hml := X.1.2.2.1
  have hown := X.1.2.2.2.1
  have hts := X.1.2.2.2.2
  have hl : lv_has ls 2 [(0, .ref (b0 o0)), (1, .int x1)] := hl
  rw [f_CB_key] at hf
  refine lv_aload_n hx hb dX7_key_0 rfl (lv_at hl 0 rfl) ?_
  refine lv_iload_n hx hb dX7_key_1 rfl (lv_at hl 1 rfl) ?_
  obtain ⟨r1, hg_r1, hf⟩ := ofbind hf
  refine kcV (bs := [W_CB k b0 o0 s0]) (br := []) (bc := [W_CB k b0 o0 s0]) (bc' := [W_CB k b0 o0 s0]) X hP hD hS (c_CB_isFlow l D k t b0 o0 s0 x1 r1 hg_r1) mv_X7_89 hl [] [0] 7 ⟨rfl, rfl⟩ ⟨Nat.le_of_ble_eq_true rfl, Nat.le_of_ble_eq_true rfl⟩ rfl rfl rfl rfl rfl rfl rfl (Nat.le_of_ble_eq_true rfl) dX7_key_2 (fun H locs hP hD hS => ?_)
  have hP : va_P D vwCl [W_CB k b0 o0 s0].flatten _ := hP
  have hD : va_D A [W_CB k b0 o0 s0].flatten := hD
  refine lv_if_eq (tgt := 20) hx hb dX7_key_5 (by decide) (fun hc => ?_) (fun hc => ?_)
  · have hf := ofpos hf hc
    refine lv_bipush (v := (-2)) hx hb dX7_key_20 (by decide) ?_
    have hf := Option.some.inj hf
    subst hf
    exact kiret (v := (-2)) X hP hD hS dX7_key_22
  · have hf := ofneg hf hc
    refine lv_aload_n hx hb dX7_key_8 rfl (lv_at hl 0 rfl) ?_
    refine kget (v := .ref (b0 (o0+1))) X hP ff_X7_12 0 rfl rfl dX7_key_9 ?_
    refine kget (v := .ref (b0 (o0+3))) X hP ff_X7_93 1 rfl rfl dX7_key_12 ?_
    refine lv_iload_n hx hb dX7_key_15 rfl (lv_at hl 1 rfl) ?_
    obtain ⟨hc, hf⟩ := ofck hf
    refine kiald (f := s0.1.1.1.1.2) (n := 16) X hP 3 rfl hc dX7_key_16 ?_
    refine lv_goto (tgt := 22) hx hb dX7_key_17 (by decide) ?_
    have hf := Option.some.inj hf
    subst hf
    exact kiret (v := s0.1.1.1.1.2 x1.toNatClampNeg) X hP hD hS dX7_key_22
/-! CB_flowOf: public int flowOf(int); -/
abbrev rm_CB_flowOf : Room := ({ frames := 1, cells := 0, slots := 0, locals := 22 } : Room)
def f_CB_flowOf (N : Nat) (x1 : Int32) (v_now_flows : Int32) (v_now_keys : FI) : Option (Int32) := (f_CB_isFrom 0 x1 999).bind (fun r1 => if r1 = 0 then some (-3) else (f_State_find N x1 v_now_flows v_now_keys).bind (fun r2 => some r2))
abbrev Q_CB_flowOf (below : List Frame) (D : va_G) (k : Nat → ClassId) (A : Nat → Prop) (args : Array Value) (s : State) (b0 : Nat → Nat) (o0 : Nat) (s0 : CBS) (out : Int32) : State → Prop := MQ below (QW D k A (some (.int out)) [W_CB k b0 o0 s0].flatten) args s 0 0 A
set_option maxRecDepth 100000 in
set_option maxHeartbeats 1000000 in
theorem c_CB_flowOf (l : Launch) (D : va_G) (k : Nat → ClassId) (t : Nat → Nat) (b0 : Nat → Nat) (o0 : Nat) (s0 : CBS) (x1 : Int32) (N : Nat) (out : Int32) (hf : f_CB_flowOf N x1 s0.1.1.1.1.1.2 s0.1.1.1.1.2 = some out) : CT l D k t yX7_flowOf cX7_flowOf 2 (some .int) rm_CB_flowOf [.ref (b0 o0), .int x1] [W_CB k b0 o0 s0].flatten (some (.int out)) [W_CB k b0 o0 s0].flatten := by
  refine kofW (by decide) (Nat.le_of_ble_eq_true rfl) ?_
  intro p e s m below meth c A ls X hP hD hS hl
  have hx := X.1.1
  have hb := X.1.2.1
  have hml := X.1.2.2.1
  have hown := X.1.2.2.2.1
  have hts := X.1.2.2.2.2
  have hl : lv_has ls 2 [(0, .ref (b0 o0)), (1, .int x1)] := hl
  rw [f_CB_flowOf] at hf
  refine lv_iconst (v := 0) hx hb dX7_flowOf_0 (by decide) ?_
  refine lv_iload_n hx hb dX7_flowOf_1 rfl (lv_at hl 1 rfl) ?_
  refine lv_sipush (v := 999) hx hb dX7_flowOf_2 (by decide) ?_
  obtain ⟨r1, hg_r1, hf⟩ := ofbind hf
  refine kcS (bs := [W_CB k b0 o0 s0]) (br := [W_CB k b0 o0 s0]) (bc := []) (bc' := []) X hP hD hS (c_CB_isFrom l D k t 0 x1 999 r1 hg_r1) ms_X7_40 hl [0] [] ⟨rfl, rfl⟩ ⟨Nat.le_of_ble_eq_true rfl, Nat.le_of_ble_eq_true rfl⟩ rfl rfl rfl rfl (Nat.le_of_ble_eq_true rfl) dX7_flowOf_5 (fun H locs hP hD hS => ?_)
  have hP : va_P D vwCl [W_CB k b0 o0 s0].flatten _ := hP
  have hD : va_D A [W_CB k b0 o0 s0].flatten := hD
  refine lv_if_eq (tgt := 22) hx hb dX7_flowOf_8 (by decide) (fun hc => ?_) (fun hc => ?_)
  · have hf := ofpos hf hc
    refine lv_bipush (v := (-3)) hx hb dX7_flowOf_22 (by decide) ?_
    have hf := Option.some.inj hf
    subst hf
    exact kiret (v := (-3)) X hP hD hS dX7_flowOf_24
  · have hf := ofneg hf hc
    refine lv_aload_n hx hb dX7_flowOf_11 rfl (lv_at hl 0 rfl) ?_
    refine kget (v := .ref (b0 (o0+1))) X hP ff_X7_12 0 rfl rfl dX7_flowOf_12 ?_
    refine lv_iload_n hx hb dX7_flowOf_15 rfl (lv_at hl 1 rfl) ?_
    obtain ⟨r2, hg_r2, hf⟩ := ofbind hf
    have hP : va_P D vwCl [[((b0 o0), .inr (7, [.ref (b0 (o0+1)), .ref (b0 (o0+14)), .ref (b0 (o0+81)), .ref (b0 (o0+85)), .ref (b0 (o0+152))]))], W_State k b0 (o0+1) s0.1.1.1, W_History k b0 (o0+14) s0.1.1.2, W_Text k b0 (o0+81) s0.1.2.1.1.1 s0.1.2.1.1.2 s0.1.2.1.2.1 s0.1.2.1.2.2 s0.1.2.2.1.1 s0.1.2.2.1.2 s0.1.2.2.2, W_Decoder k b0 (o0+85) s0.2.1, W_State k b0 (o0+152) s0.2.2].flatten _ := hP
    have hD : va_D A [[((b0 o0), .inr (7, [.ref (b0 (o0+1)), .ref (b0 (o0+14)), .ref (b0 (o0+81)), .ref (b0 (o0+85)), .ref (b0 (o0+152))]))], W_State k b0 (o0+1) s0.1.1.1, W_History k b0 (o0+14) s0.1.1.2, W_Text k b0 (o0+81) s0.1.2.1.1.1 s0.1.2.1.1.2 s0.1.2.1.2.1 s0.1.2.1.2.2 s0.1.2.2.1.1 s0.1.2.2.1.2 s0.1.2.2.2, W_Decoder k b0 (o0+85) s0.2.1, W_State k b0 (o0+152) s0.2.2].flatten := hD
    refine kcV (bs := [[((b0 o0), .inr (7, [.ref (b0 (o0+1)), .ref (b0 (o0+14)), .ref (b0 (o0+81)), .ref (b0 (o0+85)), .ref (b0 (o0+152))]))], W_State k b0 (o0+1) s0.1.1.1, W_History k b0 (o0+14) s0.1.1.2, W_Text k b0 (o0+81) s0.1.2.1.1.1 s0.1.2.1.1.2 s0.1.2.1.2.1 s0.1.2.1.2.2 s0.1.2.2.1.1 s0.1.2.2.1.2 s0.1.2.2.2, W_Decoder k b0 (o0+85) s0.2.1, W_State k b0 (o0+152) s0.2.2]) (br := [[((b0 o0), .inr (7, [.ref (b0 (o0+1)), .ref (b0 (o0+14)), .ref (b0 (o0+81)), .ref (b0 (o0+85)), .ref (b0 (o0+152))]))], W_History k b0 (o0+14) s0.1.1.2, W_Text k b0 (o0+81) s0.1.2.1.1.1 s0.1.2.1.1.2 s0.1.2.1.2.1 s0.1.2.1.2.2 s0.1.2.2.1.1 s0.1.2.2.1.2 s0.1.2.2.2, W_Decoder k b0 (o0+85) s0.2.1, W_State k b0 (o0+152) s0.2.2]) (bc := [W_State k b0 (o0+1) s0.1.1.1]) (bc' := [W_State k b0 (o0+1) s0.1.1.1]) X hP hD hS (c_State_find l D k t b0 (o0+1) s0.1.1.1 x1 N r2 hg_r2) mv_X7_80 hl [0, 2, 3, 4, 5] [1] 5 ⟨rfl, rfl⟩ ⟨Nat.le_of_ble_eq_true rfl, Nat.le_of_ble_eq_true rfl⟩ rfl rfl rfl rfl rfl rfl rfl (Nat.le_of_ble_eq_true rfl) dX7_flowOf_16 (fun H locs hP hD hS => ?_)
    have hP : va_P D vwCl [[((b0 o0), .inr (7, [.ref (b0 (o0+1)), .ref (b0 (o0+14)), .ref (b0 (o0+81)), .ref (b0 (o0+85)), .ref (b0 (o0+152))]))], W_History k b0 (o0+14) s0.1.1.2, W_Text k b0 (o0+81) s0.1.2.1.1.1 s0.1.2.1.1.2 s0.1.2.1.2.1 s0.1.2.1.2.2 s0.1.2.2.1.1 s0.1.2.2.1.2 s0.1.2.2.2, W_Decoder k b0 (o0+85) s0.2.1, W_State k b0 (o0+152) s0.2.2, W_State k b0 (o0+1) s0.1.1.1].flatten _ := hP
    have hD : va_D A [[((b0 o0), .inr (7, [.ref (b0 (o0+1)), .ref (b0 (o0+14)), .ref (b0 (o0+81)), .ref (b0 (o0+85)), .ref (b0 (o0+152))]))], W_History k b0 (o0+14) s0.1.1.2, W_Text k b0 (o0+81) s0.1.2.1.1.1 s0.1.2.1.1.2 s0.1.2.1.2.1 s0.1.2.1.2.2 s0.1.2.2.1.1 s0.1.2.2.1.2 s0.1.2.2.2, W_Decoder k b0 (o0+85) s0.2.1, W_State k b0 (o0+152) s0.2.2, W_State k b0 (o0+1) s0.1.1.1].flatten := hD
    refine lv_goto (tgt := 24) hx hb dX7_flowOf_19 (by decide) ?_
    obtain ⟨hP, hD⟩ := B_perm (br := [[((b0 o0), .inr (7, [.ref (b0 (o0+1)), .ref (b0 (o0+14)), .ref (b0 (o0+81)), .ref (b0 (o0+85)), .ref (b0 (o0+152))]))], W_State k b0 (o0+1) s0.1.1.1, W_History k b0 (o0+14) s0.1.1.2, W_Text k b0 (o0+81) s0.1.2.1.1.1 s0.1.2.1.1.2 s0.1.2.1.2.1 s0.1.2.1.2.2 s0.1.2.2.1.1 s0.1.2.2.1.2 s0.1.2.2.2, W_Decoder k b0 (o0+85) s0.2.1, W_State k b0 (o0+152) s0.2.2]) hP hD [0, 5, 1, 2, 3, 4] rfl rfl
    have hP : va_P D vwCl [W_CB k b0 o0 s0].flatten _ := hP
    have hD : va_D A [W_CB k b0 o0 s0].flatten := hD
    have hf := Option.some.inj hf
    subst hf
    exact kiret (v := r2) X hP hD hS dX7_flowOf_24
/-! CB_places: public int places(int); -/
abbrev rm_CB_places : Room := ({ frames := 2, cells := 0, slots := 0, locals := 45 } : Room)
def f_CB_places (N : Nat) (x1 : Int32) (v_now_form_counters : Int32) (v_now_form_functions : Int32) (v_now_flows : Int32) (v_now_keys : FI) : Option (Int32) := (f_CB_isFlow x1 v_now_flows).bind (fun r1 => if r1 = 0 then some (-2) else if ck x1 16 = true then (f_Form_placesOfKey N (v_now_keys x1.toNatClampNeg) v_now_form_counters v_now_form_functions).bind (fun r2 => some r2) else none)
abbrev Q_CB_places (below : List Frame) (D : va_G) (k : Nat → ClassId) (A : Nat → Prop) (args : Array Value) (s : State) (b0 : Nat → Nat) (o0 : Nat) (s0 : CBS) (out : Int32) : State → Prop := MQ below (QW D k A (some (.int out)) [W_CB k b0 o0 s0].flatten) args s 0 0 A
set_option maxRecDepth 100000 in
set_option maxHeartbeats 1000000 in
theorem c_CB_places (l : Launch) (D : va_G) (k : Nat → ClassId) (t : Nat → Nat) (b0 : Nat → Nat) (o0 : Nat) (s0 : CBS) (x1 : Int32) (N : Nat) (out : Int32) (hf : f_CB_places N x1 s0.1.1.1.1.1.1.1.1.1 s0.1.1.1.1.1.1.1.2 s0.1.1.1.1.1.2 s0.1.1.1.1.2 = some out) : CT l D k t yX7_places cX7_places 2 (some .int) rm_CB_places [.ref (b0 o0), .int x1] [W_CB k b0 o0 s0].flatten (some (.int out)) [W_CB k b0 o0 s0].flatten := by
  refine kofW (by decide) (Nat.le_of_ble_eq_true rfl) ?_
  intro p e s m below meth c A ls X hP hD hS hl
  have hx := X.1.1
  have hb := X.1.2.1
  have hml := X.1.2.2.1
  have hown := X.1.2.2.2.1
  have hts := X.1.2.2.2.2
  have hl : lv_has ls 2 [(0, .ref (b0 o0)), (1, .int x1)] := hl
  rw [f_CB_places] at hf
  refine lv_aload_n hx hb dX7_places_0 rfl (lv_at hl 0 rfl) ?_
  refine lv_iload_n hx hb dX7_places_1 rfl (lv_at hl 1 rfl) ?_
  obtain ⟨r1, hg_r1, hf⟩ := ofbind hf
  refine kcV (bs := [W_CB k b0 o0 s0]) (br := []) (bc := [W_CB k b0 o0 s0]) (bc' := [W_CB k b0 o0 s0]) X hP hD hS (c_CB_isFlow l D k t b0 o0 s0 x1 r1 hg_r1) mv_X7_89 hl [] [0] 7 ⟨rfl, rfl⟩ ⟨Nat.le_of_ble_eq_true rfl, Nat.le_of_ble_eq_true rfl⟩ rfl rfl rfl rfl rfl rfl rfl (Nat.le_of_ble_eq_true rfl) dX7_places_2 (fun H locs hP hD hS => ?_)
  have hP : va_P D vwCl [W_CB k b0 o0 s0].flatten _ := hP
  have hD : va_D A [W_CB k b0 o0 s0].flatten := hD
  refine lv_if_eq (tgt := 30) hx hb dX7_places_5 (by decide) (fun hc => ?_) (fun hc => ?_)
  · have hf := ofpos hf hc
    refine lv_bipush (v := (-2)) hx hb dX7_places_30 (by decide) ?_
    have hf := Option.some.inj hf
    subst hf
    exact kiret (v := (-2)) X hP hD hS dX7_places_32
  · have hf := ofneg hf hc
    refine lv_aload_n hx hb dX7_places_8 rfl (lv_at hl 0 rfl) ?_
    refine kget (v := .ref (b0 (o0+1))) X hP ff_X7_12 0 rfl rfl dX7_places_9 ?_
    refine kget (v := .ref (b0 (o0+2))) X hP ff_X7_48 1 rfl rfl dX7_places_12 ?_
    refine lv_aload_n hx hb dX7_places_15 rfl (lv_at hl 0 rfl) ?_
    refine kget (v := .ref (b0 (o0+1))) X hP ff_X7_12 0 rfl rfl dX7_places_16 ?_
    refine kget (v := .ref (b0 (o0+3))) X hP ff_X7_93 1 rfl rfl dX7_places_19 ?_
    refine lv_iload_n hx hb dX7_places_22 rfl (lv_at hl 1 rfl) ?_
    obtain ⟨hc, hf⟩ := ofck hf
    refine kiald (f := s0.1.1.1.1.2) (n := 16) X hP 3 rfl hc dX7_places_23 ?_
    obtain ⟨r2, hg_r2, hf⟩ := ofbind hf
    have hP : va_P D vwCl [[((b0 o0), .inr (7, [.ref (b0 (o0+1)), .ref (b0 (o0+14)), .ref (b0 (o0+81)), .ref (b0 (o0+85)), .ref (b0 (o0+152))]))], W_State k b0 (o0+1) s0.1.1.1, W_History k b0 (o0+14) s0.1.1.2, W_Text k b0 (o0+81) s0.1.2.1.1.1 s0.1.2.1.1.2 s0.1.2.1.2.1 s0.1.2.1.2.2 s0.1.2.2.1.1 s0.1.2.2.1.2 s0.1.2.2.2, W_Decoder k b0 (o0+85) s0.2.1, W_State k b0 (o0+152) s0.2.2].flatten _ := hP
    have hD : va_D A [[((b0 o0), .inr (7, [.ref (b0 (o0+1)), .ref (b0 (o0+14)), .ref (b0 (o0+81)), .ref (b0 (o0+85)), .ref (b0 (o0+152))]))], W_State k b0 (o0+1) s0.1.1.1, W_History k b0 (o0+14) s0.1.1.2, W_Text k b0 (o0+81) s0.1.2.1.1.1 s0.1.2.1.1.2 s0.1.2.1.2.1 s0.1.2.1.2.2 s0.1.2.2.1.1 s0.1.2.2.1.2 s0.1.2.2.2, W_Decoder k b0 (o0+85) s0.2.1, W_State k b0 (o0+152) s0.2.2].flatten := hD
    have hP : va_P D vwCl [[((b0 o0), .inr (7, [.ref (b0 (o0+1)), .ref (b0 (o0+14)), .ref (b0 (o0+81)), .ref (b0 (o0+85)), .ref (b0 (o0+152))]))], [((b0 (o0+1)), .inr (5, [.ref (b0 (o0+2)), .int s0.1.1.1.1.1.2, .ref (b0 (o0+3)), .ref (b0 (o0+4)), .ref (b0 (o0+9))]))], W_Form k b0 (o0+2) s0.1.1.1.1.1.1.1.1.1 s0.1.1.1.1.1.1.1.1.2 s0.1.1.1.1.1.1.1.2 s0.1.1.1.1.1.1.2.1.1 s0.1.1.1.1.1.1.2.1.2 s0.1.1.1.1.1.1.2.2, [((b0 (o0+3)), .inl (k 0, 16, .inl s0.1.1.1.1.2))], W_Braid k b0 (o0+4) s0.1.1.1.2.1.1.1 s0.1.1.1.2.1.1.2 s0.1.1.1.2.1.2.1 s0.1.1.1.2.1.2.2, W_Braid k b0 (o0+9) s0.1.1.1.2.2.1.1 s0.1.1.1.2.2.1.2 s0.1.1.1.2.2.2.1 s0.1.1.1.2.2.2.2, W_History k b0 (o0+14) s0.1.1.2, W_Text k b0 (o0+81) s0.1.2.1.1.1 s0.1.2.1.1.2 s0.1.2.1.2.1 s0.1.2.1.2.2 s0.1.2.2.1.1 s0.1.2.2.1.2 s0.1.2.2.2, W_Decoder k b0 (o0+85) s0.2.1, W_State k b0 (o0+152) s0.2.2].flatten _ := hP
    have hD : va_D A [[((b0 o0), .inr (7, [.ref (b0 (o0+1)), .ref (b0 (o0+14)), .ref (b0 (o0+81)), .ref (b0 (o0+85)), .ref (b0 (o0+152))]))], [((b0 (o0+1)), .inr (5, [.ref (b0 (o0+2)), .int s0.1.1.1.1.1.2, .ref (b0 (o0+3)), .ref (b0 (o0+4)), .ref (b0 (o0+9))]))], W_Form k b0 (o0+2) s0.1.1.1.1.1.1.1.1.1 s0.1.1.1.1.1.1.1.1.2 s0.1.1.1.1.1.1.1.2 s0.1.1.1.1.1.1.2.1.1 s0.1.1.1.1.1.1.2.1.2 s0.1.1.1.1.1.1.2.2, [((b0 (o0+3)), .inl (k 0, 16, .inl s0.1.1.1.1.2))], W_Braid k b0 (o0+4) s0.1.1.1.2.1.1.1 s0.1.1.1.2.1.1.2 s0.1.1.1.2.1.2.1 s0.1.1.1.2.1.2.2, W_Braid k b0 (o0+9) s0.1.1.1.2.2.1.1 s0.1.1.1.2.2.1.2 s0.1.1.1.2.2.2.1 s0.1.1.1.2.2.2.2, W_History k b0 (o0+14) s0.1.1.2, W_Text k b0 (o0+81) s0.1.2.1.1.1 s0.1.2.1.1.2 s0.1.2.1.2.1 s0.1.2.1.2.2 s0.1.2.2.1.1 s0.1.2.2.1.2 s0.1.2.2.2, W_Decoder k b0 (o0+85) s0.2.1, W_State k b0 (o0+152) s0.2.2].flatten := hD
    refine kcV (bs := [[((b0 o0), .inr (7, [.ref (b0 (o0+1)), .ref (b0 (o0+14)), .ref (b0 (o0+81)), .ref (b0 (o0+85)), .ref (b0 (o0+152))]))], [((b0 (o0+1)), .inr (5, [.ref (b0 (o0+2)), .int s0.1.1.1.1.1.2, .ref (b0 (o0+3)), .ref (b0 (o0+4)), .ref (b0 (o0+9))]))], W_Form k b0 (o0+2) s0.1.1.1.1.1.1.1.1.1 s0.1.1.1.1.1.1.1.1.2 s0.1.1.1.1.1.1.1.2 s0.1.1.1.1.1.1.2.1.1 s0.1.1.1.1.1.1.2.1.2 s0.1.1.1.1.1.1.2.2, [((b0 (o0+3)), .inl (k 0, 16, .inl s0.1.1.1.1.2))], W_Braid k b0 (o0+4) s0.1.1.1.2.1.1.1 s0.1.1.1.2.1.1.2 s0.1.1.1.2.1.2.1 s0.1.1.1.2.1.2.2, W_Braid k b0 (o0+9) s0.1.1.1.2.2.1.1 s0.1.1.1.2.2.1.2 s0.1.1.1.2.2.2.1 s0.1.1.1.2.2.2.2, W_History k b0 (o0+14) s0.1.1.2, W_Text k b0 (o0+81) s0.1.2.1.1.1 s0.1.2.1.1.2 s0.1.2.1.2.1 s0.1.2.1.2.2 s0.1.2.2.1.1 s0.1.2.2.1.2 s0.1.2.2.2, W_Decoder k b0 (o0+85) s0.2.1, W_State k b0 (o0+152) s0.2.2]) (br := [[((b0 o0), .inr (7, [.ref (b0 (o0+1)), .ref (b0 (o0+14)), .ref (b0 (o0+81)), .ref (b0 (o0+85)), .ref (b0 (o0+152))]))], [((b0 (o0+1)), .inr (5, [.ref (b0 (o0+2)), .int s0.1.1.1.1.1.2, .ref (b0 (o0+3)), .ref (b0 (o0+4)), .ref (b0 (o0+9))]))], [((b0 (o0+3)), .inl (k 0, 16, .inl s0.1.1.1.1.2))], W_Braid k b0 (o0+4) s0.1.1.1.2.1.1.1 s0.1.1.1.2.1.1.2 s0.1.1.1.2.1.2.1 s0.1.1.1.2.1.2.2, W_Braid k b0 (o0+9) s0.1.1.1.2.2.1.1 s0.1.1.1.2.2.1.2 s0.1.1.1.2.2.2.1 s0.1.1.1.2.2.2.2, W_History k b0 (o0+14) s0.1.1.2, W_Text k b0 (o0+81) s0.1.2.1.1.1 s0.1.2.1.1.2 s0.1.2.1.2.1 s0.1.2.1.2.2 s0.1.2.2.1.1 s0.1.2.2.1.2 s0.1.2.2.2, W_Decoder k b0 (o0+85) s0.2.1, W_State k b0 (o0+152) s0.2.2]) (bc := [W_Form k b0 (o0+2) s0.1.1.1.1.1.1.1.1.1 s0.1.1.1.1.1.1.1.1.2 s0.1.1.1.1.1.1.1.2 s0.1.1.1.1.1.1.2.1.1 s0.1.1.1.1.1.1.2.1.2 s0.1.1.1.1.1.1.2.2]) (bc' := [W_Form k b0 (o0+2) s0.1.1.1.1.1.1.1.1.1 s0.1.1.1.1.1.1.1.1.2 s0.1.1.1.1.1.1.1.2 s0.1.1.1.1.1.1.2.1.1 s0.1.1.1.1.1.1.2.1.2 s0.1.1.1.1.1.1.2.2]) X hP hD hS (c_Form_placesOfKey l D k t b0 (o0+2) s0.1.1.1.1.1.1.1.1.1 s0.1.1.1.1.1.1.1.1.2 s0.1.1.1.1.1.1.1.2 s0.1.1.1.1.1.1.2.1.1 s0.1.1.1.1.1.1.2.1.2 s0.1.1.1.1.1.1.2.2 (s0.1.1.1.1.2 x1.toNatClampNeg) N r2 hg_r2) mv_X7_97 hl [0, 1, 3, 4, 5, 6, 7, 8, 9] [2] 3 ⟨rfl, rfl⟩ ⟨Nat.le_of_ble_eq_true rfl, Nat.le_of_ble_eq_true rfl⟩ rfl rfl rfl rfl rfl rfl rfl (Nat.le_of_ble_eq_true rfl) dX7_places_24 (fun H locs hP hD hS => ?_)
    have hP : va_P D vwCl [[((b0 o0), .inr (7, [.ref (b0 (o0+1)), .ref (b0 (o0+14)), .ref (b0 (o0+81)), .ref (b0 (o0+85)), .ref (b0 (o0+152))]))], [((b0 (o0+1)), .inr (5, [.ref (b0 (o0+2)), .int s0.1.1.1.1.1.2, .ref (b0 (o0+3)), .ref (b0 (o0+4)), .ref (b0 (o0+9))]))], [((b0 (o0+3)), .inl (k 0, 16, .inl s0.1.1.1.1.2))], W_Braid k b0 (o0+4) s0.1.1.1.2.1.1.1 s0.1.1.1.2.1.1.2 s0.1.1.1.2.1.2.1 s0.1.1.1.2.1.2.2, W_Braid k b0 (o0+9) s0.1.1.1.2.2.1.1 s0.1.1.1.2.2.1.2 s0.1.1.1.2.2.2.1 s0.1.1.1.2.2.2.2, W_History k b0 (o0+14) s0.1.1.2, W_Text k b0 (o0+81) s0.1.2.1.1.1 s0.1.2.1.1.2 s0.1.2.1.2.1 s0.1.2.1.2.2 s0.1.2.2.1.1 s0.1.2.2.1.2 s0.1.2.2.2, W_Decoder k b0 (o0+85) s0.2.1, W_State k b0 (o0+152) s0.2.2, W_Form k b0 (o0+2) s0.1.1.1.1.1.1.1.1.1 s0.1.1.1.1.1.1.1.1.2 s0.1.1.1.1.1.1.1.2 s0.1.1.1.1.1.1.2.1.1 s0.1.1.1.1.1.1.2.1.2 s0.1.1.1.1.1.1.2.2].flatten _ := hP
    have hD : va_D A [[((b0 o0), .inr (7, [.ref (b0 (o0+1)), .ref (b0 (o0+14)), .ref (b0 (o0+81)), .ref (b0 (o0+85)), .ref (b0 (o0+152))]))], [((b0 (o0+1)), .inr (5, [.ref (b0 (o0+2)), .int s0.1.1.1.1.1.2, .ref (b0 (o0+3)), .ref (b0 (o0+4)), .ref (b0 (o0+9))]))], [((b0 (o0+3)), .inl (k 0, 16, .inl s0.1.1.1.1.2))], W_Braid k b0 (o0+4) s0.1.1.1.2.1.1.1 s0.1.1.1.2.1.1.2 s0.1.1.1.2.1.2.1 s0.1.1.1.2.1.2.2, W_Braid k b0 (o0+9) s0.1.1.1.2.2.1.1 s0.1.1.1.2.2.1.2 s0.1.1.1.2.2.2.1 s0.1.1.1.2.2.2.2, W_History k b0 (o0+14) s0.1.1.2, W_Text k b0 (o0+81) s0.1.2.1.1.1 s0.1.2.1.1.2 s0.1.2.1.2.1 s0.1.2.1.2.2 s0.1.2.2.1.1 s0.1.2.2.1.2 s0.1.2.2.2, W_Decoder k b0 (o0+85) s0.2.1, W_State k b0 (o0+152) s0.2.2, W_Form k b0 (o0+2) s0.1.1.1.1.1.1.1.1.1 s0.1.1.1.1.1.1.1.1.2 s0.1.1.1.1.1.1.1.2 s0.1.1.1.1.1.1.2.1.1 s0.1.1.1.1.1.1.2.1.2 s0.1.1.1.1.1.1.2.2].flatten := hD
    refine lv_goto (tgt := 32) hx hb dX7_places_27 (by decide) ?_
    obtain ⟨hP, hD⟩ := B_perm (br := [[((b0 o0), .inr (7, [.ref (b0 (o0+1)), .ref (b0 (o0+14)), .ref (b0 (o0+81)), .ref (b0 (o0+85)), .ref (b0 (o0+152))]))], [((b0 (o0+1)), .inr (5, [.ref (b0 (o0+2)), .int s0.1.1.1.1.1.2, .ref (b0 (o0+3)), .ref (b0 (o0+4)), .ref (b0 (o0+9))]))], W_Form k b0 (o0+2) s0.1.1.1.1.1.1.1.1.1 s0.1.1.1.1.1.1.1.1.2 s0.1.1.1.1.1.1.1.2 s0.1.1.1.1.1.1.2.1.1 s0.1.1.1.1.1.1.2.1.2 s0.1.1.1.1.1.1.2.2, [((b0 (o0+3)), .inl (k 0, 16, .inl s0.1.1.1.1.2))], W_Braid k b0 (o0+4) s0.1.1.1.2.1.1.1 s0.1.1.1.2.1.1.2 s0.1.1.1.2.1.2.1 s0.1.1.1.2.1.2.2, W_Braid k b0 (o0+9) s0.1.1.1.2.2.1.1 s0.1.1.1.2.2.1.2 s0.1.1.1.2.2.2.1 s0.1.1.1.2.2.2.2, W_History k b0 (o0+14) s0.1.1.2, W_Text k b0 (o0+81) s0.1.2.1.1.1 s0.1.2.1.1.2 s0.1.2.1.2.1 s0.1.2.1.2.2 s0.1.2.2.1.1 s0.1.2.2.1.2 s0.1.2.2.2, W_Decoder k b0 (o0+85) s0.2.1, W_State k b0 (o0+152) s0.2.2]) hP hD [0, 1, 9, 2, 3, 4, 5, 6, 7, 8] rfl rfl
    have hP : va_P D vwCl [[((b0 o0), .inr (7, [.ref (b0 (o0+1)), .ref (b0 (o0+14)), .ref (b0 (o0+81)), .ref (b0 (o0+85)), .ref (b0 (o0+152))]))], W_State k b0 (o0+1) s0.1.1.1, W_History k b0 (o0+14) s0.1.1.2, W_Text k b0 (o0+81) s0.1.2.1.1.1 s0.1.2.1.1.2 s0.1.2.1.2.1 s0.1.2.1.2.2 s0.1.2.2.1.1 s0.1.2.2.1.2 s0.1.2.2.2, W_Decoder k b0 (o0+85) s0.2.1, W_State k b0 (o0+152) s0.2.2].flatten _ := hP
    have hD : va_D A [[((b0 o0), .inr (7, [.ref (b0 (o0+1)), .ref (b0 (o0+14)), .ref (b0 (o0+81)), .ref (b0 (o0+85)), .ref (b0 (o0+152))]))], W_State k b0 (o0+1) s0.1.1.1, W_History k b0 (o0+14) s0.1.1.2, W_Text k b0 (o0+81) s0.1.2.1.1.1 s0.1.2.1.1.2 s0.1.2.1.2.1 s0.1.2.1.2.2 s0.1.2.2.1.1 s0.1.2.2.1.2 s0.1.2.2.2, W_Decoder k b0 (o0+85) s0.2.1, W_State k b0 (o0+152) s0.2.2].flatten := hD
    have hP : va_P D vwCl [W_CB k b0 o0 s0].flatten _ := hP
    have hD : va_D A [W_CB k b0 o0 s0].flatten := hD
    have hf := Option.some.inj hf
    subst hf
    exact kiret (v := r2) X hP hD hS dX7_places_32
/-! CB_isCounter: private boolean isCounter(int); -/
abbrev rm_CB_isCounter : Room := ({ frames := 1, cells := 0, slots := 0, locals := 22 } : Room)
def f_CB_isCounter (x1 : Int32) (v_now_form_counters : Int32) : Option (Int32) := (f_CB_isFrom 0 x1 (v_now_form_counters - 1)).bind (fun r1 => if r1 = 0 ∨ r1 = 1 then some r1 else none)
abbrev Q_CB_isCounter (below : List Frame) (D : va_G) (k : Nat → ClassId) (A : Nat → Prop) (args : Array Value) (s : State) (b0 : Nat → Nat) (o0 : Nat) (s0 : CBS) (out : Int32) : State → Prop := MQ below (QW D k A (some (.int out)) [W_CB k b0 o0 s0].flatten) args s 0 0 A
set_option maxRecDepth 100000 in
set_option maxHeartbeats 1000000 in
theorem c_CB_isCounter (l : Launch) (D : va_G) (k : Nat → ClassId) (t : Nat → Nat) (b0 : Nat → Nat) (o0 : Nat) (s0 : CBS) (x1 : Int32) (out : Int32) (hf : f_CB_isCounter x1 s0.1.1.1.1.1.1.1.1.1 = some out) : CT l D k t yX7_isCounter cX7_isCounter 2 (some .boolean) rm_CB_isCounter [.ref (b0 o0), .int x1] [W_CB k b0 o0 s0].flatten (some (.int out)) [W_CB k b0 o0 s0].flatten := by
  refine kofW (by decide) (Nat.le_of_ble_eq_true rfl) ?_
  intro p e s m below meth c A ls X hP hD hS hl
  have N : Nat := 0
  have hx := X.1.1
  have hb := X.1.2.1
  have hml := X.1.2.2.1
  have hown := X.1.2.2.2.1
  have hts := X.1.2.2.2.2
  have hl : lv_has ls 2 [(0, .ref (b0 o0)), (1, .int x1)] := hl
  rw [f_CB_isCounter] at hf
  refine lv_iconst (v := 0) hx hb dX7_isCounter_0 (by decide) ?_
  refine lv_iload_n hx hb dX7_isCounter_1 rfl (lv_at hl 1 rfl) ?_
  refine lv_aload_n hx hb dX7_isCounter_2 rfl (lv_at hl 0 rfl) ?_
  refine kget (v := .ref (b0 (o0+1))) X hP ff_X7_12 0 rfl rfl dX7_isCounter_3 ?_
  refine kget (v := .ref (b0 (o0+2))) X hP ff_X7_48 1 rfl rfl dX7_isCounter_6 ?_
  refine kget (v := .int s0.1.1.1.1.1.1.1.1.1) X hP ff_X7_52 2 rfl rfl dX7_isCounter_9 ?_
  refine lv_iconst (v := 1) hx hb dX7_isCounter_12 (by decide) ?_
  refine lv_isub hx hb dX7_isCounter_13 ?_
  obtain ⟨r1, hg_r1, hf⟩ := ofbind hf
  refine kcS (bs := [W_CB k b0 o0 s0]) (br := [W_CB k b0 o0 s0]) (bc := []) (bc' := []) X hP hD hS (c_CB_isFrom l D k t 0 x1 (s0.1.1.1.1.1.1.1.1.1 - 1) r1 hg_r1) ms_X7_40 hl [0] [] ⟨rfl, rfl⟩ ⟨Nat.le_of_ble_eq_true rfl, Nat.le_of_ble_eq_true rfl⟩ rfl rfl rfl rfl (Nat.le_of_ble_eq_true rfl) dX7_isCounter_14 (fun H locs hP hD hS => ?_)
  have hP : va_P D vwCl [W_CB k b0 o0 s0].flatten _ := hP
  have hD : va_D A [W_CB k b0 o0 s0].flatten := hD
  obtain ⟨hz, hf⟩ := ofif hf
  have hf := Option.some.inj hf
  subst hf
  exact kzret (v := r1) X hP hD hS (zck_n hz) dX7_isCounter_17
/-! CB_placesAbove: public int placesAbove(int); -/
abbrev rm_CB_placesAbove : Room := ({ frames := 2, cells := 0, slots := 0, locals := 45 } : Room)
def f_CB_placesAbove (N : Nat) (x1 : Int32) (v_now_form_counters : Int32) (v_now_form_countersAbove : Int32) (v_now_form_functionsAbove : Int32) : Option (Int32) := (f_CB_isCounter x1 v_now_form_counters).bind (fun r1 => if r1 = 0 then some (-2) else (f_Form_placesOfCounter N x1 v_now_form_countersAbove v_now_form_functionsAbove).bind (fun r2 => some r2))
abbrev Q_CB_placesAbove (below : List Frame) (D : va_G) (k : Nat → ClassId) (A : Nat → Prop) (args : Array Value) (s : State) (b0 : Nat → Nat) (o0 : Nat) (s0 : CBS) (out : Int32) : State → Prop := MQ below (QW D k A (some (.int out)) [W_CB k b0 o0 s0].flatten) args s 0 0 A
set_option maxRecDepth 100000 in
set_option maxHeartbeats 1000000 in
theorem c_CB_placesAbove (l : Launch) (D : va_G) (k : Nat → ClassId) (t : Nat → Nat) (b0 : Nat → Nat) (o0 : Nat) (s0 : CBS) (x1 : Int32) (N : Nat) (out : Int32) (hf : f_CB_placesAbove N x1 s0.1.1.1.1.1.1.1.1.1 s0.1.1.1.1.1.1.2.1.1 s0.1.1.1.1.1.1.2.1.2 = some out) : CT l D k t yX7_placesAbove cX7_placesAbove 2 (some .int) rm_CB_placesAbove [.ref (b0 o0), .int x1] [W_CB k b0 o0 s0].flatten (some (.int out)) [W_CB k b0 o0 s0].flatten := by
  refine kofW (by decide) (Nat.le_of_ble_eq_true rfl) ?_
  intro p e s m below meth c A ls X hP hD hS hl
  have hx := X.1.1
  have hb := X.1.2.1
  have hml := X.1.2.2.1
  have hown := X.1.2.2.2.1
  have hts := X.1.2.2.2.2
  have hl : lv_has ls 2 [(0, .ref (b0 o0)), (1, .int x1)] := hl
  rw [f_CB_placesAbove] at hf
  refine lv_aload_n hx hb dX7_placesAbove_0 rfl (lv_at hl 0 rfl) ?_
  refine lv_iload_n hx hb dX7_placesAbove_1 rfl (lv_at hl 1 rfl) ?_
  obtain ⟨r1, hg_r1, hf⟩ := ofbind hf
  refine kcV (bs := [W_CB k b0 o0 s0]) (br := []) (bc := [W_CB k b0 o0 s0]) (bc' := [W_CB k b0 o0 s0]) X hP hD hS (c_CB_isCounter l D k t b0 o0 s0 x1 r1 hg_r1) mv_X7_100 hl [] [0] 7 ⟨rfl, rfl⟩ ⟨Nat.le_of_ble_eq_true rfl, Nat.le_of_ble_eq_true rfl⟩ rfl rfl rfl rfl rfl rfl rfl (Nat.le_of_ble_eq_true rfl) dX7_placesAbove_2 (fun H locs hP hD hS => ?_)
  have hP : va_P D vwCl [W_CB k b0 o0 s0].flatten _ := hP
  have hD : va_D A [W_CB k b0 o0 s0].flatten := hD
  refine lv_if_eq (tgt := 22) hx hb dX7_placesAbove_5 (by decide) (fun hc => ?_) (fun hc => ?_)
  · have hf := ofpos hf hc
    refine lv_bipush (v := (-2)) hx hb dX7_placesAbove_22 (by decide) ?_
    have hf := Option.some.inj hf
    subst hf
    exact kiret (v := (-2)) X hP hD hS dX7_placesAbove_24
  · have hf := ofneg hf hc
    refine lv_aload_n hx hb dX7_placesAbove_8 rfl (lv_at hl 0 rfl) ?_
    refine kget (v := .ref (b0 (o0+1))) X hP ff_X7_12 0 rfl rfl dX7_placesAbove_9 ?_
    refine kget (v := .ref (b0 (o0+2))) X hP ff_X7_48 1 rfl rfl dX7_placesAbove_12 ?_
    refine lv_iload_n hx hb dX7_placesAbove_15 rfl (lv_at hl 1 rfl) ?_
    obtain ⟨r2, hg_r2, hf⟩ := ofbind hf
    have hP : va_P D vwCl [[((b0 o0), .inr (7, [.ref (b0 (o0+1)), .ref (b0 (o0+14)), .ref (b0 (o0+81)), .ref (b0 (o0+85)), .ref (b0 (o0+152))]))], W_State k b0 (o0+1) s0.1.1.1, W_History k b0 (o0+14) s0.1.1.2, W_Text k b0 (o0+81) s0.1.2.1.1.1 s0.1.2.1.1.2 s0.1.2.1.2.1 s0.1.2.1.2.2 s0.1.2.2.1.1 s0.1.2.2.1.2 s0.1.2.2.2, W_Decoder k b0 (o0+85) s0.2.1, W_State k b0 (o0+152) s0.2.2].flatten _ := hP
    have hD : va_D A [[((b0 o0), .inr (7, [.ref (b0 (o0+1)), .ref (b0 (o0+14)), .ref (b0 (o0+81)), .ref (b0 (o0+85)), .ref (b0 (o0+152))]))], W_State k b0 (o0+1) s0.1.1.1, W_History k b0 (o0+14) s0.1.1.2, W_Text k b0 (o0+81) s0.1.2.1.1.1 s0.1.2.1.1.2 s0.1.2.1.2.1 s0.1.2.1.2.2 s0.1.2.2.1.1 s0.1.2.2.1.2 s0.1.2.2.2, W_Decoder k b0 (o0+85) s0.2.1, W_State k b0 (o0+152) s0.2.2].flatten := hD
    have hP : va_P D vwCl [[((b0 o0), .inr (7, [.ref (b0 (o0+1)), .ref (b0 (o0+14)), .ref (b0 (o0+81)), .ref (b0 (o0+85)), .ref (b0 (o0+152))]))], [((b0 (o0+1)), .inr (5, [.ref (b0 (o0+2)), .int s0.1.1.1.1.1.2, .ref (b0 (o0+3)), .ref (b0 (o0+4)), .ref (b0 (o0+9))]))], W_Form k b0 (o0+2) s0.1.1.1.1.1.1.1.1.1 s0.1.1.1.1.1.1.1.1.2 s0.1.1.1.1.1.1.1.2 s0.1.1.1.1.1.1.2.1.1 s0.1.1.1.1.1.1.2.1.2 s0.1.1.1.1.1.1.2.2, [((b0 (o0+3)), .inl (k 0, 16, .inl s0.1.1.1.1.2))], W_Braid k b0 (o0+4) s0.1.1.1.2.1.1.1 s0.1.1.1.2.1.1.2 s0.1.1.1.2.1.2.1 s0.1.1.1.2.1.2.2, W_Braid k b0 (o0+9) s0.1.1.1.2.2.1.1 s0.1.1.1.2.2.1.2 s0.1.1.1.2.2.2.1 s0.1.1.1.2.2.2.2, W_History k b0 (o0+14) s0.1.1.2, W_Text k b0 (o0+81) s0.1.2.1.1.1 s0.1.2.1.1.2 s0.1.2.1.2.1 s0.1.2.1.2.2 s0.1.2.2.1.1 s0.1.2.2.1.2 s0.1.2.2.2, W_Decoder k b0 (o0+85) s0.2.1, W_State k b0 (o0+152) s0.2.2].flatten _ := hP
    have hD : va_D A [[((b0 o0), .inr (7, [.ref (b0 (o0+1)), .ref (b0 (o0+14)), .ref (b0 (o0+81)), .ref (b0 (o0+85)), .ref (b0 (o0+152))]))], [((b0 (o0+1)), .inr (5, [.ref (b0 (o0+2)), .int s0.1.1.1.1.1.2, .ref (b0 (o0+3)), .ref (b0 (o0+4)), .ref (b0 (o0+9))]))], W_Form k b0 (o0+2) s0.1.1.1.1.1.1.1.1.1 s0.1.1.1.1.1.1.1.1.2 s0.1.1.1.1.1.1.1.2 s0.1.1.1.1.1.1.2.1.1 s0.1.1.1.1.1.1.2.1.2 s0.1.1.1.1.1.1.2.2, [((b0 (o0+3)), .inl (k 0, 16, .inl s0.1.1.1.1.2))], W_Braid k b0 (o0+4) s0.1.1.1.2.1.1.1 s0.1.1.1.2.1.1.2 s0.1.1.1.2.1.2.1 s0.1.1.1.2.1.2.2, W_Braid k b0 (o0+9) s0.1.1.1.2.2.1.1 s0.1.1.1.2.2.1.2 s0.1.1.1.2.2.2.1 s0.1.1.1.2.2.2.2, W_History k b0 (o0+14) s0.1.1.2, W_Text k b0 (o0+81) s0.1.2.1.1.1 s0.1.2.1.1.2 s0.1.2.1.2.1 s0.1.2.1.2.2 s0.1.2.2.1.1 s0.1.2.2.1.2 s0.1.2.2.2, W_Decoder k b0 (o0+85) s0.2.1, W_State k b0 (o0+152) s0.2.2].flatten := hD
    refine kcV (bs := [[((b0 o0), .inr (7, [.ref (b0 (o0+1)), .ref (b0 (o0+14)), .ref (b0 (o0+81)), .ref (b0 (o0+85)), .ref (b0 (o0+152))]))], [((b0 (o0+1)), .inr (5, [.ref (b0 (o0+2)), .int s0.1.1.1.1.1.2, .ref (b0 (o0+3)), .ref (b0 (o0+4)), .ref (b0 (o0+9))]))], W_Form k b0 (o0+2) s0.1.1.1.1.1.1.1.1.1 s0.1.1.1.1.1.1.1.1.2 s0.1.1.1.1.1.1.1.2 s0.1.1.1.1.1.1.2.1.1 s0.1.1.1.1.1.1.2.1.2 s0.1.1.1.1.1.1.2.2, [((b0 (o0+3)), .inl (k 0, 16, .inl s0.1.1.1.1.2))], W_Braid k b0 (o0+4) s0.1.1.1.2.1.1.1 s0.1.1.1.2.1.1.2 s0.1.1.1.2.1.2.1 s0.1.1.1.2.1.2.2, W_Braid k b0 (o0+9) s0.1.1.1.2.2.1.1 s0.1.1.1.2.2.1.2 s0.1.1.1.2.2.2.1 s0.1.1.1.2.2.2.2, W_History k b0 (o0+14) s0.1.1.2, W_Text k b0 (o0+81) s0.1.2.1.1.1 s0.1.2.1.1.2 s0.1.2.1.2.1 s0.1.2.1.2.2 s0.1.2.2.1.1 s0.1.2.2.1.2 s0.1.2.2.2, W_Decoder k b0 (o0+85) s0.2.1, W_State k b0 (o0+152) s0.2.2]) (br := [[((b0 o0), .inr (7, [.ref (b0 (o0+1)), .ref (b0 (o0+14)), .ref (b0 (o0+81)), .ref (b0 (o0+85)), .ref (b0 (o0+152))]))], [((b0 (o0+1)), .inr (5, [.ref (b0 (o0+2)), .int s0.1.1.1.1.1.2, .ref (b0 (o0+3)), .ref (b0 (o0+4)), .ref (b0 (o0+9))]))], [((b0 (o0+3)), .inl (k 0, 16, .inl s0.1.1.1.1.2))], W_Braid k b0 (o0+4) s0.1.1.1.2.1.1.1 s0.1.1.1.2.1.1.2 s0.1.1.1.2.1.2.1 s0.1.1.1.2.1.2.2, W_Braid k b0 (o0+9) s0.1.1.1.2.2.1.1 s0.1.1.1.2.2.1.2 s0.1.1.1.2.2.2.1 s0.1.1.1.2.2.2.2, W_History k b0 (o0+14) s0.1.1.2, W_Text k b0 (o0+81) s0.1.2.1.1.1 s0.1.2.1.1.2 s0.1.2.1.2.1 s0.1.2.1.2.2 s0.1.2.2.1.1 s0.1.2.2.1.2 s0.1.2.2.2, W_Decoder k b0 (o0+85) s0.2.1, W_State k b0 (o0+152) s0.2.2]) (bc := [W_Form k b0 (o0+2) s0.1.1.1.1.1.1.1.1.1 s0.1.1.1.1.1.1.1.1.2 s0.1.1.1.1.1.1.1.2 s0.1.1.1.1.1.1.2.1.1 s0.1.1.1.1.1.1.2.1.2 s0.1.1.1.1.1.1.2.2]) (bc' := [W_Form k b0 (o0+2) s0.1.1.1.1.1.1.1.1.1 s0.1.1.1.1.1.1.1.1.2 s0.1.1.1.1.1.1.1.2 s0.1.1.1.1.1.1.2.1.1 s0.1.1.1.1.1.1.2.1.2 s0.1.1.1.1.1.1.2.2]) X hP hD hS (c_Form_placesOfCounter l D k t b0 (o0+2) s0.1.1.1.1.1.1.1.1.1 s0.1.1.1.1.1.1.1.1.2 s0.1.1.1.1.1.1.1.2 s0.1.1.1.1.1.1.2.1.1 s0.1.1.1.1.1.1.2.1.2 s0.1.1.1.1.1.1.2.2 x1 N r2 hg_r2) mv_X7_103 hl [0, 1, 3, 4, 5, 6, 7, 8, 9] [2] 3 ⟨rfl, rfl⟩ ⟨Nat.le_of_ble_eq_true rfl, Nat.le_of_ble_eq_true rfl⟩ rfl rfl rfl rfl rfl rfl rfl (Nat.le_of_ble_eq_true rfl) dX7_placesAbove_16 (fun H locs hP hD hS => ?_)
    have hP : va_P D vwCl [[((b0 o0), .inr (7, [.ref (b0 (o0+1)), .ref (b0 (o0+14)), .ref (b0 (o0+81)), .ref (b0 (o0+85)), .ref (b0 (o0+152))]))], [((b0 (o0+1)), .inr (5, [.ref (b0 (o0+2)), .int s0.1.1.1.1.1.2, .ref (b0 (o0+3)), .ref (b0 (o0+4)), .ref (b0 (o0+9))]))], [((b0 (o0+3)), .inl (k 0, 16, .inl s0.1.1.1.1.2))], W_Braid k b0 (o0+4) s0.1.1.1.2.1.1.1 s0.1.1.1.2.1.1.2 s0.1.1.1.2.1.2.1 s0.1.1.1.2.1.2.2, W_Braid k b0 (o0+9) s0.1.1.1.2.2.1.1 s0.1.1.1.2.2.1.2 s0.1.1.1.2.2.2.1 s0.1.1.1.2.2.2.2, W_History k b0 (o0+14) s0.1.1.2, W_Text k b0 (o0+81) s0.1.2.1.1.1 s0.1.2.1.1.2 s0.1.2.1.2.1 s0.1.2.1.2.2 s0.1.2.2.1.1 s0.1.2.2.1.2 s0.1.2.2.2, W_Decoder k b0 (o0+85) s0.2.1, W_State k b0 (o0+152) s0.2.2, W_Form k b0 (o0+2) s0.1.1.1.1.1.1.1.1.1 s0.1.1.1.1.1.1.1.1.2 s0.1.1.1.1.1.1.1.2 s0.1.1.1.1.1.1.2.1.1 s0.1.1.1.1.1.1.2.1.2 s0.1.1.1.1.1.1.2.2].flatten _ := hP
    have hD : va_D A [[((b0 o0), .inr (7, [.ref (b0 (o0+1)), .ref (b0 (o0+14)), .ref (b0 (o0+81)), .ref (b0 (o0+85)), .ref (b0 (o0+152))]))], [((b0 (o0+1)), .inr (5, [.ref (b0 (o0+2)), .int s0.1.1.1.1.1.2, .ref (b0 (o0+3)), .ref (b0 (o0+4)), .ref (b0 (o0+9))]))], [((b0 (o0+3)), .inl (k 0, 16, .inl s0.1.1.1.1.2))], W_Braid k b0 (o0+4) s0.1.1.1.2.1.1.1 s0.1.1.1.2.1.1.2 s0.1.1.1.2.1.2.1 s0.1.1.1.2.1.2.2, W_Braid k b0 (o0+9) s0.1.1.1.2.2.1.1 s0.1.1.1.2.2.1.2 s0.1.1.1.2.2.2.1 s0.1.1.1.2.2.2.2, W_History k b0 (o0+14) s0.1.1.2, W_Text k b0 (o0+81) s0.1.2.1.1.1 s0.1.2.1.1.2 s0.1.2.1.2.1 s0.1.2.1.2.2 s0.1.2.2.1.1 s0.1.2.2.1.2 s0.1.2.2.2, W_Decoder k b0 (o0+85) s0.2.1, W_State k b0 (o0+152) s0.2.2, W_Form k b0 (o0+2) s0.1.1.1.1.1.1.1.1.1 s0.1.1.1.1.1.1.1.1.2 s0.1.1.1.1.1.1.1.2 s0.1.1.1.1.1.1.2.1.1 s0.1.1.1.1.1.1.2.1.2 s0.1.1.1.1.1.1.2.2].flatten := hD
    refine lv_goto (tgt := 24) hx hb dX7_placesAbove_19 (by decide) ?_
    obtain ⟨hP, hD⟩ := B_perm (br := [[((b0 o0), .inr (7, [.ref (b0 (o0+1)), .ref (b0 (o0+14)), .ref (b0 (o0+81)), .ref (b0 (o0+85)), .ref (b0 (o0+152))]))], [((b0 (o0+1)), .inr (5, [.ref (b0 (o0+2)), .int s0.1.1.1.1.1.2, .ref (b0 (o0+3)), .ref (b0 (o0+4)), .ref (b0 (o0+9))]))], W_Form k b0 (o0+2) s0.1.1.1.1.1.1.1.1.1 s0.1.1.1.1.1.1.1.1.2 s0.1.1.1.1.1.1.1.2 s0.1.1.1.1.1.1.2.1.1 s0.1.1.1.1.1.1.2.1.2 s0.1.1.1.1.1.1.2.2, [((b0 (o0+3)), .inl (k 0, 16, .inl s0.1.1.1.1.2))], W_Braid k b0 (o0+4) s0.1.1.1.2.1.1.1 s0.1.1.1.2.1.1.2 s0.1.1.1.2.1.2.1 s0.1.1.1.2.1.2.2, W_Braid k b0 (o0+9) s0.1.1.1.2.2.1.1 s0.1.1.1.2.2.1.2 s0.1.1.1.2.2.2.1 s0.1.1.1.2.2.2.2, W_History k b0 (o0+14) s0.1.1.2, W_Text k b0 (o0+81) s0.1.2.1.1.1 s0.1.2.1.1.2 s0.1.2.1.2.1 s0.1.2.1.2.2 s0.1.2.2.1.1 s0.1.2.2.1.2 s0.1.2.2.2, W_Decoder k b0 (o0+85) s0.2.1, W_State k b0 (o0+152) s0.2.2]) hP hD [0, 1, 9, 2, 3, 4, 5, 6, 7, 8] rfl rfl
    have hP : va_P D vwCl [[((b0 o0), .inr (7, [.ref (b0 (o0+1)), .ref (b0 (o0+14)), .ref (b0 (o0+81)), .ref (b0 (o0+85)), .ref (b0 (o0+152))]))], W_State k b0 (o0+1) s0.1.1.1, W_History k b0 (o0+14) s0.1.1.2, W_Text k b0 (o0+81) s0.1.2.1.1.1 s0.1.2.1.1.2 s0.1.2.1.2.1 s0.1.2.1.2.2 s0.1.2.2.1.1 s0.1.2.2.1.2 s0.1.2.2.2, W_Decoder k b0 (o0+85) s0.2.1, W_State k b0 (o0+152) s0.2.2].flatten _ := hP
    have hD : va_D A [[((b0 o0), .inr (7, [.ref (b0 (o0+1)), .ref (b0 (o0+14)), .ref (b0 (o0+81)), .ref (b0 (o0+85)), .ref (b0 (o0+152))]))], W_State k b0 (o0+1) s0.1.1.1, W_History k b0 (o0+14) s0.1.1.2, W_Text k b0 (o0+81) s0.1.2.1.1.1 s0.1.2.1.1.2 s0.1.2.1.2.1 s0.1.2.1.2.2 s0.1.2.2.1.1 s0.1.2.2.1.2 s0.1.2.2.2, W_Decoder k b0 (o0+85) s0.2.1, W_State k b0 (o0+152) s0.2.2].flatten := hD
    have hP : va_P D vwCl [W_CB k b0 o0 s0].flatten _ := hP
    have hD : va_D A [W_CB k b0 o0 s0].flatten := hD
    have hf := Option.some.inj hf
    subst hf
    exact kiret (v := r2) X hP hD hS dX7_placesAbove_24
/-! CB_isBraid: private static boolean isBraid(int); -/
abbrev rm_CB_isBraid : Room := ({ frames := 1, cells := 0, slots := 0, locals := 22 } : Room)
def f_CB_isBraid (x0 : Int32) : Option (Int32) := (f_CB_isFrom 0 x0 1).bind (fun r1 => if r1 = 0 ∨ r1 = 1 then some r1 else none)
abbrev Q_CB_isBraid (below : List Frame) (D : va_G) (k : Nat → ClassId) (A : Nat → Prop) (args : Array Value) (s : State) (out : Int32) : State → Prop := MQ below (QW D k A (some (.int out)) [].flatten) args s 0 0 A
set_option maxRecDepth 100000 in
set_option maxHeartbeats 1000000 in
theorem c_CB_isBraid (l : Launch) (D : va_G) (k : Nat → ClassId) (t : Nat → Nat) (x0 : Int32) (out : Int32) (hf : f_CB_isBraid x0 = some out) : CT l D k t yX7_isBraid cX7_isBraid 1 (some .boolean) rm_CB_isBraid [.int x0] [].flatten (some (.int out)) [].flatten := by
  refine kofW (by decide) (Nat.le_of_ble_eq_true rfl) ?_
  intro p e s m below meth c A ls X hP hD hS hl
  have N : Nat := 0
  have hx := X.1.1
  have hb := X.1.2.1
  have hml := X.1.2.2.1
  have hown := X.1.2.2.2.1
  have hts := X.1.2.2.2.2
  have hl : lv_has ls 1 [(0, .int x0)] := hl
  rw [f_CB_isBraid] at hf
  refine lv_iconst (v := 0) hx hb dX7_isBraid_0 (by decide) ?_
  refine lv_iload_n hx hb dX7_isBraid_1 rfl (lv_at hl 0 rfl) ?_
  refine lv_iconst (v := 1) hx hb dX7_isBraid_2 (by decide) ?_
  obtain ⟨r1, hg_r1, hf⟩ := ofbind hf
  refine kcS (bs := []) (br := []) (bc := []) (bc' := []) X hP hD hS (c_CB_isFrom l D k t 0 x0 1 r1 hg_r1) ms_X7_40 hl [] [] ⟨rfl, rfl⟩ ⟨Nat.le_of_ble_eq_true rfl, Nat.le_of_ble_eq_true rfl⟩ rfl rfl rfl rfl (Nat.le_of_ble_eq_true rfl) dX7_isBraid_3 (fun H locs hP hD hS => ?_)
  have hP : va_P D vwCl [].flatten _ := hP
  have hD : va_D A [].flatten := hD
  obtain ⟨hz, hf⟩ := ofif hf
  have hf := Option.some.inj hf
  subst hf
  exact kzret (v := r1) X hP hD hS (zck_n hz) dX7_isBraid_6
