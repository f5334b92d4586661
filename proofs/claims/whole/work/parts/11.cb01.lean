/-! CB_setFirst: public int setFirst(int, int, int); -/
abbrev rm_CB_setFirst : Room := ({ frames := 4, cells := 0, slots := 0, locals := 123 } : Room)
def f_CB_setFirst (x1 : Int32) (x2 : Int32) (x3 : Int32) (v_now : StateS) (v_history : HistoryS) : Option (Int32 × StateS × HistoryS) := (f_CB_isFrom 2 x1 24).bind (fun r1 => if r1 = 0 then some ((-3), v_now, v_history) else (f_CB_isFrom 1 x2 8).bind (fun r2 => if r2 = 0 then some ((-3), v_now, v_history) else (f_CB_isFrom 1 x3 4).bind (fun r3 => if r3 = 0 then some ((-3), v_now, v_history) else (f_History_push v_history v_now).bind (fun r4 => some (v_now.1.1.1.1.1.1, u_State_second (u_State_first (u_State_form v_now (u_Form_functions (u_Form_bits (u_Form_counters v_now.1.1.1 x1) x2) x3)) ((fun _ => 0, fun _ => 0), (fun _ => 0, fun _ => 0))) ((fun _ => 0, fun _ => 0), (fun _ => 0, fun _ => 0)), r4)))))
abbrev Q_CB_setFirst (below : List Frame) (D : va_G) (k : Nat → ClassId) (A : Nat → Prop) (args : Array Value) (s : State) (b0 : Nat → Nat) (o0 : Nat) (s0 : CBS) (out : Int32 × StateS × HistoryS) : State → Prop := MQ below (QW D k A (some (.int out.1)) [W_CB k b0 o0 (u_CB_history (u_CB_now s0 out.2.1) out.2.2)].flatten) args s 0 0 A
set_option maxRecDepth 100000 in
set_option maxHeartbeats 1000000 in
theorem c_CB_setFirst (l : Launch) (D : va_G) (k : Nat → ClassId) (t : Nat → Nat) (b0 : Nat → Nat) (o0 : Nat) (s0 : CBS) (x1 : Int32) (x2 : Int32) (x3 : Int32) (out : Int32 × StateS × HistoryS) (hf : f_CB_setFirst x1 x2 x3 s0.1.1.1 s0.1.1.2 = some out) : CT l D k t yX7_setFirst cX7_setFirst 5 (some .int) rm_CB_setFirst [.ref (b0 o0), .int x1, .int x2, .int x3] [W_CB k b0 o0 s0].flatten (some (.int out.1)) [W_CB k b0 o0 (u_CB_history (u_CB_now s0 out.2.1) out.2.2)].flatten := by
  refine kofW (by decide) (Nat.le_of_ble_eq_true rfl) ?_
  intro p e s m below meth c A ls X hP hD hS hl
  have N : Nat := 0
  have hx := X.1.1
  have hb := X.1.2.1
  have hml := X.1.2.2.1
  have hown := X.1.2.2.2.1
  have hts := X.1.2.2.2.2
  have hl : lv_has ls 5 [(0, .ref (b0 o0)), (1, .int x1), (2, .int x2), (3, .int x3)] := hl
  rw [f_CB_setFirst] at hf
  refine lv_iconst (v := 2) hx hb dX7_setFirst_0 (by decide) ?_
  refine lv_iload_n hx hb dX7_setFirst_1 rfl (lv_at hl 1 rfl) ?_
  refine lv_bipush (v := 24) hx hb dX7_setFirst_2 (by decide) ?_
  obtain ⟨r1, hg_r1, hf⟩ := ofbind hf
  refine kcS (bs := [W_CB k b0 o0 s0]) (br := [W_CB k b0 o0 s0]) (bc := []) (bc' := []) X hP hD hS (c_CB_isFrom l D k t 2 x1 24 r1 hg_r1) ms_X7_40 hl [0] [] ⟨rfl, rfl⟩ ⟨Nat.le_of_ble_eq_true rfl, Nat.le_of_ble_eq_true rfl⟩ rfl rfl rfl rfl (Nat.le_of_ble_eq_true rfl) dX7_setFirst_4 (fun H locs hP hD hS => ?_)
  have hP : va_P D vwCl [W_CB k b0 o0 s0].flatten _ := hP
  have hD : va_D A [W_CB k b0 o0 s0].flatten := hD
  refine lv_if_eq (tgt := 29) hx hb dX7_setFirst_7 (by decide) (fun hc => ?_) (fun hc => ?_)
  · have hf := ofpos hf hc
    refine lv_bipush (v := (-3)) hx hb dX7_setFirst_29 (by decide) ?_
    have hf := Option.some.inj hf
    subst hf
    exact kiret (v := (-3)) X hP hD hS dX7_setFirst_31
  · have hf := ofneg hf hc
    refine lv_iconst (v := 1) hx hb dX7_setFirst_10 (by decide) ?_
    refine lv_iload_n hx hb dX7_setFirst_11 rfl (lv_at hl 2 rfl) ?_
    refine lv_bipush (v := 8) hx hb dX7_setFirst_12 (by decide) ?_
    obtain ⟨r2, hg_r2, hf⟩ := ofbind hf
    refine kcS (bs := [W_CB k b0 o0 s0]) (br := [W_CB k b0 o0 s0]) (bc := []) (bc' := []) X hP hD hS (c_CB_isFrom l D k t 1 x2 8 r2 hg_r2) ms_X7_40 hl [0] [] ⟨rfl, rfl⟩ ⟨Nat.le_of_ble_eq_true rfl, Nat.le_of_ble_eq_true rfl⟩ rfl rfl rfl rfl (Nat.le_of_ble_eq_true rfl) dX7_setFirst_14 (fun H locs hP hD hS => ?_)
    have hP : va_P D vwCl [W_CB k b0 o0 s0].flatten _ := hP
    have hD : va_D A [W_CB k b0 o0 s0].flatten := hD
    refine lv_if_eq (tgt := 29) hx hb dX7_setFirst_17 (by decide) (fun hc => ?_) (fun hc => ?_)
    · have hf := ofpos hf hc
      refine lv_bipush (v := (-3)) hx hb dX7_setFirst_29 (by decide) ?_
      have hf := Option.some.inj hf
      subst hf
      exact kiret (v := (-3)) X hP hD hS dX7_setFirst_31
    · have hf := ofneg hf hc
      refine lv_iconst (v := 1) hx hb dX7_setFirst_20 (by decide) ?_
      refine lv_iload_n hx hb dX7_setFirst_21 rfl (lv_at hl 3 rfl) ?_
      refine lv_iconst (v := 4) hx hb dX7_setFirst_22 (by decide) ?_
      obtain ⟨r3, hg_r3, hf⟩ := ofbind hf
      refine kcS (bs := [W_CB k b0 o0 s0]) (br := [W_CB k b0 o0 s0]) (bc := []) (bc' := []) X hP hD hS (c_CB_isFrom l D k t 1 x3 4 r3 hg_r3) ms_X7_40 hl [0] [] ⟨rfl, rfl⟩ ⟨Nat.le_of_ble_eq_true rfl, Nat.le_of_ble_eq_true rfl⟩ rfl rfl rfl rfl (Nat.le_of_ble_eq_true rfl) dX7_setFirst_23 (fun H locs hP hD hS => ?_)
      have hP : va_P D vwCl [W_CB k b0 o0 s0].flatten _ := hP
      have hD : va_D A [W_CB k b0 o0 s0].flatten := hD
      refine lv_if_ne (tgt := 32) hx hb dX7_setFirst_26 (by decide) (fun hc => ?_) (fun hc => ?_)
      · have hf := ofneg hf hc
        refine lv_aload_n hx hb dX7_setFirst_32 rfl (lv_at hl 0 rfl) ?_
        refine kget (v := .ref (b0 (o0+14))) X hP ff_X7_19 0 rfl rfl dX7_setFirst_33 ?_
        refine lv_aload_n hx hb dX7_setFirst_36 rfl (lv_at hl 0 rfl) ?_
        refine kget (v := .ref (b0 (o0+1))) X hP ff_X7_12 0 rfl rfl dX7_setFirst_37 ?_
        obtain ⟨r4, hg_r4, hf⟩ := ofbind hf
        have hP : va_P D vwCl [[((b0 o0), .inr (7, [.ref (b0 (o0+1)), .ref (b0 (o0+14)), .ref (b0 (o0+81)), .ref (b0 (o0+85)), .ref (b0 (o0+152))]))], W_State k b0 (o0+1) s0.1.1.1, W_History k b0 (o0+14) s0.1.1.2, W_Text k b0 (o0+81) s0.1.2.1.1.1 s0.1.2.1.1.2 s0.1.2.1.2.1 s0.1.2.1.2.2 s0.1.2.2.1.1 s0.1.2.2.1.2 s0.1.2.2.2, W_Decoder k b0 (o0+85) s0.2.1, W_State k b0 (o0+152) s0.2.2].flatten _ := hP
        have hD : va_D A [[((b0 o0), .inr (7, [.ref (b0 (o0+1)), .ref (b0 (o0+14)), .ref (b0 (o0+81)), .ref (b0 (o0+85)), .ref (b0 (o0+152))]))], W_State k b0 (o0+1) s0.1.1.1, W_History k b0 (o0+14) s0.1.1.2, W_Text k b0 (o0+81) s0.1.2.1.1.1 s0.1.2.1.1.2 s0.1.2.1.2.1 s0.1.2.1.2.2 s0.1.2.2.1.1 s0.1.2.2.1.2 s0.1.2.2.2, W_Decoder k b0 (o0+85) s0.2.1, W_State k b0 (o0+152) s0.2.2].flatten := hD
        refine kcV (bs := [[((b0 o0), .inr (7, [.ref (b0 (o0+1)), .ref (b0 (o0+14)), .ref (b0 (o0+81)), .ref (b0 (o0+85)), .ref (b0 (o0+152))]))], W_State k b0 (o0+1) s0.1.1.1, W_History k b0 (o0+14) s0.1.1.2, W_Text k b0 (o0+81) s0.1.2.1.1.1 s0.1.2.1.1.2 s0.1.2.1.2.1 s0.1.2.1.2.2 s0.1.2.2.1.1 s0.1.2.2.1.2 s0.1.2.2.2, W_Decoder k b0 (o0+85) s0.2.1, W_State k b0 (o0+152) s0.2.2]) (br := [[((b0 o0), .inr (7, [.ref (b0 (o0+1)), .ref (b0 (o0+14)), .ref (b0 (o0+81)), .ref (b0 (o0+85)), .ref (b0 (o0+152))]))], W_Text k b0 (o0+81) s0.1.2.1.1.1 s0.1.2.1.1.2 s0.1.2.1.2.1 s0.1.2.1.2.2 s0.1.2.2.1.1 s0.1.2.2.1.2 s0.1.2.2.2, W_Decoder k b0 (o0+85) s0.2.1, W_State k b0 (o0+152) s0.2.2]) (bc := [W_History k b0 (o0+14) s0.1.1.2, W_State k b0 (o0+1) s0.1.1.1]) (bc' := [W_History k b0 (o0+14) r4, W_State k b0 (o0+1) s0.1.1.1]) X hP hD hS (c_History_push l D k t b0 (o0+14) s0.1.1.2 b0 (o0+1) s0.1.1.1 r4 hg_r4) mv_X7_44 hl [0, 3, 4, 5] [2, 1] 4 ⟨rfl, rfl⟩ ⟨Nat.le_of_ble_eq_true rfl, Nat.le_of_ble_eq_true rfl⟩ rfl rfl rfl rfl rfl rfl rfl (Nat.le_of_ble_eq_true rfl) dX7_setFirst_40 (fun H locs hP hD hS => ?_)
        have hP : va_P D vwCl [[((b0 o0), .inr (7, [.ref (b0 (o0+1)), .ref (b0 (o0+14)), .ref (b0 (o0+81)), .ref (b0 (o0+85)), .ref (b0 (o0+152))]))], W_Text k b0 (o0+81) s0.1.2.1.1.1 s0.1.2.1.1.2 s0.1.2.1.2.1 s0.1.2.1.2.2 s0.1.2.2.1.1 s0.1.2.2.1.2 s0.1.2.2.2, W_Decoder k b0 (o0+85) s0.2.1, W_State k b0 (o0+152) s0.2.2, W_History k b0 (o0+14) r4, W_State k b0 (o0+1) s0.1.1.1].flatten _ := hP
        have hD : va_D A [[((b0 o0), .inr (7, [.ref (b0 (o0+1)), .ref (b0 (o0+14)), .ref (b0 (o0+81)), .ref (b0 (o0+85)), .ref (b0 (o0+152))]))], W_Text k b0 (o0+81) s0.1.2.1.1.1 s0.1.2.1.1.2 s0.1.2.1.2.1 s0.1.2.1.2.2 s0.1.2.2.1.1 s0.1.2.2.1.2 s0.1.2.2.2, W_Decoder k b0 (o0+85) s0.2.1, W_State k b0 (o0+152) s0.2.2, W_History k b0 (o0+14) r4, W_State k b0 (o0+1) s0.1.1.1].flatten := hD
        refine lv_aload_n hx hb dX7_setFirst_43 rfl (lv_at hl 0 rfl) ?_
        refine kget (v := .ref (b0 (o0+1))) X hP ff_X7_12 0 rfl rfl dX7_setFirst_44 ?_
        refine kget (v := .ref (b0 (o0+2))) X hP ff_X7_48 152 rfl rfl dX7_setFirst_47 ?_
        refine kget (v := .int s0.1.1.1.1.1.1.1.1.1) X hP ff_X7_52 153 rfl rfl dX7_setFirst_50 ?_
        refine lv_istore (lv' := [(4, .int s0.1.1.1.1.1.1.1.1.1), (0, .ref (b0 o0)), (1, .int x1), (2, .int x2), (3, .int x3)]) hx hb dX7_setFirst_53 hl (by decide) rfl (fun ls hl => ?_)
        refine lv_aload_n hx hb dX7_setFirst_55 rfl (lv_at hl 1 rfl) ?_
        refine kget (v := .ref (b0 (o0+1))) X hP ff_X7_12 0 rfl rfl dX7_setFirst_56 ?_
        refine kget (v := .ref (b0 (o0+2))) X hP ff_X7_48 152 rfl rfl dX7_setFirst_59 ?_
        refine lv_iload_n hx hb dX7_setFirst_62 rfl (lv_at hl 2 rfl) ?_
        refine kputi (v := x1) X hP hD hS fp_X7_52 153 rfl (Nat.le_of_ble_eq_true rfl) dX7_setFirst_63 (fun H locs hP hD hS => ?_)
        have hP : va_P D vwCl [[((b0 o0), .inr (7, [.ref (b0 (o0+1)), .ref (b0 (o0+14)), .ref (b0 (o0+81)), .ref (b0 (o0+85)), .ref (b0 (o0+152))]))], W_Text k b0 (o0+81) s0.1.2.1.1.1 s0.1.2.1.1.2 s0.1.2.1.2.1 s0.1.2.1.2.2 s0.1.2.2.1.1 s0.1.2.2.1.2 s0.1.2.2.2, W_Decoder k b0 (o0+85) s0.2.1, W_State k b0 (o0+152) s0.2.2, W_History k b0 (o0+14) r4, W_State k b0 (o0+1) (u_State_form s0.1.1.1 (u_Form_counters s0.1.1.1.1.1.1 x1))].flatten _ := hP
        have hD : va_D A [[((b0 o0), .inr (7, [.ref (b0 (o0+1)), .ref (b0 (o0+14)), .ref (b0 (o0+81)), .ref (b0 (o0+85)), .ref (b0 (o0+152))]))], W_Text k b0 (o0+81) s0.1.2.1.1.1 s0.1.2.1.1.2 s0.1.2.1.2.1 s0.1.2.1.2.2 s0.1.2.2.1.1 s0.1.2.2.1.2 s0.1.2.2.2, W_Decoder k b0 (o0+85) s0.2.1, W_State k b0 (o0+152) s0.2.2, W_History k b0 (o0+14) r4, W_State k b0 (o0+1) (u_State_form s0.1.1.1 (u_Form_counters s0.1.1.1.1.1.1 x1))].flatten := hD
        refine lv_aload_n hx hb dX7_setFirst_66 rfl (lv_at hl 1 rfl) ?_
        refine kget (v := .ref (b0 (o0+1))) X hP ff_X7_12 0 rfl rfl dX7_setFirst_67 ?_
        refine kget (v := .ref (b0 (o0+2))) X hP ff_X7_48 152 rfl rfl dX7_setFirst_70 ?_
        refine lv_iload_n hx hb dX7_setFirst_73 rfl (lv_at hl 3 rfl) ?_
        refine kputi (v := x2) X hP hD hS fp_X7_58 153 rfl (Nat.le_of_ble_eq_true rfl) dX7_setFirst_74 (fun H locs hP hD hS => ?_)
        have hP : va_P D vwCl [[((b0 o0), .inr (7, [.ref (b0 (o0+1)), .ref (b0 (o0+14)), .ref (b0 (o0+81)), .ref (b0 (o0+85)), .ref (b0 (o0+152))]))], W_Text k b0 (o0+81) s0.1.2.1.1.1 s0.1.2.1.1.2 s0.1.2.1.2.1 s0.1.2.1.2.2 s0.1.2.2.1.1 s0.1.2.2.1.2 s0.1.2.2.2, W_Decoder k b0 (o0+85) s0.2.1, W_State k b0 (o0+152) s0.2.2, W_History k b0 (o0+14) r4, W_State k b0 (o0+1) (u_State_form s0.1.1.1 (u_Form_bits (u_Form_counters s0.1.1.1.1.1.1 x1) x2))].flatten _ := hP
        have hD : va_D A [[((b0 o0), .inr (7, [.ref (b0 (o0+1)), .ref (b0 (o0+14)), .ref (b0 (o0+81)), .ref (b0 (o0+85)), .ref (b0 (o0+152))]))], W_Text k b0 (o0+81) s0.1.2.1.1.1 s0.1.2.1.1.2 s0.1.2.1.2.1 s0.1.2.1.2.2 s0.1.2.2.1.1 s0.1.2.2.1.2 s0.1.2.2.2, W_Decoder k b0 (o0+85) s0.2.1, W_State k b0 (o0+152) s0.2.2, W_History k b0 (o0+14) r4, W_State k b0 (o0+1) (u_State_form s0.1.1.1 (u_Form_bits (u_Form_counters s0.1.1.1.1.1.1 x1) x2))].flatten := hD
        refine lv_aload_n hx hb dX7_setFirst_77 rfl (lv_at hl 1 rfl) ?_
        refine kget (v := .ref (b0 (o0+1))) X hP ff_X7_12 0 rfl rfl dX7_setFirst_78 ?_
        refine kget (v := .ref (b0 (o0+2))) X hP ff_X7_48 152 rfl rfl dX7_setFirst_81 ?_
        refine lv_iload_n hx hb dX7_setFirst_84 rfl (lv_at hl 4 rfl) ?_
        refine kputi (v := x3) X hP hD hS fp_X7_61 153 rfl (Nat.le_of_ble_eq_true rfl) dX7_setFirst_85 (fun H locs hP hD hS => ?_)
        have hP : va_P D vwCl [[((b0 o0), .inr (7, [.ref (b0 (o0+1)), .ref (b0 (o0+14)), .ref (b0 (o0+81)), .ref (b0 (o0+85)), .ref (b0 (o0+152))]))], W_Text k b0 (o0+81) s0.1.2.1.1.1 s0.1.2.1.1.2 s0.1.2.1.2.1 s0.1.2.1.2.2 s0.1.2.2.1.1 s0.1.2.2.1.2 s0.1.2.2.2, W_Decoder k b0 (o0+85) s0.2.1, W_State k b0 (o0+152) s0.2.2, W_History k b0 (o0+14) r4, W_State k b0 (o0+1) (u_State_form s0.1.1.1 (u_Form_functions (u_Form_bits (u_Form_counters s0.1.1.1.1.1.1 x1) x2) x3))].flatten _ := hP
        have hD : va_D A [[((b0 o0), .inr (7, [.ref (b0 (o0+1)), .ref (b0 (o0+14)), .ref (b0 (o0+81)), .ref (b0 (o0+85)), .ref (b0 (o0+152))]))], W_Text k b0 (o0+81) s0.1.2.1.1.1 s0.1.2.1.1.2 s0.1.2.1.2.1 s0.1.2.1.2.2 s0.1.2.2.1.1 s0.1.2.2.1.2 s0.1.2.2.2, W_Decoder k b0 (o0+85) s0.2.1, W_State k b0 (o0+152) s0.2.2, W_History k b0 (o0+14) r4, W_State k b0 (o0+1) (u_State_form s0.1.1.1 (u_Form_functions (u_Form_bits (u_Form_counters s0.1.1.1.1.1.1 x1) x2) x3))].flatten := hD
        refine lv_aload_n hx hb dX7_setFirst_88 rfl (lv_at hl 1 rfl) ?_
        refine kget (v := .ref (b0 (o0+1))) X hP ff_X7_12 0 rfl rfl dX7_setFirst_89 ?_
        refine kcV (bs := [[((b0 o0), .inr (7, [.ref (b0 (o0+1)), .ref (b0 (o0+14)), .ref (b0 (o0+81)), .ref (b0 (o0+85)), .ref (b0 (o0+152))]))], W_Text k b0 (o0+81) s0.1.2.1.1.1 s0.1.2.1.1.2 s0.1.2.1.2.1 s0.1.2.1.2.2 s0.1.2.2.1.1 s0.1.2.2.1.2 s0.1.2.2.2, W_Decoder k b0 (o0+85) s0.2.1, W_State k b0 (o0+152) s0.2.2, W_History k b0 (o0+14) r4, W_State k b0 (o0+1) (u_State_form s0.1.1.1 (u_Form_functions (u_Form_bits (u_Form_counters s0.1.1.1.1.1.1 x1) x2) x3))]) (br := [[((b0 o0), .inr (7, [.ref (b0 (o0+1)), .ref (b0 (o0+14)), .ref (b0 (o0+81)), .ref (b0 (o0+85)), .ref (b0 (o0+152))]))], W_Text k b0 (o0+81) s0.1.2.1.1.1 s0.1.2.1.1.2 s0.1.2.1.2.1 s0.1.2.1.2.2 s0.1.2.2.1.1 s0.1.2.2.1.2 s0.1.2.2.2, W_Decoder k b0 (o0+85) s0.2.1, W_State k b0 (o0+152) s0.2.2, W_History k b0 (o0+14) r4]) (bc := [W_State k b0 (o0+1) (u_State_form s0.1.1.1 (u_Form_functions (u_Form_bits (u_Form_counters s0.1.1.1.1.1.1 x1) x2) x3))]) (bc' := [W_State k b0 (o0+1) (u_State_second (u_State_first (u_State_form s0.1.1.1 (u_Form_functions (u_Form_bits (u_Form_counters s0.1.1.1.1.1.1 x1) x2) x3)) ((fun _ => 0, fun _ => 0), (fun _ => 0, fun _ => 0))) ((fun _ => 0, fun _ => 0), (fun _ => 0, fun _ => 0)))]) X hP hD hS (c_State_empty l D k t b0 (o0+1) (u_State_form s0.1.1.1 (u_Form_functions (u_Form_bits (u_Form_counters s0.1.1.1.1.1.1 x1) x2) x3))) mv_X7_64 hl [0, 1, 2, 3, 4] [5] 5 ⟨rfl, rfl⟩ ⟨Nat.le_of_ble_eq_true rfl, Nat.le_of_ble_eq_true rfl⟩ rfl rfl rfl rfl rfl rfl rfl (Nat.le_of_ble_eq_true rfl) dX7_setFirst_92 (fun H locs hP hD hS => ?_)
        have hP : va_P D vwCl [[((b0 o0), .inr (7, [.ref (b0 (o0+1)), .ref (b0 (o0+14)), .ref (b0 (o0+81)), .ref (b0 (o0+85)), .ref (b0 (o0+152))]))], W_Text k b0 (o0+81) s0.1.2.1.1.1 s0.1.2.1.1.2 s0.1.2.1.2.1 s0.1.2.1.2.2 s0.1.2.2.1.1 s0.1.2.2.1.2 s0.1.2.2.2, W_Decoder k b0 (o0+85) s0.2.1, W_State k b0 (o0+152) s0.2.2, W_History k b0 (o0+14) r4, W_State k b0 (o0+1) (u_State_second (u_State_first (u_State_form s0.1.1.1 (u_Form_functions (u_Form_bits (u_Form_counters s0.1.1.1.1.1.1 x1) x2) x3)) ((fun _ => 0, fun _ => 0), (fun _ => 0, fun _ => 0))) ((fun _ => 0, fun _ => 0), (fun _ => 0, fun _ => 0)))].flatten _ := hP
        have hD : va_D A [[((b0 o0), .inr (7, [.ref (b0 (o0+1)), .ref (b0 (o0+14)), .ref (b0 (o0+81)), .ref (b0 (o0+85)), .ref (b0 (o0+152))]))], W_Text k b0 (o0+81) s0.1.2.1.1.1 s0.1.2.1.1.2 s0.1.2.1.2.1 s0.1.2.1.2.2 s0.1.2.2.1.1 s0.1.2.2.1.2 s0.1.2.2.2, W_Decoder k b0 (o0+85) s0.2.1, W_State k b0 (o0+152) s0.2.2, W_History k b0 (o0+14) r4, W_State k b0 (o0+1) (u_State_second (u_State_first (u_State_form s0.1.1.1 (u_Form_functions (u_Form_bits (u_Form_counters s0.1.1.1.1.1.1 x1) x2) x3)) ((fun _ => 0, fun _ => 0), (fun _ => 0, fun _ => 0))) ((fun _ => 0, fun _ => 0), (fun _ => 0, fun _ => 0)))].flatten := hD
        refine lv_iload hx hb dX7_setFirst_95 (lv_at hl 0 rfl) ?_
        obtain ⟨hP, hD⟩ := B_perm (br := [[((b0 o0), .inr (7, [.ref (b0 (o0+1)), .ref (b0 (o0+14)), .ref (b0 (o0+81)), .ref (b0 (o0+85)), .ref (b0 (o0+152))]))], W_State k b0 (o0+1) (u_State_second (u_State_first (u_State_form s0.1.1.1 (u_Form_functions (u_Form_bits (u_Form_counters s0.1.1.1.1.1.1 x1) x2) x3)) ((fun _ => 0, fun _ => 0), (fun _ => 0, fun _ => 0))) ((fun _ => 0, fun _ => 0), (fun _ => 0, fun _ => 0))), W_History k b0 (o0+14) r4, W_Text k b0 (o0+81) s0.1.2.1.1.1 s0.1.2.1.1.2 s0.1.2.1.2.1 s0.1.2.1.2.2 s0.1.2.2.1.1 s0.1.2.2.1.2 s0.1.2.2.2, W_Decoder k b0 (o0+85) s0.2.1, W_State k b0 (o0+152) s0.2.2]) hP hD [0, 5, 4, 1, 2, 3] rfl rfl
        have hP : va_P D vwCl [W_CB k b0 o0 (u_CB_history (u_CB_now s0 (u_State_second (u_State_first (u_State_form s0.1.1.1 (u_Form_functions (u_Form_bits (u_Form_counters s0.1.1.1.1.1.1 x1) x2) x3)) ((fun _ => 0, fun _ => 0), (fun _ => 0, fun _ => 0))) ((fun _ => 0, fun _ => 0), (fun _ => 0, fun _ => 0)))) r4)].flatten _ := hP
        have hD : va_D A [W_CB k b0 o0 (u_CB_history (u_CB_now s0 (u_State_second (u_State_first (u_State_form s0.1.1.1 (u_Form_functions (u_Form_bits (u_Form_counters s0.1.1.1.1.1.1 x1) x2) x3)) ((fun _ => 0, fun _ => 0), (fun _ => 0, fun _ => 0))) ((fun _ => 0, fun _ => 0), (fun _ => 0, fun _ => 0)))) r4)].flatten := hD
        have hf := Option.some.inj hf
        subst hf
        exact kiret (v := s0.1.1.1.1.1.1.1.1.1) X hP hD hS dX7_setFirst_97
      · have hf := ofpos hf hc
        refine lv_bipush (v := (-3)) hx hb dX7_setFirst_29 (by decide) ?_
        have hf := Option.some.inj hf
        subst hf
        exact kiret (v := (-3)) X hP hD hS dX7_setFirst_31
/-! CB_setSecond: public int setSecond(int, int); -/
abbrev rm_CB_setSecond : Room := ({ frames := 4, cells := 0, slots := 0, locals := 123 } : Room)
def f_CB_setSecond (x1 : Int32) (x2 : Int32) (v_now : StateS) (v_history : HistoryS) : Option (Int32 × StateS × HistoryS) := (f_CB_isFrom 1 x1 16).bind (fun r1 => if r1 = 0 then some ((-3), v_now, v_history) else (f_CB_isFrom 1 x2 3).bind (fun r2 => if r2 = 0 then some ((-3), v_now, v_history) else (f_History_push v_history v_now).bind (fun r3 => some (v_now.1.1.1.2.1.1, u_State_second (u_State_first (u_State_form v_now (u_Form_functionsAbove (u_Form_countersAbove v_now.1.1.1 x1) x2)) ((fun _ => 0, fun _ => 0), (fun _ => 0, fun _ => 0))) ((fun _ => 0, fun _ => 0), (fun _ => 0, fun _ => 0)), r3))))
abbrev Q_CB_setSecond (below : List Frame) (D : va_G) (k : Nat → ClassId) (A : Nat → Prop) (args : Array Value) (s : State) (b0 : Nat → Nat) (o0 : Nat) (s0 : CBS) (out : Int32 × StateS × HistoryS) : State → Prop := MQ below (QW D k A (some (.int out.1)) [W_CB k b0 o0 (u_CB_history (u_CB_now s0 out.2.1) out.2.2)].flatten) args s 0 0 A
set_option maxRecDepth 100000 in
set_option maxHeartbeats 1000000 in
theorem c_CB_setSecond (l : Launch) (D : va_G) (k : Nat → ClassId) (t : Nat → Nat) (b0 : Nat → Nat) (o0 : Nat) (s0 : CBS) (x1 : Int32) (x2 : Int32) (out : Int32 × StateS × HistoryS) (hf : f_CB_setSecond x1 x2 s0.1.1.1 s0.1.1.2 = some out) : CT l D k t yX7_setSecond cX7_setSecond 4 (some .int) rm_CB_setSecond [.ref (b0 o0), .int x1, .int x2] [W_CB k b0 o0 s0].flatten (some (.int out.1)) [W_CB k b0 o0 (u_CB_history (u_CB_now s0 out.2.1) out.2.2)].flatten := by
  refine kofW (by decide) (Nat.le_of_ble_eq_true rfl) ?_
  intro p e s m below meth c A ls X hP hD hS hl
  have N : Nat := 0
  have hx := X.1.1
  have hb := X.1.2.1
  have hml := X.1.2.2.1
  have hown := X.1.2.2.2.1
  have hts := X.1.2.2.2.2
  have hl : lv_has ls 4 [(0, .ref (b0 o0)), (1, .int x1), (2, .int x2)] := hl
  rw [f_CB_setSecond] at hf
  refine lv_iconst (v := 1) hx hb dX7_setSecond_0 (by decide) ?_
  refine lv_iload_n hx hb dX7_setSecond_1 rfl (lv_at hl 1 rfl) ?_
  refine lv_bipush (v := 16) hx hb dX7_setSecond_2 (by decide) ?_
  obtain ⟨r1, hg_r1, hf⟩ := ofbind hf
  refine kcS (bs := [W_CB k b0 o0 s0]) (br := [W_CB k b0 o0 s0]) (bc := []) (bc' := []) X hP hD hS (c_CB_isFrom l D k t 1 x1 16 r1 hg_r1) ms_X7_40 hl [0] [] ⟨rfl, rfl⟩ ⟨Nat.le_of_ble_eq_true rfl, Nat.le_of_ble_eq_true rfl⟩ rfl rfl rfl rfl (Nat.le_of_ble_eq_true rfl) dX7_setSecond_4 (fun H locs hP hD hS => ?_)
  have hP : va_P D vwCl [W_CB k b0 o0 s0].flatten _ := hP
  have hD : va_D A [W_CB k b0 o0 s0].flatten := hD
  refine lv_if_eq (tgt := 19) hx hb dX7_setSecond_7 (by decide) (fun hc => ?_) (fun hc => ?_)
  · have hf := ofpos hf hc
    refine lv_bipush (v := (-3)) hx hb dX7_setSecond_19 (by decide) ?_
    have hf := Option.some.inj hf
    subst hf
    exact kiret (v := (-3)) X hP hD hS dX7_setSecond_21
  · have hf := ofneg hf hc
    refine lv_iconst (v := 1) hx hb dX7_setSecond_10 (by decide) ?_
    refine lv_iload_n hx hb dX7_setSecond_11 rfl (lv_at hl 2 rfl) ?_
    refine lv_iconst (v := 3) hx hb dX7_setSecond_12 (by decide) ?_
    obtain ⟨r2, hg_r2, hf⟩ := ofbind hf
    refine kcS (bs := [W_CB k b0 o0 s0]) (br := [W_CB k b0 o0 s0]) (bc := []) (bc' := []) X hP hD hS (c_CB_isFrom l D k t 1 x2 3 r2 hg_r2) ms_X7_40 hl [0] [] ⟨rfl, rfl⟩ ⟨Nat.le_of_ble_eq_true rfl, Nat.le_of_ble_eq_true rfl⟩ rfl rfl rfl rfl (Nat.le_of_ble_eq_true rfl) dX7_setSecond_13 (fun H locs hP hD hS => ?_)
    have hP : va_P D vwCl [W_CB k b0 o0 s0].flatten _ := hP
    have hD : va_D A [W_CB k b0 o0 s0].flatten := hD
    refine lv_if_ne (tgt := 22) hx hb dX7_setSecond_16 (by decide) (fun hc => ?_) (fun hc => ?_)
    · have hf := ofneg hf hc
      refine lv_aload_n hx hb dX7_setSecond_22 rfl (lv_at hl 0 rfl) ?_
      refine kget (v := .ref (b0 (o0+14))) X hP ff_X7_19 0 rfl rfl dX7_setSecond_23 ?_
      refine lv_aload_n hx hb dX7_setSecond_26 rfl (lv_at hl 0 rfl) ?_
      refine kget (v := .ref (b0 (o0+1))) X hP ff_X7_12 0 rfl rfl dX7_setSecond_27 ?_
      obtain ⟨r3, hg_r3, hf⟩ := ofbind hf
      have hP : va_P D vwCl [[((b0 o0), .inr (7, [.ref (b0 (o0+1)), .ref (b0 (o0+14)), .ref (b0 (o0+81)), .ref (b0 (o0+85)), .ref (b0 (o0+152))]))], W_State k b0 (o0+1) s0.1.1.1, W_History k b0 (o0+14) s0.1.1.2, W_Text k b0 (o0+81) s0.1.2.1.1.1 s0.1.2.1.1.2 s0.1.2.1.2.1 s0.1.2.1.2.2 s0.1.2.2.1.1 s0.1.2.2.1.2 s0.1.2.2.2, W_Decoder k b0 (o0+85) s0.2.1, W_State k b0 (o0+152) s0.2.2].flatten _ := hP
      have hD : va_D A [[((b0 o0), .inr (7, [.ref (b0 (o0+1)), .ref (b0 (o0+14)), .ref (b0 (o0+81)), .ref (b0 (o0+85)), .ref (b0 (o0+152))]))], W_State k b0 (o0+1) s0.1.1.1, W_History k b0 (o0+14) s0.1.1.2, W_Text k b0 (o0+81) s0.1.2.1.1.1 s0.1.2.1.1.2 s0.1.2.1.2.1 s0.1.2.1.2.2 s0.1.2.2.1.1 s0.1.2.2.1.2 s0.1.2.2.2, W_Decoder k b0 (o0+85) s0.2.1, W_State k b0 (o0+152) s0.2.2].flatten := hD
      refine kcV (bs := [[((b0 o0), .inr (7, [.ref (b0 (o0+1)), .ref (b0 (o0+14)), .ref (b0 (o0+81)), .ref (b0 (o0+85)), .ref (b0 (o0+152))]))], W_State k b0 (o0+1) s0.1.1.1, W_History k b0 (o0+14) s0.1.1.2, W_Text k b0 (o0+81) s0.1.2.1.1.1 s0.1.2.1.1.2 s0.1.2.1.2.1 s0.1.2.1.2.2 s0.1.2.2.1.1 s0.1.2.2.1.2 s0.1.2.2.2, W_Decoder k b0 (o0+85) s0.2.1, W_State k b0 (o0+152) s0.2.2]) (br := [[((b0 o0), .inr (7, [.ref (b0 (o0+1)), .ref (b0 (o0+14)), .ref (b0 (o0+81)), .ref (b0 (o0+85)), .ref (b0 (o0+152))]))], W_Text k b0 (o0+81) s0.1.2.1.1.1 s0.1.2.1.1.2 s0.1.2.1.2.1 s0.1.2.1.2.2 s0.1.2.2.1.1 s0.1.2.2.1.2 s0.1.2.2.2, W_Decoder k b0 (o0+85) s0.2.1, W_State k b0 (o0+152) s0.2.2]) (bc := [W_History k b0 (o0+14) s0.1.1.2, W_State k b0 (o0+1) s0.1.1.1]) (bc' := [W_History k b0 (o0+14) r3, W_State k b0 (o0+1) s0.1.1.1]) X hP hD hS (c_History_push l D k t b0 (o0+14) s0.1.1.2 b0 (o0+1) s0.1.1.1 r3 hg_r3) mv_X7_44 hl [0, 3, 4, 5] [2, 1] 4 ⟨rfl, rfl⟩ ⟨Nat.le_of_ble_eq_true rfl, Nat.le_of_ble_eq_true rfl⟩ rfl rfl rfl rfl rfl rfl rfl (Nat.le_of_ble_eq_true rfl) dX7_setSecond_30 (fun H locs hP hD hS => ?_)
      have hP : va_P D vwCl [[((b0 o0), .inr (7, [.ref (b0 (o0+1)), .ref (b0 (o0+14)), .ref (b0 (o0+81)), .ref (b0 (o0+85)), .ref (b0 (o0+152))]))], W_Text k b0 (o0+81) s0.1.2.1.1.1 s0.1.2.1.1.2 s0.1.2.1.2.1 s0.1.2.1.2.2 s0.1.2.2.1.1 s0.1.2.2.1.2 s0.1.2.2.2, W_Decoder k b0 (o0+85) s0.2.1, W_State k b0 (o0+152) s0.2.2, W_History k b0 (o0+14) r3, W_State k b0 (o0+1) s0.1.1.1].flatten _ := hP
      have hD : va_D A [[((b0 o0), .inr (7, [.ref (b0 (o0+1)), .ref (b0 (o0+14)), .ref (b0 (o0+81)), .ref (b0 (o0+85)), .ref (b0 (o0+152))]))], W_Text k b0 (o0+81) s0.1.2.1.1.1 s0.1.2.1.1.2 s0.1.2.1.2.1 s0.1.2.1.2.2 s0.1.2.2.1.1 s0.1.2.2.1.2 s0.1.2.2.2, W_Decoder k b0 (o0+85) s0.2.1, W_State k b0 (o0+152) s0.2.2, W_History k b0 (o0+14) r3, W_State k b0 (o0+1) s0.1.1.1].flatten := hD
      refine lv_aload_n hx hb dX7_setSecond_33 rfl (lv_at hl 0 rfl) ?_
      refine kget (v := .ref (b0 (o0+1))) X hP ff_X7_12 0 rfl rfl dX7_setSecond_34 ?_
      refine kget (v := .ref (b0 (o0+2))) X hP ff_X7_48 152 rfl rfl dX7_setSecond_37 ?_
      refine kget (v := .int s0.1.1.1.1.1.1.2.1.1) X hP ff_X7_67 153 rfl rfl dX7_setSecond_40 ?_
      refine lv_istore_n (lv' := [(3, .int s0.1.1.1.1.1.1.2.1.1), (0, .ref (b0 o0)), (1, .int x1), (2, .int x2)]) hx hb dX7_setSecond_43 rfl hl (by decide) rfl (fun ls hl => ?_)
      refine lv_aload_n hx hb dX7_setSecond_44 rfl (lv_at hl 1 rfl) ?_
      refine kget (v := .ref (b0 (o0+1))) X hP ff_X7_12 0 rfl rfl dX7_setSecond_45 ?_
      refine kget (v := .ref (b0 (o0+2))) X hP ff_X7_48 152 rfl rfl dX7_setSecond_48 ?_
      refine lv_iload_n hx hb dX7_setSecond_51 rfl (lv_at hl 2 rfl) ?_
      refine kputi (v := x1) X hP hD hS fp_X7_67 153 rfl (Nat.le_of_ble_eq_true rfl) dX7_setSecond_52 (fun H locs hP hD hS => ?_)
      have hP : va_P D vwCl [[((b0 o0), .inr (7, [.ref (b0 (o0+1)), .ref (b0 (o0+14)), .ref (b0 (o0+81)), .ref (b0 (o0+85)), .ref (b0 (o0+152))]))], W_Text k b0 (o0+81) s0.1.2.1.1.1 s0.1.2.1.1.2 s0.1.2.1.2.1 s0.1.2.1.2.2 s0.1.2.2.1.1 s0.1.2.2.1.2 s0.1.2.2.2, W_Decoder k b0 (o0+85) s0.2.1, W_State k b0 (o0+152) s0.2.2, W_History k b0 (o0+14) r3, W_State k b0 (o0+1) (u_State_form s0.1.1.1 (u_Form_countersAbove s0.1.1.1.1.1.1 x1))].flatten _ := hP
      have hD : va_D A [[((b0 o0), .inr (7, [.ref (b0 (o0+1)), .ref (b0 (o0+14)), .ref (b0 (o0+81)), .ref (b0 (o0+85)), .ref (b0 (o0+152))]))], W_Text k b0 (o0+81) s0.1.2.1.1.1 s0.1.2.1.1.2 s0.1.2.1.2.1 s0.1.2.1.2.2 s0.1.2.2.1.1 s0.1.2.2.1.2 s0.1.2.2.2, W_Decoder k b0 (o0+85) s0.2.1, W_State k b0 (o0+152) s0.2.2, W_History k b0 (o0+14) r3, W_State k b0 (o0+1) (u_State_form s0.1.1.1 (u_Form_countersAbove s0.1.1.1.1.1.1 x1))].flatten := hD
      refine lv_aload_n hx hb dX7_setSecond_55 rfl (lv_at hl 1 rfl) ?_
      refine kget (v := .ref (b0 (o0+1))) X hP ff_X7_12 0 rfl rfl dX7_setSecond_56 ?_
      refine kget (v := .ref (b0 (o0+2))) X hP ff_X7_48 152 rfl rfl dX7_setSecond_59 ?_
      refine lv_iload_n hx hb dX7_setSecond_62 rfl (lv_at hl 3 rfl) ?_
      refine kputi (v := x2) X hP hD hS fp_X7_70 153 rfl (Nat.le_of_ble_eq_true rfl) dX7_setSecond_63 (fun H locs hP hD hS => ?_)
      have hP : va_P D vwCl [[((b0 o0), .inr (7, [.ref (b0 (o0+1)), .ref (b0 (o0+14)), .ref (b0 (o0+81)), .ref (b0 (o0+85)), .ref (b0 (o0+152))]))], W_Text k b0 (o0+81) s0.1.2.1.1.1 s0.1.2.1.1.2 s0.1.2.1.2.1 s0.1.2.1.2.2 s0.1.2.2.1.1 s0.1.2.2.1.2 s0.1.2.2.2, W_Decoder k b0 (o0+85) s0.2.1, W_State k b0 (o0+152) s0.2.2, W_History k b0 (o0+14) r3, W_State k b0 (o0+1) (u_State_form s0.1.1.1 (u_Form_functionsAbove (u_Form_countersAbove s0.1.1.1.1.1.1 x1) x2))].flatten _ := hP
      have hD : va_D A [[((b0 o0), .inr (7, [.ref (b0 (o0+1)), .ref (b0 (o0+14)), .ref (b0 (o0+81)), .ref (b0 (o0+85)), .ref (b0 (o0+152))]))], W_Text k b0 (o0+81) s0.1.2.1.1.1 s0.1.2.1.1.2 s0.1.2.1.2.1 s0.1.2.1.2.2 s0.1.2.2.1.1 s0.1.2.2.1.2 s0.1.2.2.2, W_Decoder k b0 (o0+85) s0.2.1, W_State k b0 (o0+152) s0.2.2, W_History k b0 (o0+14) r3, W_State k b0 (o0+1) (u_State_form s0.1.1.1 (u_Form_functionsAbove (u_Form_countersAbove s0.1.1.1.1.1.1 x1) x2))].flatten := hD
      refine lv_aload_n hx hb dX7_setSecond_66 rfl (lv_at hl 1 rfl) ?_
      refine kget (v := .ref (b0 (o0+1))) X hP ff_X7_12 0 rfl rfl dX7_setSecond_67 ?_
      refine kcV (bs := [[((b0 o0), .inr (7, [.ref (b0 (o0+1)), .ref (b0 (o0+14)), .ref (b0 (o0+81)), .ref (b0 (o0+85)), .ref (b0 (o0+152))]))], W_Text k b0 (o0+81) s0.1.2.1.1.1 s0.1.2.1.1.2 s0.1.2.1.2.1 s0.1.2.1.2.2 s0.1.2.2.1.1 s0.1.2.2.1.2 s0.1.2.2.2, W_Decoder k b0 (o0+85) s0.2.1, W_State k b0 (o0+152) s0.2.2, W_History k b0 (o0+14) r3, W_State k b0 (o0+1) (u_State_form s0.1.1.1 (u_Form_functionsAbove (u_Form_countersAbove s0.1.1.1.1.1.1 x1) x2))]) (br := [[((b0 o0), .inr (7, [.ref (b0 (o0+1)), .ref (b0 (o0+14)), .ref (b0 (o0+81)), .ref (b0 (o0+85)), .ref (b0 (o0+152))]))], W_Text k b0 (o0+81) s0.1.2.1.1.1 s0.1.2.1.1.2 s0.1.2.1.2.1 s0.1.2.1.2.2 s0.1.2.2.1.1 s0.1.2.2.1.2 s0.1.2.2.2, W_Decoder k b0 (o0+85) s0.2.1, W_State k b0 (o0+152) s0.2.2, W_History k b0 (o0+14) r3]) (bc := [W_State k b0 (o0+1) (u_State_form s0.1.1.1 (u_Form_functionsAbove (u_Form_countersAbove s0.1.1.1.1.1.1 x1) x2))]) (bc' := [W_State k b0 (o0+1) (u_State_second (u_State_first (u_State_form s0.1.1.1 (u_Form_functionsAbove (u_Form_countersAbove s0.1.1.1.1.1.1 x1) x2)) ((fun _ => 0, fun _ => 0), (fun _ => 0, fun _ => 0))) ((fun _ => 0, fun _ => 0), (fun _ => 0, fun _ => 0)))]) X hP hD hS (c_State_empty l D k t b0 (o0+1) (u_State_form s0.1.1.1 (u_Form_functionsAbove (u_Form_countersAbove s0.1.1.1.1.1.1 x1) x2))) mv_X7_64 hl [0, 1, 2, 3, 4] [5] 5 ⟨rfl, rfl⟩ ⟨Nat.le_of_ble_eq_true rfl, Nat.le_of_ble_eq_true rfl⟩ rfl rfl rfl rfl rfl rfl rfl (Nat.le_of_ble_eq_true rfl) dX7_setSecond_70 (fun H locs hP hD hS => ?_)
      have hP : va_P D vwCl [[((b0 o0), .inr (7, [.ref (b0 (o0+1)), .ref (b0 (o0+14)), .ref (b0 (o0+81)), .ref (b0 (o0+85)), .ref (b0 (o0+152))]))], W_Text k b0 (o0+81) s0.1.2.1.1.1 s0.1.2.1.1.2 s0.1.2.1.2.1 s0.1.2.1.2.2 s0.1.2.2.1.1 s0.1.2.2.1.2 s0.1.2.2.2, W_Decoder k b0 (o0+85) s0.2.1, W_State k b0 (o0+152) s0.2.2, W_History k b0 (o0+14) r3, W_State k b0 (o0+1) (u_State_second (u_State_first (u_State_form s0.1.1.1 (u_Form_functionsAbove (u_Form_countersAbove s0.1.1.1.1.1.1 x1) x2)) ((fun _ => 0, fun _ => 0), (fun _ => 0, fun _ => 0))) ((fun _ => 0, fun _ => 0), (fun _ => 0, fun _ => 0)))].flatten _ := hP
      have hD : va_D A [[((b0 o0), .inr (7, [.ref (b0 (o0+1)), .ref (b0 (o0+14)), .ref (b0 (o0+81)), .ref (b0 (o0+85)), .ref (b0 (o0+152))]))], W_Text k b0 (o0+81) s0.1.2.1.1.1 s0.1.2.1.1.2 s0.1.2.1.2.1 s0.1.2.1.2.2 s0.1.2.2.1.1 s0.1.2.2.1.2 s0.1.2.2.2, W_Decoder k b0 (o0+85) s0.2.1, W_State k b0 (o0+152) s0.2.2, W_History k b0 (o0+14) r3, W_State k b0 (o0+1) (u_State_second (u_State_first (u_State_form s0.1.1.1 (u_Form_functionsAbove (u_Form_countersAbove s0.1.1.1.1.1.1 x1) x2)) ((fun _ => 0, fun _ => 0), (fun _ => 0, fun _ => 0))) ((fun _ => 0, fun _ => 0), (fun _ => 0, fun _ => 0)))].flatten := hD
      refine lv_iload_n hx hb dX7_setSecond_73 rfl (lv_at hl 0 rfl) ?_
      obtain ⟨hP, hD⟩ := B_perm (br := [[((b0 o0), .inr (7, [.ref (b0 (o0+1)), .ref (b0 (o0+14)), .ref (b0 (o0+81)), .ref (b0 (o0+85)), .ref (b0 (o0+152))]))], W_State k b0 (o0+1) (u_State_second (u_State_first (u_State_form s0.1.1.1 (u_Form_functionsAbove (u_Form_countersAbove s0.1.1.1.1.1.1 x1) x2)) ((fun _ => 0, fun _ => 0), (fun _ => 0, fun _ => 0))) ((fun _ => 0, fun _ => 0), (fun _ => 0, fun _ => 0))), W_History k b0 (o0+14) r3, W_Text k b0 (o0+81) s0.1.2.1.1.1 s0.1.2.1.1.2 s0.1.2.1.2.1 s0.1.2.1.2.2 s0.1.2.2.1.1 s0.1.2.2.1.2 s0.1.2.2.2, W_Decoder k b0 (o0+85) s0.2.1, W_State k b0 (o0+152) s0.2.2]) hP hD [0, 5, 4, 1, 2, 3] rfl rfl
      have hP : va_P D vwCl [W_CB k b0 o0 (u_CB_history (u_CB_now s0 (u_State_second (u_State_first (u_State_form s0.1.1.1 (u_Form_functionsAbove (u_Form_countersAbove s0.1.1.1.1.1.1 x1) x2)) ((fun _ => 0, fun _ => 0), (fun _ => 0, fun _ => 0))) ((fun _ => 0, fun _ => 0), (fun _ => 0, fun _ => 0)))) r3)].flatten _ := hP
      have hD : va_D A [W_CB k b0 o0 (u_CB_history (u_CB_now s0 (u_State_second (u_State_first (u_State_form s0.1.1.1 (u_Form_functionsAbove (u_Form_countersAbove s0.1.1.1.1.1.1 x1) x2)) ((fun _ => 0, fun _ => 0), (fun _ => 0, fun _ => 0))) ((fun _ => 0, fun _ => 0), (fun _ => 0, fun _ => 0)))) r3)].flatten := hD
      have hf := Option.some.inj hf
      subst hf
      exact kiret (v := s0.1.1.1.1.1.1.2.1.1) X hP hD hS dX7_setSecond_74
    · have hf := ofpos hf hc
      refine lv_bipush (v := (-3)) hx hb dX7_setSecond_19 (by decide) ?_
      have hf := Option.some.inj hf
      subst hf
      exact kiret (v := (-3)) X hP hD hS dX7_setSecond_21
/-! CB_setRounds: public int setRounds(int); -/
abbrev rm_CB_setRounds : Room := ({ frames := 4, cells := 0, slots := 0, locals := 123 } : Room)
def f_CB_setRounds (x1 : Int32) (v_now : StateS) (v_history : HistoryS) : Option (Int32 × StateS × HistoryS) := (f_CB_isFrom 0 x1 60).bind (fun r1 => if r1 = 0 then some ((-3), v_now, v_history) else (f_History_push v_history v_now).bind (fun r2 => some (v_now.1.1.1.2.2, u_State_form v_now (u_Form_rounds v_now.1.1.1 x1), r2)))
abbrev Q_CB_setRounds (below : List Frame) (D : va_G) (k : Nat → ClassId) (A : Nat → Prop) (args : Array Value) (s : State) (b0 : Nat → Nat) (o0 : Nat) (s0 : CBS) (out : Int32 × StateS × HistoryS) : State → Prop := MQ below (QW D k A (some (.int out.1)) [W_CB k b0 o0 (u_CB_history (u_CB_now s0 out.2.1) out.2.2)].flatten) args s 0 0 A
set_option maxRecDepth 100000 in
set_option maxHeartbeats 1000000 in
theorem c_CB_setRounds (l : Launch) (D : va_G) (k : Nat → ClassId) (t : Nat → Nat) (b0 : Nat → Nat) (o0 : Nat) (s0 : CBS) (x1 : Int32) (out : Int32 × StateS × HistoryS) (hf : f_CB_setRounds x1 s0.1.1.1 s0.1.1.2 = some out) : CT l D k t yX7_setRounds cX7_setRounds 3 (some .int) rm_CB_setRounds [.ref (b0 o0), .int x1] [W_CB k b0 o0 s0].flatten (some (.int out.1)) [W_CB k b0 o0 (u_CB_history (u_CB_now s0 out.2.1) out.2.2)].flatten := by
  refine kofW (by decide) (Nat.le_of_ble_eq_true rfl) ?_
  intro p e s m below meth c A ls X hP hD hS hl
  have N : Nat := 0
  have hx := X.1.1
  have hb := X.1.2.1
  have hml := X.1.2.2.1
  have hown := X.1.2.2.2.1
  have hts := X.1.2.2.2.2
  have hl : lv_has ls 3 [(0, .ref (b0 o0)), (1, .int x1)] := hl
  rw [f_CB_setRounds] at hf
  refine lv_iconst (v := 0) hx hb dX7_setRounds_0 (by decide) ?_
  refine lv_iload_n hx hb dX7_setRounds_1 rfl (lv_at hl 1 rfl) ?_
  refine lv_bipush (v := 60) hx hb dX7_setRounds_2 (by decide) ?_
  obtain ⟨r1, hg_r1, hf⟩ := ofbind hf
  refine kcS (bs := [W_CB k b0 o0 s0]) (br := [W_CB k b0 o0 s0]) (bc := []) (bc' := []) X hP hD hS (c_CB_isFrom l D k t 0 x1 60 r1 hg_r1) ms_X7_40 hl [0] [] ⟨rfl, rfl⟩ ⟨Nat.le_of_ble_eq_true rfl, Nat.le_of_ble_eq_true rfl⟩ rfl rfl rfl rfl (Nat.le_of_ble_eq_true rfl) dX7_setRounds_4 (fun H locs hP hD hS => ?_)
  have hP : va_P D vwCl [W_CB k b0 o0 s0].flatten _ := hP
  have hD : va_D A [W_CB k b0 o0 s0].flatten := hD
  refine lv_if_ne (tgt := 13) hx hb dX7_setRounds_7 (by decide) (fun hc => ?_) (fun hc => ?_)
  · have hf := ofneg hf hc
    refine lv_aload_n hx hb dX7_setRounds_13 rfl (lv_at hl 0 rfl) ?_
    refine kget (v := .ref (b0 (o0+14))) X hP ff_X7_19 0 rfl rfl dX7_setRounds_14 ?_
    refine lv_aload_n hx hb dX7_setRounds_17 rfl (lv_at hl 0 rfl) ?_
    refine kget (v := .ref (b0 (o0+1))) X hP ff_X7_12 0 rfl rfl dX7_setRounds_18 ?_
    obtain ⟨r2, hg_r2, hf⟩ := ofbind hf
    have hP : va_P D vwCl [[((b0 o0), .inr (7, [.ref (b0 (o0+1)), .ref (b0 (o0+14)), .ref (b0 (o0+81)), .ref (b0 (o0+85)), .ref (b0 (o0+152))]))], W_State k b0 (o0+1) s0.1.1.1, W_History k b0 (o0+14) s0.1.1.2, W_Text k b0 (o0+81) s0.1.2.1.1.1 s0.1.2.1.1.2 s0.1.2.1.2.1 s0.1.2.1.2.2 s0.1.2.2.1.1 s0.1.2.2.1.2 s0.1.2.2.2, W_Decoder k b0 (o0+85) s0.2.1, W_State k b0 (o0+152) s0.2.2].flatten _ := hP
    have hD : va_D A [[((b0 o0), .inr (7, [.ref (b0 (o0+1)), .ref (b0 (o0+14)), .ref (b0 (o0+81)), .ref (b0 (o0+85)), .ref (b0 (o0+152))]))], W_State k b0 (o0+1) s0.1.1.1, W_History k b0 (o0+14) s0.1.1.2, W_Text k b0 (o0+81) s0.1.2.1.1.1 s0.1.2.1.1.2 s0.1.2.1.2.1 s0.1.2.1.2.2 s0.1.2.2.1.1 s0.1.2.2.1.2 s0.1.2.2.2, W_Decoder k b0 (o0+85) s0.2.1, W_State k b0 (o0+152) s0.2.2].flatten := hD
    refine kcV (bs := [[((b0 o0), .inr (7, [.ref (b0 (o0+1)), .ref (b0 (o0+14)), .ref (b0 (o0+81)), .ref (b0 (o0+85)), .ref (b0 (o0+152))]))], W_State k b0 (o0+1) s0.1.1.1, W_History k b0 (o0+14) s0.1.1.2, W_Text k b0 (o0+81) s0.1.2.1.1.1 s0.1.2.1.1.2 s0.1.2.1.2.1 s0.1.2.1.2.2 s0.1.2.2.1.1 s0.1.2.2.1.2 s0.1.2.2.2, W_Decoder k b0 (o0+85) s0.2.1, W_State k b0 (o0+152) s0.2.2]) (br := [[((b0 o0), .inr (7, [.ref (b0 (o0+1)), .ref (b0 (o0+14)), .ref (b0 (o0+81)), .ref (b0 (o0+85)), .ref (b0 (o0+152))]))], W_Text k b0 (o0+81) s0.1.2.1.1.1 s0.1.2.1.1.2 s0.1.2.1.2.1 s0.1.2.1.2.2 s0.1.2.2.1.1 s0.1.2.2.1.2 s0.1.2.2.2, W_Decoder k b0 (o0+85) s0.2.1, W_State k b0 (o0+152) s0.2.2]) (bc := [W_History k b0 (o0+14) s0.1.1.2, W_State k b0 (o0+1) s0.1.1.1]) (bc' := [W_History k b0 (o0+14) r2, W_State k b0 (o0+1) s0.1.1.1]) X hP hD hS (c_History_push l D k t b0 (o0+14) s0.1.1.2 b0 (o0+1) s0.1.1.1 r2 hg_r2) mv_X7_44 hl [0, 3, 4, 5] [2, 1] 4 ⟨rfl, rfl⟩ ⟨Nat.le_of_ble_eq_true rfl, Nat.le_of_ble_eq_true rfl⟩ rfl rfl rfl rfl rfl rfl rfl (Nat.le_of_ble_eq_true rfl) dX7_setRounds_21 (fun H locs hP hD hS => ?_)
    have hP : va_P D vwCl [[((b0 o0), .inr (7, [.ref (b0 (o0+1)), .ref (b0 (o0+14)), .ref (b0 (o0+81)), .ref (b0 (o0+85)), .ref (b0 (o0+152))]))], W_Text k b0 (o0+81) s0.1.2.1.1.1 s0.1.2.1.1.2 s0.1.2.1.2.1 s0.1.2.1.2.2 s0.1.2.2.1.1 s0.1.2.2.1.2 s0.1.2.2.2, W_Decoder k b0 (o0+85) s0.2.1, W_State k b0 (o0+152) s0.2.2, W_History k b0 (o0+14) r2, W_State k b0 (o0+1) s0.1.1.1].flatten _ := hP
    have hD : va_D A [[((b0 o0), .inr (7, [.ref (b0 (o0+1)), .ref (b0 (o0+14)), .ref (b0 (o0+81)), .ref (b0 (o0+85)), .ref (b0 (o0+152))]))], W_Text k b0 (o0+81) s0.1.2.1.1.1 s0.1.2.1.1.2 s0.1.2.1.2.1 s0.1.2.1.2.2 s0.1.2.2.1.1 s0.1.2.2.1.2 s0.1.2.2.2, W_Decoder k b0 (o0+85) s0.2.1, W_State k b0 (o0+152) s0.2.2, W_History k b0 (o0+14) r2, W_State k b0 (o0+1) s0.1.1.1].flatten := hD
    refine lv_aload_n hx hb dX7_setRounds_24 rfl (lv_at hl 0 rfl) ?_
    refine kget (v := .ref (b0 (o0+1))) X hP ff_X7_12 0 rfl rfl dX7_setRounds_25 ?_
    refine kget (v := .ref (b0 (o0+2))) X hP ff_X7_48 152 rfl rfl dX7_setRounds_28 ?_
    refine kget (v := .int s0.1.1.1.1.1.1.2.2) X hP ff_X7_73 153 rfl rfl dX7_setRounds_31 ?_
    refine lv_istore_n (lv' := [(2, .int s0.1.1.1.1.1.1.2.2), (0, .ref (b0 o0)), (1, .int x1)]) hx hb dX7_setRounds_34 rfl hl (by decide) rfl (fun ls hl => ?_)
    refine lv_aload_n hx hb dX7_setRounds_35 rfl (lv_at hl 1 rfl) ?_
    refine kget (v := .ref (b0 (o0+1))) X hP ff_X7_12 0 rfl rfl dX7_setRounds_36 ?_
    refine kget (v := .ref (b0 (o0+2))) X hP ff_X7_48 152 rfl rfl dX7_setRounds_39 ?_
    refine lv_iload_n hx hb dX7_setRounds_42 rfl (lv_at hl 2 rfl) ?_
    refine kputi (v := x1) X hP hD hS fp_X7_73 153 rfl (Nat.le_of_ble_eq_true rfl) dX7_setRounds_43 (fun H locs hP hD hS => ?_)
    have hP : va_P D vwCl [[((b0 o0), .inr (7, [.ref (b0 (o0+1)), .ref (b0 (o0+14)), .ref (b0 (o0+81)), .ref (b0 (o0+85)), .ref (b0 (o0+152))]))], W_Text k b0 (o0+81) s0.1.2.1.1.1 s0.1.2.1.1.2 s0.1.2.1.2.1 s0.1.2.1.2.2 s0.1.2.2.1.1 s0.1.2.2.1.2 s0.1.2.2.2, W_Decoder k b0 (o0+85) s0.2.1, W_State k b0 (o0+152) s0.2.2, W_History k b0 (o0+14) r2, W_State k b0 (o0+1) (u_State_form s0.1.1.1 (u_Form_rounds s0.1.1.1.1.1.1 x1))].flatten _ := hP
    have hD : va_D A [[((b0 o0), .inr (7, [.ref (b0 (o0+1)), .ref (b0 (o0+14)), .ref (b0 (o0+81)), .ref (b0 (o0+85)), .ref (b0 (o0+152))]))], W_Text k b0 (o0+81) s0.1.2.1.1.1 s0.1.2.1.1.2 s0.1.2.1.2.1 s0.1.2.1.2.2 s0.1.2.2.1.1 s0.1.2.2.1.2 s0.1.2.2.2, W_Decoder k b0 (o0+85) s0.2.1, W_State k b0 (o0+152) s0.2.2, W_History k b0 (o0+14) r2, W_State k b0 (o0+1) (u_State_form s0.1.1.1 (u_Form_rounds s0.1.1.1.1.1.1 x1))].flatten := hD
    refine lv_iload_n hx hb dX7_setRounds_46 rfl (lv_at hl 0 rfl) ?_
    obtain ⟨hP, hD⟩ := B_perm (br := [[((b0 o0), .inr (7, [.ref (b0 (o0+1)), .ref (b0 (o0+14)), .ref (b0 (o0+81)), .ref (b0 (o0+85)), .ref (b0 (o0+152))]))], W_State k b0 (o0+1) (u_State_form s0.1.1.1 (u_Form_rounds s0.1.1.1.1.1.1 x1)), W_History k b0 (o0+14) r2, W_Text k b0 (o0+81) s0.1.2.1.1.1 s0.1.2.1.1.2 s0.1.2.1.2.1 s0.1.2.1.2.2 s0.1.2.2.1.1 s0.1.2.2.1.2 s0.1.2.2.2, W_Decoder k b0 (o0+85) s0.2.1, W_State k b0 (o0+152) s0.2.2]) hP hD [0, 5, 4, 1, 2, 3] rfl rfl
    have hP : va_P D vwCl [W_CB k b0 o0 (u_CB_history (u_CB_now s0 (u_State_form s0.1.1.1 (u_Form_rounds s0.1.1.1.1.1.1 x1))) r2)].flatten _ := hP
    have hD : va_D A [W_CB k b0 o0 (u_CB_history (u_CB_now s0 (u_State_form s0.1.1.1 (u_Form_rounds s0.1.1.1.1.1.1 x1))) r2)].flatten := hD
    have hf := Option.some.inj hf
    subst hf
    exact kiret (v := s0.1.1.1.1.1.1.2.2) X hP hD hS dX7_setRounds_47
  · have hf := ofpos hf hc
    refine lv_bipush (v := (-3)) hx hb dX7_setRounds_10 (by decide) ?_
    have hf := Option.some.inj hf
    subst hf
    exact kiret (v := (-3)) X hP hD hS dX7_setRounds_12
/-! CB_form: public int form(int); -/
abbrev rm_CB_form : Room := ({ frames := 1, cells := 0, slots := 0, locals := 22 } : Room)
def f_CB_form (x1 : Int32) (v_now_form_counters : Int32) (v_now_form_bits : Int32) (v_now_form_functions : Int32) (v_now_form_countersAbove : Int32) (v_now_form_functionsAbove : Int32) (v_now_form_rounds : Int32) (v_now_flows : Int32) : Option (Int32) := (f_CB_isFrom 0 x1 6).bind (fun r1 => if r1 = 0 then some (-3) else (f_State_formNumber x1 v_now_form_counters v_now_form_bits v_now_form_functions v_now_form_countersAbove v_now_form_functionsAbove v_now_form_rounds v_now_flows).bind (fun r2 => some r2))
abbrev Q_CB_form (below : List Frame) (D : va_G) (k : Nat → ClassId) (A : Nat → Prop) (args : Array Value) (s : State) (b0 : Nat → Nat) (o0 : Nat) (s0 : CBS) (out : Int32) : State → Prop := MQ below (QW D k A (some (.int out)) [W_CB k b0 o0 s0].flatten) args s 0 0 A
set_option maxRecDepth 100000 in
set_option maxHeartbeats 1000000 in
theorem c_CB_form (l : Launch) (D : va_G) (k : Nat → ClassId) (t : Nat → Nat) (b0 : Nat → Nat) (o0 : Nat) (s0 : CBS) (x1 : Int32) (out : Int32) (hf : f_CB_form x1 s0.1.1.1.1.1.1.1.1.1 s0.1.1.1.1.1.1.1.1.2 s0.1.1.1.1.1.1.1.2 s0.1.1.1.1.1.1.2.1.1 s0.1.1.1.1.1.1.2.1.2 s0.1.1.1.1.1.1.2.2 s0.1.1.1.1.1.2 = some out) : CT l D k t yX7_form cX7_form 2 (some .int) rm_CB_form [.ref (b0 o0), .int x1] [W_CB k b0 o0 s0].flatten (some (.int out)) [W_CB k b0 o0 s0].flatten := by
  refine kofW (by decide) (Nat.le_of_ble_eq_true rfl) ?_
  intro p e s m below meth c A ls X hP hD hS hl
  have N : Nat := 0
  have hx := X.1.1
  have hb := X.1.2.1
  have hml := X.1.2.2.1
  have hown := X.1.2.2.2.1
  have hts := X.1.2.2.2.2
  have hl : lv_has ls 2 [(0, .ref (b0 o0)), (1, .int x1)] := hl
  rw [f_CB_form] at hf
  refine lv_iconst (v := 0) hx hb dX7_form_0 (by decide) ?_
  refine lv_iload_n hx hb dX7_form_1 rfl (lv_at hl 1 rfl) ?_
  refine lv_bipush (v := 6) hx hb dX7_form_2 (by decide) ?_
  obtain ⟨r1, hg_r1, hf⟩ := ofbind hf
  refine kcS (bs := [W_CB k b0 o0 s0]) (br := [W_CB k b0 o0 s0]) (bc := []) (bc' := []) X hP hD hS (c_CB_isFrom l D k t 0 x1 6 r1 hg_r1) ms_X7_40 hl [0] [] ⟨rfl, rfl⟩ ⟨Nat.le_of_ble_eq_true rfl, Nat.le_of_ble_eq_true rfl⟩ rfl rfl rfl rfl (Nat.le_of_ble_eq_true rfl) dX7_form_4 (fun H locs hP hD hS => ?_)
  have hP : va_P D vwCl [W_CB k b0 o0 s0].flatten _ := hP
  have hD : va_D A [W_CB k b0 o0 s0].flatten := hD
  refine lv_if_eq (tgt := 21) hx hb dX7_form_7 (by decide) (fun hc => ?_) (fun hc => ?_)
  · have hf := ofpos hf hc
    refine lv_bipush (v := (-3)) hx hb dX7_form_21 (by decide) ?_
    have hf := Option.some.inj hf
    subst hf
    exact kiret (v := (-3)) X hP hD hS dX7_form_23
  · have hf := ofneg hf hc
    refine lv_aload_n hx hb dX7_form_10 rfl (lv_at hl 0 rfl) ?_
    refine kget (v := .ref (b0 (o0+1))) X hP ff_X7_12 0 rfl rfl dX7_form_11 ?_
    refine lv_iload_n hx hb dX7_form_14 rfl (lv_at hl 1 rfl) ?_
    obtain ⟨r2, hg_r2, hf⟩ := ofbind hf
    have hP : va_P D vwCl [[((b0 o0), .inr (7, [.ref (b0 (o0+1)), .ref (b0 (o0+14)), .ref (b0 (o0+81)), .ref (b0 (o0+85)), .ref (b0 (o0+152))]))], W_State k b0 (o0+1) s0.1.1.1, W_History k b0 (o0+14) s0.1.1.2, W_Text k b0 (o0+81) s0.1.2.1.1.1 s0.1.2.1.1.2 s0.1.2.1.2.1 s0.1.2.1.2.2 s0.1.2.2.1.1 s0.1.2.2.1.2 s0.1.2.2.2, W_Decoder k b0 (o0+85) s0.2.1, W_State k b0 (o0+152) s0.2.2].flatten _ := hP
    have hD : va_D A [[((b0 o0), .inr (7, [.ref (b0 (o0+1)), .ref (b0 (o0+14)), .ref (b0 (o0+81)), .ref (b0 (o0+85)), .ref (b0 (o0+152))]))], W_State k b0 (o0+1) s0.1.1.1, W_History k b0 (o0+14) s0.1.1.2, W_Text k b0 (o0+81) s0.1.2.1.1.1 s0.1.2.1.1.2 s0.1.2.1.2.1 s0.1.2.1.2.2 s0.1.2.2.1.1 s0.1.2.2.1.2 s0.1.2.2.2, W_Decoder k b0 (o0+85) s0.2.1, W_State k b0 (o0+152) s0.2.2].flatten := hD
    refine kcV (bs := [[((b0 o0), .inr (7, [.ref (b0 (o0+1)), .ref (b0 (o0+14)), .ref (b0 (o0+81)), .ref (b0 (o0+85)), .ref (b0 (o0+152))]))], W_State k b0 (o0+1) s0.1.1.1, W_History k b0 (o0+14) s0.1.1.2, W_Text k b0 (o0+81) s0.1.2.1.1.1 s0.1.2.1.1.2 s0.1.2.1.2.1 s0.1.2.1.2.2 s0.1.2.2.1.1 s0.1.2.2.1.2 s0.1.2.2.2, W_Decoder k b0 (o0+85) s0.2.1, W_State k b0 (o0+152) s0.2.2]) (br := [[((b0 o0), .inr (7, [.ref (b0 (o0+1)), .ref (b0 (o0+14)), .ref (b0 (o0+81)), .ref (b0 (o0+85)), .ref (b0 (o0+152))]))], W_History k b0 (o0+14) s0.1.1.2, W_Text k b0 (o0+81) s0.1.2.1.1.1 s0.1.2.1.1.2 s0.1.2.1.2.1 s0.1.2.1.2.2 s0.1.2.2.1.1 s0.1.2.2.1.2 s0.1.2.2.2, W_Decoder k b0 (o0+85) s0.2.1, W_State k b0 (o0+152) s0.2.2]) (bc := [W_State k b0 (o0+1) s0.1.1.1]) (bc' := [W_State k b0 (o0+1) s0.1.1.1]) X hP hD hS (c_State_formNumber l D k t b0 (o0+1) s0.1.1.1 x1 r2 hg_r2) mv_X7_76 hl [0, 2, 3, 4, 5] [1] 5 ⟨rfl, rfl⟩ ⟨Nat.le_of_ble_eq_true rfl, Nat.le_of_ble_eq_true rfl⟩ rfl rfl rfl rfl rfl rfl rfl (Nat.le_of_ble_eq_true rfl) dX7_form_15 (fun H locs hP hD hS => ?_)
    have hP : va_P D vwCl [[((b0 o0), .inr (7, [.ref (b0 (o0+1)), .ref (b0 (o0+14)), .ref (b0 (o0+81)), .ref (b0 (o0+85)), .ref (b0 (o0+152))]))], W_History k b0 (o0+14) s0.1.1.2, W_Text k b0 (o0+81) s0.1.2.1.1.1 s0.1.2.1.1.2 s0.1.2.1.2.1 s0.1.2.1.2.2 s0.1.2.2.1.1 s0.1.2.2.1.2 s0.1.2.2.2, W_Decoder k b0 (o0+85) s0.2.1, W_State k b0 (o0+152) s0.2.2, W_State k b0 (o0+1) s0.1.1.1].flatten _ := hP
    have hD : va_D A [[((b0 o0), .inr (7, [.ref (b0 (o0+1)), .ref (b0 (o0+14)), .ref (b0 (o0+81)), .ref (b0 (o0+85)), .ref (b0 (o0+152))]))], W_History k b0 (o0+14) s0.1.1.2, W_Text k b0 (o0+81) s0.1.2.1.1.1 s0.1.2.1.1.2 s0.1.2.1.2.1 s0.1.2.1.2.2 s0.1.2.2.1.1 s0.1.2.2.1.2 s0.1.2.2.2, W_Decoder k b0 (o0+85) s0.2.1, W_State k b0 (o0+152) s0.2.2, W_State k b0 (o0+1) s0.1.1.1].flatten := hD
    refine lv_goto (tgt := 23) hx hb dX7_form_18 (by decide) ?_
    obtain ⟨hP, hD⟩ := B_perm (br := [[((b0 o0), .inr (7, [.ref (b0 (o0+1)), .ref (b0 (o0+14)), .ref (b0 (o0+81)), .ref (b0 (o0+85)), .ref (b0 (o0+152))]))], W_State k b0 (o0+1) s0.1.1.1, W_History k b0 (o0+14) s0.1.1.2, W_Text k b0 (o0+81) s0.1.2.1.1.1 s0.1.2.1.1.2 s0.1.2.1.2.1 s0.1.2.1.2.2 s0.1.2.2.1.1 s0.1.2.2.1.2 s0.1.2.2.2, W_Decoder k b0 (o0+85) s0.2.1, W_State k b0 (o0+152) s0.2.2]) hP hD [0, 5, 1, 2, 3, 4] rfl rfl
    have hP : va_P D vwCl [W_CB k b0 o0 s0].flatten _ := hP
    have hD : va_D A [W_CB k b0 o0 s0].flatten := hD
    have hf := Option.some.inj hf
    subst hf
    exact kiret (v := r2) X hP hD hS dX7_form_23
/-! CB_addFlow: public int addFlow(int); -/
abbrev rm_CB_addFlow : Room := ({ frames := 4, cells := 0, slots := 0, locals := 123 } : Room)
def f_CB_addFlow (N : Nat) (x1 : Int32) (v_now : StateS) (v_history : HistoryS) : Option (Int32 × StateS × HistoryS) := (f_CB_isFrom 0 x1 999).bind (fun r1 => if r1 = 0 then some ((-3), v_now, v_history) else (f_State_find N x1 v_now.1.1.2 v_now.1.2).bind (fun r2 => if r2 = (-1) then if v_now.1.1.2 < 16 then (f_History_push v_history v_now).bind (fun r3 => (f_State_findOrAppend N x1 v_now.1.1.2 v_now.1.2).bind (fun r4 => some (r4.1, u_State_keys (u_State_flows v_now r4.2.1) r4.2.2, r3))) else some ((-5), v_now, v_history) else some ((-4), v_now, v_history)))
abbrev Q_CB_addFlow (below : List Frame) (D : va_G) (k : Nat → ClassId) (A : Nat → Prop) (args : Array Value) (s : State) (b0 : Nat → Nat) (o0 : Nat) (s0 : CBS) (out : Int32 × StateS × HistoryS) : State → Prop := MQ below (QW D k A (some (.int out.1)) [W_CB k b0 o0 (u_CB_history (u_CB_now s0 out.2.1) out.2.2)].flatten) args s 0 0 A
set_option maxRecDepth 100000 in
set_option maxHeartbeats 1000000 in
theorem c_CB_addFlow (l : Launch) (D : va_G) (k : Nat → ClassId) (t : Nat → Nat) (b0 : Nat → Nat) (o0 : Nat) (s0 : CBS) (x1 : Int32) (N : Nat) (out : Int32 × StateS × HistoryS) (hf : f_CB_addFlow N x1 s0.1.1.1 s0.1.1.2 = some out) : CT l D k t yX7_addFlow cX7_addFlow 2 (some .int) rm_CB_addFlow [.ref (b0 o0), .int x1] [W_CB k b0 o0 s0].flatten (some (.int out.1)) [W_CB k b0 o0 (u_CB_history (u_CB_now s0 out.2.1) out.2.2)].flatten := by
  refine kofW (by decide) (Nat.le_of_ble_eq_true rfl) ?_
  intro p e s m below meth c A ls X hP hD hS hl
  have hx := X.1.1
  have hb := X.1.2.1
  have hml := X.1.2.2.1
  have hown := X.1.2.2.2.1
  have hts := X.1.2.2.2.2
  have hl : lv_has ls 2 [(0, .ref (b0 o0)), (1, .int x1)] := hl
  rw [f_CB_addFlow] at hf
  refine lv_iconst (v := 0) hx hb dX7_addFlow_0 (by decide) ?_
  refine lv_iload_n hx hb dX7_addFlow_1 rfl (lv_at hl 1 rfl) ?_
  refine lv_sipush (v := 999) hx hb dX7_addFlow_2 (by decide) ?_
  obtain ⟨r1, hg_r1, hf⟩ := ofbind hf
  refine kcS (bs := [W_CB k b0 o0 s0]) (br := [W_CB k b0 o0 s0]) (bc := []) (bc' := []) X hP hD hS (c_CB_isFrom l D k t 0 x1 999 r1 hg_r1) ms_X7_40 hl [0] [] ⟨rfl, rfl⟩ ⟨Nat.le_of_ble_eq_true rfl, Nat.le_of_ble_eq_true rfl⟩ rfl rfl rfl rfl (Nat.le_of_ble_eq_true rfl) dX7_addFlow_5 (fun H locs hP hD hS => ?_)
  have hP : va_P D vwCl [W_CB k b0 o0 s0].flatten _ := hP
  have hD : va_D A [W_CB k b0 o0 s0].flatten := hD
  refine lv_if_ne (tgt := 14) hx hb dX7_addFlow_8 (by decide) (fun hc => ?_) (fun hc => ?_)
  · have hf := ofneg hf hc
    refine lv_aload_n hx hb dX7_addFlow_14 rfl (lv_at hl 0 rfl) ?_
    refine kget (v := .ref (b0 (o0+1))) X hP ff_X7_12 0 rfl rfl dX7_addFlow_15 ?_
    refine lv_iload_n hx hb dX7_addFlow_18 rfl (lv_at hl 1 rfl) ?_
    obtain ⟨r2, hg_r2, hf⟩ := ofbind hf
    have hP : va_P D vwCl [[((b0 o0), .inr (7, [.ref (b0 (o0+1)), .ref (b0 (o0+14)), .ref (b0 (o0+81)), .ref (b0 (o0+85)), .ref (b0 (o0+152))]))], W_State k b0 (o0+1) s0.1.1.1, W_History k b0 (o0+14) s0.1.1.2, W_Text k b0 (o0+81) s0.1.2.1.1.1 s0.1.2.1.1.2 s0.1.2.1.2.1 s0.1.2.1.2.2 s0.1.2.2.1.1 s0.1.2.2.1.2 s0.1.2.2.2, W_Decoder k b0 (o0+85) s0.2.1, W_State k b0 (o0+152) s0.2.2].flatten _ := hP
    have hD : va_D A [[((b0 o0), .inr (7, [.ref (b0 (o0+1)), .ref (b0 (o0+14)), .ref (b0 (o0+81)), .ref (b0 (o0+85)), .ref (b0 (o0+152))]))], W_State k b0 (o0+1) s0.1.1.1, W_History k b0 (o0+14) s0.1.1.2, W_Text k b0 (o0+81) s0.1.2.1.1.1 s0.1.2.1.1.2 s0.1.2.1.2.1 s0.1.2.1.2.2 s0.1.2.2.1.1 s0.1.2.2.1.2 s0.1.2.2.2, W_Decoder k b0 (o0+85) s0.2.1, W_State k b0 (o0+152) s0.2.2].flatten := hD
    refine kcV (bs := [[((b0 o0), .inr (7, [.ref (b0 (o0+1)), .ref (b0 (o0+14)), .ref (b0 (o0+81)), .ref (b0 (o0+85)), .ref (b0 (o0+152))]))], W_State k b0 (o0+1) s0.1.1.1, W_History k b0 (o0+14) s0.1.1.2, W_Text k b0 (o0+81) s0.1.2.1.1.1 s0.1.2.1.1.2 s0.1.2.1.2.1 s0.1.2.1.2.2 s0.1.2.2.1.1 s0.1.2.2.1.2 s0.1.2.2.2, W_Decoder k b0 (o0+85) s0.2.1, W_State k b0 (o0+152) s0.2.2]) (br := [[((b0 o0), .inr (7, [.ref (b0 (o0+1)), .ref (b0 (o0+14)), .ref (b0 (o0+81)), .ref (b0 (o0+85)), .ref (b0 (o0+152))]))], W_History k b0 (o0+14) s0.1.1.2, W_Text k b0 (o0+81) s0.1.2.1.1.1 s0.1.2.1.1.2 s0.1.2.1.2.1 s0.1.2.1.2.2 s0.1.2.2.1.1 s0.1.2.2.1.2 s0.1.2.2.2, W_Decoder k b0 (o0+85) s0.2.1, W_State k b0 (o0+152) s0.2.2]) (bc := [W_State k b0 (o0+1) s0.1.1.1]) (bc' := [W_State k b0 (o0+1) s0.1.1.1]) X hP hD hS (c_State_find l D k t b0 (o0+1) s0.1.1.1 x1 N r2 hg_r2) mv_X7_80 hl [0, 2, 3, 4, 5] [1] 5 ⟨rfl, rfl⟩ ⟨Nat.le_of_ble_eq_true rfl, Nat.le_of_ble_eq_true rfl⟩ rfl rfl rfl rfl rfl rfl rfl (Nat.le_of_ble_eq_true rfl) dX7_addFlow_19 (fun H locs hP hD hS => ?_)
    have hP : va_P D vwCl [[((b0 o0), .inr (7, [.ref (b0 (o0+1)), .ref (b0 (o0+14)), .ref (b0 (o0+81)), .ref (b0 (o0+85)), .ref (b0 (o0+152))]))], W_History k b0 (o0+14) s0.1.1.2, W_Text k b0 (o0+81) s0.1.2.1.1.1 s0.1.2.1.1.2 s0.1.2.1.2.1 s0.1.2.1.2.2 s0.1.2.2.1.1 s0.1.2.2.1.2 s0.1.2.2.2, W_Decoder k b0 (o0+85) s0.2.1, W_State k b0 (o0+152) s0.2.2, W_State k b0 (o0+1) s0.1.1.1].flatten _ := hP
    have hD : va_D A [[((b0 o0), .inr (7, [.ref (b0 (o0+1)), .ref (b0 (o0+14)), .ref (b0 (o0+81)), .ref (b0 (o0+85)), .ref (b0 (o0+152))]))], W_History k b0 (o0+14) s0.1.1.2, W_Text k b0 (o0+81) s0.1.2.1.1.1 s0.1.2.1.1.2 s0.1.2.1.2.1 s0.1.2.1.2.2 s0.1.2.2.1.1 s0.1.2.2.1.2 s0.1.2.2.2, W_Decoder k b0 (o0+85) s0.2.1, W_State k b0 (o0+152) s0.2.2, W_State k b0 (o0+1) s0.1.1.1].flatten := hD
    refine lv_iconst (v := (-1)) hx hb dX7_addFlow_22 (by decide) ?_
    refine lv_icmp_eq (tgt := 29) hx hb dX7_addFlow_23 (by decide) (fun hc => ?_) (fun hc => ?_)
    · have hf := ofpos hf hc
      refine lv_aload_n hx hb dX7_addFlow_29 rfl (lv_at hl 0 rfl) ?_
      refine kget (v := .ref (b0 (o0+1))) X hP ff_X7_12 0 rfl rfl dX7_addFlow_30 ?_
      refine kget (v := .int s0.1.1.1.1.1.2) X hP ff_X7_83 152 rfl rfl dX7_addFlow_33 ?_
      refine lv_bipush (v := 16) hx hb dX7_addFlow_36 (by decide) ?_
      refine lv_icmp_lt (tgt := 44) hx hb dX7_addFlow_38 (by decide) (fun hc => ?_) (fun hc => ?_)
      · have hf := ofpos hf hc
        refine lv_aload_n hx hb dX7_addFlow_44 rfl (lv_at hl 0 rfl) ?_
        refine kget (v := .ref (b0 (o0+14))) X hP ff_X7_19 0 rfl rfl dX7_addFlow_45 ?_
        refine lv_aload_n hx hb dX7_addFlow_48 rfl (lv_at hl 0 rfl) ?_
        refine kget (v := .ref (b0 (o0+1))) X hP ff_X7_12 0 rfl rfl dX7_addFlow_49 ?_
        obtain ⟨r3, hg_r3, hf⟩ := ofbind hf
        refine kcV (bs := [[((b0 o0), .inr (7, [.ref (b0 (o0+1)), .ref (b0 (o0+14)), .ref (b0 (o0+81)), .ref (b0 (o0+85)), .ref (b0 (o0+152))]))], W_History k b0 (o0+14) s0.1.1.2, W_Text k b0 (o0+81) s0.1.2.1.1.1 s0.1.2.1.1.2 s0.1.2.1.2.1 s0.1.2.1.2.2 s0.1.2.2.1.1 s0.1.2.2.1.2 s0.1.2.2.2, W_Decoder k b0 (o0+85) s0.2.1, W_State k b0 (o0+152) s0.2.2, W_State k b0 (o0+1) s0.1.1.1]) (br := [[((b0 o0), .inr (7, [.ref (b0 (o0+1)), .ref (b0 (o0+14)), .ref (b0 (o0+81)), .ref (b0 (o0+85)), .ref (b0 (o0+152))]))], W_Text k b0 (o0+81) s0.1.2.1.1.1 s0.1.2.1.1.2 s0.1.2.1.2.1 s0.1.2.1.2.2 s0.1.2.2.1.1 s0.1.2.2.1.2 s0.1.2.2.2, W_Decoder k b0 (o0+85) s0.2.1, W_State k b0 (o0+152) s0.2.2]) (bc := [W_History k b0 (o0+14) s0.1.1.2, W_State k b0 (o0+1) s0.1.1.1]) (bc' := [W_History k b0 (o0+14) r3, W_State k b0 (o0+1) s0.1.1.1]) X hP hD hS (c_History_push l D k t b0 (o0+14) s0.1.1.2 b0 (o0+1) s0.1.1.1 r3 hg_r3) mv_X7_44 hl [0, 2, 3, 4] [1, 5] 4 ⟨rfl, rfl⟩ ⟨Nat.le_of_ble_eq_true rfl, Nat.le_of_ble_eq_true rfl⟩ rfl rfl rfl rfl rfl rfl rfl (Nat.le_of_ble_eq_true rfl) dX7_addFlow_52 (fun H locs hP hD hS => ?_)
        have hP : va_P D vwCl [[((b0 o0), .inr (7, [.ref (b0 (o0+1)), .ref (b0 (o0+14)), .ref (b0 (o0+81)), .ref (b0 (o0+85)), .ref (b0 (o0+152))]))], W_Text k b0 (o0+81) s0.1.2.1.1.1 s0.1.2.1.1.2 s0.1.2.1.2.1 s0.1.2.1.2.2 s0.1.2.2.1.1 s0.1.2.2.1.2 s0.1.2.2.2, W_Decoder k b0 (o0+85) s0.2.1, W_State k b0 (o0+152) s0.2.2, W_History k b0 (o0+14) r3, W_State k b0 (o0+1) s0.1.1.1].flatten _ := hP
        have hD : va_D A [[((b0 o0), .inr (7, [.ref (b0 (o0+1)), .ref (b0 (o0+14)), .ref (b0 (o0+81)), .ref (b0 (o0+85)), .ref (b0 (o0+152))]))], W_Text k b0 (o0+81) s0.1.2.1.1.1 s0.1.2.1.1.2 s0.1.2.1.2.1 s0.1.2.1.2.2 s0.1.2.2.1.1 s0.1.2.2.1.2 s0.1.2.2.2, W_Decoder k b0 (o0+85) s0.2.1, W_State k b0 (o0+152) s0.2.2, W_History k b0 (o0+14) r3, W_State k b0 (o0+1) s0.1.1.1].flatten := hD
        refine lv_aload_n hx hb dX7_addFlow_55 rfl (lv_at hl 0 rfl) ?_
        refine kget (v := .ref (b0 (o0+1))) X hP ff_X7_12 0 rfl rfl dX7_addFlow_56 ?_
        refine lv_iload_n hx hb dX7_addFlow_59 rfl (lv_at hl 1 rfl) ?_
        obtain ⟨r4, hg_r4, hf⟩ := ofbind hf
        refine kcV (bs := [[((b0 o0), .inr (7, [.ref (b0 (o0+1)), .ref (b0 (o0+14)), .ref (b0 (o0+81)), .ref (b0 (o0+85)), .ref (b0 (o0+152))]))], W_Text k b0 (o0+81) s0.1.2.1.1.1 s0.1.2.1.1.2 s0.1.2.1.2.1 s0.1.2.1.2.2 s0.1.2.2.1.1 s0.1.2.2.1.2 s0.1.2.2.2, W_Decoder k b0 (o0+85) s0.2.1, W_State k b0 (o0+152) s0.2.2, W_History k b0 (o0+14) r3, W_State k b0 (o0+1) s0.1.1.1]) (br := [[((b0 o0), .inr (7, [.ref (b0 (o0+1)), .ref (b0 (o0+14)), .ref (b0 (o0+81)), .ref (b0 (o0+85)), .ref (b0 (o0+152))]))], W_Text k b0 (o0+81) s0.1.2.1.1.1 s0.1.2.1.1.2 s0.1.2.1.2.1 s0.1.2.1.2.2 s0.1.2.2.1.1 s0.1.2.2.1.2 s0.1.2.2.2, W_Decoder k b0 (o0+85) s0.2.1, W_State k b0 (o0+152) s0.2.2, W_History k b0 (o0+14) r3]) (bc := [W_State k b0 (o0+1) s0.1.1.1]) (bc' := [W_State k b0 (o0+1) (u_State_keys (u_State_flows s0.1.1.1 r4.2.1) r4.2.2)]) X hP hD hS (c_State_findOrAppend l D k t b0 (o0+1) s0.1.1.1 x1 N r4 hg_r4) mv_X7_86 hl [0, 1, 2, 3, 4] [5] 5 ⟨rfl, rfl⟩ ⟨Nat.le_of_ble_eq_true rfl, Nat.le_of_ble_eq_true rfl⟩ rfl rfl rfl rfl rfl rfl rfl (Nat.le_of_ble_eq_true rfl) dX7_addFlow_60 (fun H locs hP hD hS => ?_)
        have hP : va_P D vwCl [[((b0 o0), .inr (7, [.ref (b0 (o0+1)), .ref (b0 (o0+14)), .ref (b0 (o0+81)), .ref (b0 (o0+85)), .ref (b0 (o0+152))]))], W_Text k b0 (o0+81) s0.1.2.1.1.1 s0.1.2.1.1.2 s0.1.2.1.2.1 s0.1.2.1.2.2 s0.1.2.2.1.1 s0.1.2.2.1.2 s0.1.2.2.2, W_Decoder k b0 (o0+85) s0.2.1, W_State k b0 (o0+152) s0.2.2, W_History k b0 (o0+14) r3, W_State k b0 (o0+1) (u_State_keys (u_State_flows s0.1.1.1 r4.2.1) r4.2.2)].flatten _ := hP
        have hD : va_D A [[((b0 o0), .inr (7, [.ref (b0 (o0+1)), .ref (b0 (o0+14)), .ref (b0 (o0+81)), .ref (b0 (o0+85)), .ref (b0 (o0+152))]))], W_Text k b0 (o0+81) s0.1.2.1.1.1 s0.1.2.1.1.2 s0.1.2.1.2.1 s0.1.2.1.2.2 s0.1.2.2.1.1 s0.1.2.2.1.2 s0.1.2.2.2, W_Decoder k b0 (o0+85) s0.2.1, W_State k b0 (o0+152) s0.2.2, W_History k b0 (o0+14) r3, W_State k b0 (o0+1) (u_State_keys (u_State_flows s0.1.1.1 r4.2.1) r4.2.2)].flatten := hD
        obtain ⟨hP, hD⟩ := B_perm (br := [[((b0 o0), .inr (7, [.ref (b0 (o0+1)), .ref (b0 (o0+14)), .ref (b0 (o0+81)), .ref (b0 (o0+85)), .ref (b0 (o0+152))]))], W_State k b0 (o0+1) (u_State_keys (u_State_flows s0.1.1.1 r4.2.1) r4.2.2), W_History k b0 (o0+14) r3, W_Text k b0 (o0+81) s0.1.2.1.1.1 s0.1.2.1.1.2 s0.1.2.1.2.1 s0.1.2.1.2.2 s0.1.2.2.1.1 s0.1.2.2.1.2 s0.1.2.2.2, W_Decoder k b0 (o0+85) s0.2.1, W_State k b0 (o0+152) s0.2.2]) hP hD [0, 5, 4, 1, 2, 3] rfl rfl
        have hP : va_P D vwCl [W_CB k b0 o0 (u_CB_history (u_CB_now s0 (u_State_keys (u_State_flows s0.1.1.1 r4.2.1) r4.2.2)) r3)].flatten _ := hP
        have hD : va_D A [W_CB k b0 o0 (u_CB_history (u_CB_now s0 (u_State_keys (u_State_flows s0.1.1.1 r4.2.1) r4.2.2)) r3)].flatten := hD
        have hf := Option.some.inj hf
        subst hf
        exact kiret (v := r4.1) X hP hD hS dX7_addFlow_63
      · have hf := ofneg hf hc
        refine lv_bipush (v := (-5)) hx hb dX7_addFlow_41 (by decide) ?_
        obtain ⟨hP, hD⟩ := B_perm (br := [[((b0 o0), .inr (7, [.ref (b0 (o0+1)), .ref (b0 (o0+14)), .ref (b0 (o0+81)), .ref (b0 (o0+85)), .ref (b0 (o0+152))]))], W_State k b0 (o0+1) s0.1.1.1, W_History k b0 (o0+14) s0.1.1.2, W_Text k b0 (o0+81) s0.1.2.1.1.1 s0.1.2.1.1.2 s0.1.2.1.2.1 s0.1.2.1.2.2 s0.1.2.2.1.1 s0.1.2.2.1.2 s0.1.2.2.2, W_Decoder k b0 (o0+85) s0.2.1, W_State k b0 (o0+152) s0.2.2]) hP hD [0, 5, 1, 2, 3, 4] rfl rfl
        have hP : va_P D vwCl [W_CB k b0 o0 s0].flatten _ := hP
        have hD : va_D A [W_CB k b0 o0 s0].flatten := hD
        have hf := Option.some.inj hf
        subst hf
        exact kiret (v := (-5)) X hP hD hS dX7_addFlow_43
    · have hf := ofneg hf hc
      refine lv_bipush (v := (-4)) hx hb dX7_addFlow_26 (by decide) ?_
      obtain ⟨hP, hD⟩ := B_perm (br := [[((b0 o0), .inr (7, [.ref (b0 (o0+1)), .ref (b0 (o0+14)), .ref (b0 (o0+81)), .ref (b0 (o0+85)), .ref (b0 (o0+152))]))], W_State k b0 (o0+1) s0.1.1.1, W_History k b0 (o0+14) s0.1.1.2, W_Text k b0 (o0+81) s0.1.2.1.1.1 s0.1.2.1.1.2 s0.1.2.1.2.1 s0.1.2.1.2.2 s0.1.2.2.1.1 s0.1.2.2.1.2 s0.1.2.2.2, W_Decoder k b0 (o0+85) s0.2.1, W_State k b0 (o0+152) s0.2.2]) hP hD [0, 5, 1, 2, 3, 4] rfl rfl
      have hP : va_P D vwCl [W_CB k b0 o0 s0].flatten _ := hP
      have hD : va_D A [W_CB k b0 o0 s0].flatten := hD
      have hf := Option.some.inj hf
      subst hf
      exact kiret (v := (-4)) X hP hD hS dX7_addFlow_28
  · have hf := ofpos hf hc
    refine lv_bipush (v := (-3)) hx hb dX7_addFlow_11 (by decide) ?_
    have hf := Option.some.inj hf
    subst hf
    exact kiret (v := (-3)) X hP hD hS dX7_addFlow_13
/-! CB_isFlow: private boolean isFlow(int); -/
abbrev rm_CB_isFlow : Room := ({ frames := 1, cells := 0, slots := 0, locals := 22 } : Room)
def f_CB_isFlow (x1 : Int32) (v_now_flows : Int32) : Option (Int32) := (f_CB_isFrom 0 x1 (v_now_flows - 1)).bind (fun r1 => if r1 = 0 ∨ r1 = 1 then some r1 else none)
abbrev Q_CB_isFlow (below : List Frame) (D : va_G) (k : Nat → ClassId) (A : Nat → Prop) (args : Array Value) (s : State) (b0 : Nat → Nat) (o0 : Nat) (s0 : CBS) (out : Int32) : State → Prop := MQ below (QW D k A (some (.int out)) [W_CB k b0 o0 s0].flatten) args s 0 0 A
set_option maxRecDepth 100000 in
set_option maxHeartbeats 1000000 in
theorem c_CB_isFlow (l : Launch) (D : va_G) (k : Nat → ClassId) (t : Nat → Nat) (b0 : Nat → Nat) (o0 : Nat) (s0 : CBS) (x1 : Int32) (out : Int32) (hf : f_CB_isFlow x1 s0.1.1.1.1.1.2 = some out) : CT l D k t yX7_isFlow cX7_isFlow 2 (some .boolean) rm_CB_isFlow [.ref (b0 o0), .int x1] [W_CB k b0 o0 s0].flatten (some (.int out)) [W_CB k b0 o0 s0].flatten := by
  refine kofW (by decide) (Nat.le_of_ble_eq_true rfl) ?_
  intro p e s m below meth c A ls X hP hD hS hl
  have N : Nat := 0
  have hx := X.1.1
  have hb := X.1.2.1
  have hml := X.1.2.2.1
  have hown := X.1.2.2.2.1
  have hts := X.1.2.2.2.2
  have hl : lv_has ls 2 [(0, .ref (b0 o0)), (1, .int x1)] := hl
  rw [f_CB_isFlow] at hf
  refine lv_iconst (v := 0) hx hb dX7_isFlow_0 (by decide) ?_
  refine lv_iload_n hx hb dX7_isFlow_1 rfl (lv_at hl 1 rfl) ?_
  refine lv_aload_n hx hb dX7_isFlow_2 rfl (lv_at hl 0 rfl) ?_
  refine kget (v := .ref (b0 (o0+1))) X hP ff_X7_12 0 rfl rfl dX7_isFlow_3 ?_
  refine kget (v := .int s0.1.1.1.1.1.2) X hP ff_X7_83 1 rfl rfl dX7_isFlow_6 ?_
  refine lv_iconst (v := 1) hx hb dX7_isFlow_9 (by decide) ?_
  refine lv_isub hx hb dX7_isFlow_10 ?_
  obtain ⟨r1, hg_r1, hf⟩ := ofbind hf
  refine kcS (bs := [W_CB k b0 o0 s0]) (br := [W_CB k b0 o0 s0]) (bc := []) (bc' := []) X hP hD hS (c_CB_isFrom l D k t 0 x1 (s0.1.1.1.1.1.2 - 1) r1 hg_r1) ms_X7_40 hl [0] [] ⟨rfl, rfl⟩ ⟨Nat.le_of_ble_eq_true rfl, Nat.le_of_ble_eq_true rfl⟩ rfl rfl rfl rfl (Nat.le_of_ble_eq_true rfl) dX7_isFlow_11 (fun H locs hP hD hS => ?_)
  have hP : va_P D vwCl [W_CB k b0 o0 s0].flatten _ := hP
  have hD : va_D A [W_CB k b0 o0 s0].flatten := hD
  obtain ⟨hz, hf⟩ := ofif hf
  have hf := Option.some.inj hf
  subst hf
  exact kzret (v := r1) X hP hD hS (zck_n hz) dX7_isFlow_14
