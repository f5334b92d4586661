/-! CB_textFault: public int textFault(); -/
abbrev rm_CB_textFault : Room := ({ frames := 4, cells := 0, slots := 0, locals := 92 } : Room)
def f_CB_textFault (N : Nat) (v_now_flows : Int32) (v_now_keys : FI) (v_text_codes : FI) (v_text_length : Int32) (v_text_itemKeys : FI) (v_text_itemCounts : FI) (v_text_items : Int32) (v_text_newFlows : Int32) (v_text_at : Int32) : Option (Int32 × FI × FI × Int32 × Int32 × Int32) := (f_Text_read N v_text_codes v_text_length v_text_itemKeys v_text_itemCounts v_text_items v_text_newFlows v_text_at v_now_flows v_now_keys).bind (fun r1 => some (r1.1, r1.2.1, r1.2.2.1, r1.2.2.2.1, r1.2.2.2.2.1, r1.2.2.2.2.2))
abbrev Q_CB_textFault (below : List Frame) (D : va_G) (k : Nat → ClassId) (A : Nat → Prop) (args : Array Value) (s : State) (b0 : Nat → Nat) (o0 : Nat) (s0 : CBS) (out : Int32 × FI × FI × Int32 × Int32 × Int32) : State → Prop := MQ below (QW D k A (some (.int out.1)) [W_CB k b0 o0 (u_CB_text s0 (u_Text_at (u_Text_newFlows (u_Text_items (u_Text_itemCounts (u_Text_itemKeys s0.1.2 out.2.1) out.2.2.1) out.2.2.2.1) out.2.2.2.2.1) out.2.2.2.2.2))].flatten) args s 0 0 A
set_option maxRecDepth 100000 in
set_option maxHeartbeats 1000000 in
theorem c_CB_textFault (l : Launch) (D : va_G) (k : Nat → ClassId) (t : Nat → Nat) (b0 : Nat → Nat) (o0 : Nat) (s0 : CBS) (N : Nat) (out : Int32 × FI × FI × Int32 × Int32 × Int32) (hf : f_CB_textFault N s0.1.1.1.1.1.2 s0.1.1.1.1.2 s0.1.2.1.1.1 s0.1.2.1.1.2 s0.1.2.1.2.1 s0.1.2.1.2.2 s0.1.2.2.1.1 s0.1.2.2.1.2 s0.1.2.2.2 = some out) : CT l D k t yX7_textFault cX7_textFault 1 (some .int) rm_CB_textFault [.ref (b0 o0)] [W_CB k b0 o0 s0].flatten (some (.int out.1)) [W_CB k b0 o0 (u_CB_text s0 (u_Text_at (u_Text_newFlows (u_Text_items (u_Text_itemCounts (u_Text_itemKeys s0.1.2 out.2.1) out.2.2.1) out.2.2.2.1) out.2.2.2.2.1) out.2.2.2.2.2))].flatten := by
  refine kofW (by decide) (Nat.le_of_ble_eq_true rfl) ?_
  intro p e s m below meth c A ls X hP hD hS hl
  have hx := X.1.1
  have hb := X.1.2.1
  have hml := X.1.2.2.1
  have hown := X.1.2.2.2.1
  have hts := X.1.2.2.2.2
  have hl : lv_has ls 1 [(0, .ref (b0 o0))] := hl
  rw [f_CB_textFault] at hf
  refine lv_aload_n hx hb dX7_textFault_0 rfl (lv_at hl 0 rfl) ?_
  refine kget (v := .ref (b0 (o0+81))) X hP ff_X7_26 0 rfl rfl dX7_textFault_1 ?_
  refine lv_aload_n hx hb dX7_textFault_4 rfl (lv_at hl 0 rfl) ?_
  refine kget (v := .ref (b0 (o0+1))) X hP ff_X7_12 0 rfl rfl dX7_textFault_5 ?_
  obtain ⟨r1, hg_r1, hf⟩ := ofbind hf
  have hP : va_P D vwCl [[((b0 o0), .inr (7, [.ref (b0 (o0+1)), .ref (b0 (o0+14)), .ref (b0 (o0+81)), .ref (b0 (o0+85)), .ref (b0 (o0+152))]))], W_State k b0 (o0+1) s0.1.1.1, W_History k b0 (o0+14) s0.1.1.2, W_Text k b0 (o0+81) s0.1.2.1.1.1 s0.1.2.1.1.2 s0.1.2.1.2.1 s0.1.2.1.2.2 s0.1.2.2.1.1 s0.1.2.2.1.2 s0.1.2.2.2, W_Decoder k b0 (o0+85) s0.2.1, W_State k b0 (o0+152) s0.2.2].flatten _ := hP
  have hD : va_D A [[((b0 o0), .inr (7, [.ref (b0 (o0+1)), .ref (b0 (o0+14)), .ref (b0 (o0+81)), .ref (b0 (o0+85)), .ref (b0 (o0+152))]))], W_State k b0 (o0+1) s0.1.1.1, W_History k b0 (o0+14) s0.1.1.2, W_Text k b0 (o0+81) s0.1.2.1.1.1 s0.1.2.1.1.2 s0.1.2.1.2.1 s0.1.2.1.2.2 s0.1.2.2.1.1 s0.1.2.2.1.2 s0.1.2.2.2, W_Decoder k b0 (o0+85) s0.2.1, W_State k b0 (o0+152) s0.2.2].flatten := hD
  refine kcV (bs := [[((b0 o0), .inr (7, [.ref (b0 (o0+1)), .ref (b0 (o0+14)), .ref (b0 (o0+81)), .ref (b0 (o0+85)), .ref (b0 (o0+152))]))], W_State k b0 (o0+1) s0.1.1.1, W_History k b0 (o0+14) s0.1.1.2, W_Text k b0 (o0+81) s0.1.2.1.1.1 s0.1.2.1.1.2 s0.1.2.1.2.1 s0.1.2.1.2.2 s0.1.2.2.1.1 s0.1.2.2.1.2 s0.1.2.2.2, W_Decoder k b0 (o0+85) s0.2.1, W_State k b0 (o0+152) s0.2.2]) (br := [[((b0 o0), .inr (7, [.ref (b0 (o0+1)), .ref (b0 (o0+14)), .ref (b0 (o0+81)), .ref (b0 (o0+85)), .ref (b0 (o0+152))]))], W_History k b0 (o0+14) s0.1.1.2, W_Decoder k b0 (o0+85) s0.2.1, W_State k b0 (o0+152) s0.2.2]) (bc := [W_Text k b0 (o0+81) s0.1.2.1.1.1 s0.1.2.1.1.2 s0.1.2.1.2.1 s0.1.2.1.2.2 s0.1.2.2.1.1 s0.1.2.2.1.2 s0.1.2.2.2, W_State k b0 (o0+1) s0.1.1.1]) (bc' := [W_Text k b0 (o0+81) s0.1.2.1.1.1 s0.1.2.1.1.2 r1.2.1 r1.2.2.1 r1.2.2.2.1 r1.2.2.2.2.1 r1.2.2.2.2.2, W_State k b0 (o0+1) s0.1.1.1]) X hP hD hS (c_Text_read l D k t b0 (o0+81) s0.1.2.1.1.1 s0.1.2.1.1.2 s0.1.2.1.2.1 s0.1.2.1.2.2 s0.1.2.2.1.1 s0.1.2.2.1.2 s0.1.2.2.2 b0 (o0+1) s0.1.1.1 N r1 hg_r1) mv_X7_217 hl [0, 2, 4, 5] [3, 1] 6 ⟨rfl, rfl⟩ ⟨Nat.le_of_ble_eq_true rfl, Nat.le_of_ble_eq_true rfl⟩ rfl rfl rfl rfl rfl rfl rfl (Nat.le_of_ble_eq_true rfl) dX7_textFault_8 (fun H locs hP hD hS => ?_)
  have hP : va_P D vwCl [[((b0 o0), .inr (7, [.ref (b0 (o0+1)), .ref (b0 (o0+14)), .ref (b0 (o0+81)), .ref (b0 (o0+85)), .ref (b0 (o0+152))]))], W_History k b0 (o0+14) s0.1.1.2, W_Decoder k b0 (o0+85) s0.2.1, W_State k b0 (o0+152) s0.2.2, W_Text k b0 (o0+81) s0.1.2.1.1.1 s0.1.2.1.1.2 r1.2.1 r1.2.2.1 r1.2.2.2.1 r1.2.2.2.2.1 r1.2.2.2.2.2, W_State k b0 (o0+1) s0.1.1.1].flatten _ := hP
  have hD : va_D A [[((b0 o0), .inr (7, [.ref (b0 (o0+1)), .ref (b0 (o0+14)), .ref (b0 (o0+81)), .ref (b0 (o0+85)), .ref (b0 (o0+152))]))], W_History k b0 (o0+14) s0.1.1.2, W_Decoder k b0 (o0+85) s0.2.1, W_State k b0 (o0+152) s0.2.2, W_Text k b0 (o0+81) s0.1.2.1.1.1 s0.1.2.1.1.2 r1.2.1 r1.2.2.1 r1.2.2.2.1 r1.2.2.2.2.1 r1.2.2.2.2.2, W_State k b0 (o0+1) s0.1.1.1].flatten := hD
  obtain ⟨hP, hD⟩ := B_perm (br := [[((b0 o0), .inr (7, [.ref (b0 (o0+1)), .ref (b0 (o0+14)), .ref (b0 (o0+81)), .ref (b0 (o0+85)), .ref (b0 (o0+152))]))], W_State k b0 (o0+1) s0.1.1.1, W_History k b0 (o0+14) s0.1.1.2, W_Text k b0 (o0+81) s0.1.2.1.1.1 s0.1.2.1.1.2 r1.2.1 r1.2.2.1 r1.2.2.2.1 r1.2.2.2.2.1 r1.2.2.2.2.2, W_Decoder k b0 (o0+85) s0.2.1, W_State k b0 (o0+152) s0.2.2]) hP hD [0, 5, 1, 4, 2, 3] rfl rfl
  have hP : va_P D vwCl [W_CB k b0 o0 (u_CB_text s0 (u_Text_at (u_Text_newFlows (u_Text_items (u_Text_itemCounts (u_Text_itemKeys s0.1.2 r1.2.1) r1.2.2.1) r1.2.2.2.1) r1.2.2.2.2.1) r1.2.2.2.2.2))].flatten _ := hP
  have hD : va_D A [W_CB k b0 o0 (u_CB_text s0 (u_Text_at (u_Text_newFlows (u_Text_items (u_Text_itemCounts (u_Text_itemKeys s0.1.2 r1.2.1) r1.2.2.1) r1.2.2.2.1) r1.2.2.2.2.1) r1.2.2.2.2.2))].flatten := hD
  have hf := Option.some.inj hf
  subst hf
  exact kiret (v := r1.1) X hP hD hS dX7_textFault_11
/-! CB_load: public int load(); -/
abbrev rm_CB_load : Room := ({ frames := 4, cells := 0, slots := 0, locals := 123 } : Room)
def f_CB_load_L48 (N : Nat) (c11 : FI) (c12 : FI) (c13 : Int32) (K106 : Int32 → StateS → Option (Int32 × StateS × HistoryS × FI × FI × Int32 × Int32 × Int32)) : Nat → Int32 → StateS → Option (Int32 × StateS × HistoryS × FI × FI × Int32 × Int32 × Int32)
  | 0, _, _ => none
  | n + 1, i8, c9 => if c13 ≤ i8 then K106 i8 c9 else if (0 : Int32) = 0 then if ck i8 50 = true then (f_State_findOrAppend N (c11 i8.toNatClampNeg) c9.1.1.2 c9.1.2).bind (fun r16 => if ck i8 50 = true then (f_State_countFlow_f N r16.1 ((c12 i8.toNatClampNeg).toInt64) c9.1.1.1.1.1.1 c9.1.1.1.1.1.2 c9.1.1.1.1.2 c9.1.1.1.2.1.1 c9.1.1.1.2.1.2 r16.2.1 r16.2.2 c9.2.1.1.1 c9.2.1.1.2 c9.2.1.2.1 c9.2.1.2.2).bind (fun r17 => f_CB_load_L48 N c11 c12 c13 K106 n (i8 + 1) (u_State_first (u_State_keys (u_State_flows c9 r16.2.1) r16.2.2) ((r17.1, r17.2.1), (r17.2.2.1, r17.2.2.2)))) else none) else none else if ck i8 50 = true then (f_State_findOrAppend N (c11 i8.toNatClampNeg) c9.1.1.2 c9.1.2).bind (fun r18 => if ck i8 50 = true then (f_State_countFlow_s N r18.1 ((c12 i8.toNatClampNeg).toInt64) c9.1.1.1.1.1.1 c9.1.1.1.1.1.2 c9.1.1.1.1.2 c9.1.1.1.2.1.1 c9.1.1.1.2.1.2 r18.2.1 r18.2.2 c9.2.2.1.1 c9.2.2.1.2 c9.2.2.2.1 c9.2.2.2.2).bind (fun r19 => f_CB_load_L48 N c11 c12 c13 K106 n (i8 + 1) (u_State_second (u_State_keys (u_State_flows c9 r18.2.1) r18.2.2) ((r19.1, r19.2.1), (r19.2.2.1, r19.2.2.2)))) else none) else none
def f_CB_load (N : Nat) (v_now : StateS) (v_history : HistoryS) (v_text_codes : FI) (v_text_length : Int32) (v_text_itemKeys : FI) (v_text_itemCounts : FI) (v_text_items : Int32) (v_text_newFlows : Int32) (v_text_at : Int32) : Option (Int32 × StateS × HistoryS × FI × FI × Int32 × Int32 × Int32) := (f_Text_read N v_text_codes v_text_length v_text_itemKeys v_text_itemCounts v_text_items v_text_newFlows v_text_at v_now.1.1.2 v_now.1.2).bind (fun r1 => if r1.1 = (-1) then (f_Text_fits N r1.2.1 r1.2.2.1 r1.2.2.2.1 v_now.1.1.2 v_now.1.2 v_now.2.1.1.1 v_now.2.2.1.1).bind (fun r2 => if r2 = 0 then some ((-5), v_now, v_history, r1.2.1, r1.2.2.1, r1.2.2.2.1, r1.2.2.2.2.1, r1.2.2.2.2.2) else (f_History_push v_history v_now).bind (fun r3 => f_CB_load_L48 N r1.2.1 r1.2.2.1 r1.2.2.2.1 (fun i20 c21 => some (c21.1.1.2, c21, r3, r1.2.1, r1.2.2.1, r1.2.2.2.1, r1.2.2.2.2.1, r1.2.2.2.2.2)) N 0 v_now)) else some ((-4), v_now, v_history, r1.2.1, r1.2.2.1, r1.2.2.2.1, r1.2.2.2.2.1, r1.2.2.2.2.2))
abbrev Q_CB_load (below : List Frame) (D : va_G) (k : Nat → ClassId) (A : Nat → Prop) (args : Array Value) (s : State) (b0 : Nat → Nat) (o0 : Nat) (s0 : CBS) (out : Int32 × StateS × HistoryS × FI × FI × Int32 × Int32 × Int32) : State → Prop := MQ below (QW D k A (some (.int out.1)) [W_CB k b0 o0 (u_CB_text (u_CB_history (u_CB_now s0 out.2.1) out.2.2.1) (u_Text_at (u_Text_newFlows (u_Text_items (u_Text_itemCounts (u_Text_itemKeys s0.1.2 out.2.2.2.1) out.2.2.2.2.1) out.2.2.2.2.2.1) out.2.2.2.2.2.2.1) out.2.2.2.2.2.2.2))].flatten) args s 0 0 A
set_option maxRecDepth 100000 in
set_option maxHeartbeats 1000000 in
theorem w_CB_load_L48 {p : Program} {l : Launch} {e : Env} {s : State} {m : MethodId} {below : List Frame} {meth : Method} {c : Code} {args : Array Value} {A : Nat → Prop} {D : va_G} {k : Nat → ClassId} {t : Nat → Nat} (X : BX l D k t p s m args meth c cX7_load 2 RX7 (some .int) A) (b0 : Nat → Nat) (o0 : Nat) (s0 : CBS) (N : Nat) (c10 : HistoryS) (c11 : FI) (c12 : FI) (c13 : Int32) (c14 : Int32) (c15 : Int32) (out : Int32 × StateS × HistoryS × FI × FI × Int32 × Int32 × Int32) (K106 : Int32 → StateS → Option (Int32 × StateS × HistoryS × FI × FI × Int32 × Int32 × Int32)) (hK106 : ∀ (i8' : Int32) (c9' : StateS) (H : Heap) (locs : List Loc) (ls : Array Slot), va_P D vwCl [W_CB k b0 o0 (u_CB_text (u_CB_history (u_CB_now s0 c9') c10) (u_Text_at (u_Text_newFlows (u_Text_items (u_Text_itemCounts (u_Text_itemKeys s0.1.2 c11) c12) c13) c14) c15))].flatten H → va_D A [W_CB k b0 o0 (u_CB_text (u_CB_history (u_CB_now s0 c9') c10) (u_Text_at (u_Text_newFlows (u_Text_items (u_Text_itemCounts (u_Text_itemKeys s0.1.2 c11) c12) c13) c14) c15))].flatten → va_S A s.heap H locs → lv_has ls 2 [(0, .ref (b0 o0))] → K106 i8' c9' = some out → W p l e rm_CB_load s m args below meth c H locs 0 0 (Q_CB_load below D k A args s b0 o0 s0 out) (F0 m 106 ls [])) : ∀ (n : Nat) (i8 : Int32) (c9 : StateS) (H : Heap) (locs : List Loc) (ls : Array Slot), va_P D vwCl [W_CB k b0 o0 (u_CB_text (u_CB_history (u_CB_now s0 c9) c10) (u_Text_at (u_Text_newFlows (u_Text_items (u_Text_itemCounts (u_Text_itemKeys s0.1.2 c11) c12) c13) c14) c15))].flatten H → va_D A [W_CB k b0 o0 (u_CB_text (u_CB_history (u_CB_now s0 c9) c10) (u_Text_at (u_Text_newFlows (u_Text_items (u_Text_itemCounts (u_Text_itemKeys s0.1.2 c11) c12) c13) c14) c15))].flatten → va_S A s.heap H locs → lv_has ls 2 [(0, .ref (b0 o0)), (1, .int i8)] → f_CB_load_L48 N c11 c12 c13 K106 n i8 c9 = some out → W p l e rm_CB_load s m args below meth c H locs 0 0 (Q_CB_load below D k A args s b0 o0 s0 out) (F0 m 48 ls []) := by
  have hx := X.1.1
  have hb := X.1.2.1
  have hml := X.1.2.2.1
  have hown := X.1.2.2.2.1
  have hts := X.1.2.2.2.2
  intro n
  induction n with
  | zero =>
    intro i8 c9 H locs ls hP hD hS hl hf
    rw [f_CB_load_L48] at hf
    cases hf
  | succ n ih =>
    intro i8 c9 H locs ls hP hD hS hl hf
    rw [f_CB_load_L48] at hf
    refine lv_iload_n hx hb dX7_load_48 rfl (lv_at hl 1 rfl) ?_
    refine lv_aload_n hx hb dX7_load_49 rfl (lv_at hl 0 rfl) ?_
    refine kget (v := .ref (b0 (o0+81))) X hP ff_X7_26 0 rfl rfl dX7_load_50 ?_
    refine kget (v := .int c13) X hP ff_X7_224 81 rfl rfl dX7_load_53 ?_
    refine lv_icmp_ge (tgt := 106) hx hb dX7_load_56 (by decide) (fun hc => ?_) (fun hc => ?_)
    · have hf := ofpos hf hc
      exact hK106 i8 c9 _ _ _ hP hD hS (lv_sub hl [0] rfl) hf
    · have hf := ofneg hf hc
      refine lv_aload_n hx hb dX7_load_59 rfl (lv_at hl 0 rfl) ?_
      refine kget (v := .ref (b0 (o0+1))) X hP ff_X7_12 0 rfl rfl dX7_load_60 ?_
      refine lv_aload_n hx hb dX7_load_63 rfl (lv_at hl 0 rfl) ?_
      refine kget (v := .ref (b0 (o0+1))) X hP ff_X7_12 0 rfl rfl dX7_load_64 ?_
      refine lv_iconst (v := 0) hx hb dX7_load_67 (by decide) ?_
      by_cases hc : (0 : Int32) = 0
      · have hf := ofpos hf hc
        have hP : va_P D vwCl [[((b0 o0), .inr (7, [.ref (b0 (o0+1)), .ref (b0 (o0+14)), .ref (b0 (o0+81)), .ref (b0 (o0+85)), .ref (b0 (o0+152))]))], W_State k b0 (o0+1) c9, W_History k b0 (o0+14) c10, W_Text k b0 (o0+81) s0.1.2.1.1.1 s0.1.2.1.1.2 c11 c12 c13 c14 c15, W_Decoder k b0 (o0+85) s0.2.1, W_State k b0 (o0+152) s0.2.2].flatten _ := hP
        have hD : va_D A [[((b0 o0), .inr (7, [.ref (b0 (o0+1)), .ref (b0 (o0+14)), .ref (b0 (o0+81)), .ref (b0 (o0+85)), .ref (b0 (o0+152))]))], W_State k b0 (o0+1) c9, W_History k b0 (o0+14) c10, W_Text k b0 (o0+81) s0.1.2.1.1.1 s0.1.2.1.1.2 c11 c12 c13 c14 c15, W_Decoder k b0 (o0+85) s0.2.1, W_State k b0 (o0+152) s0.2.2].flatten := hD
        refine kcV (bs := [[((b0 o0), .inr (7, [.ref (b0 (o0+1)), .ref (b0 (o0+14)), .ref (b0 (o0+81)), .ref (b0 (o0+85)), .ref (b0 (o0+152))]))], W_State k b0 (o0+1) c9, W_History k b0 (o0+14) c10, W_Text k b0 (o0+81) s0.1.2.1.1.1 s0.1.2.1.1.2 c11 c12 c13 c14 c15, W_Decoder k b0 (o0+85) s0.2.1, W_State k b0 (o0+152) s0.2.2]) (br := [[((b0 o0), .inr (7, [.ref (b0 (o0+1)), .ref (b0 (o0+14)), .ref (b0 (o0+81)), .ref (b0 (o0+85)), .ref (b0 (o0+152))]))], W_History k b0 (o0+14) c10, W_Text k b0 (o0+81) s0.1.2.1.1.1 s0.1.2.1.1.2 c11 c12 c13 c14 c15, W_Decoder k b0 (o0+85) s0.2.1, W_State k b0 (o0+152) s0.2.2]) (bc := [W_State k b0 (o0+1) c9]) (bc' := [W_State k b0 (o0+1) c9]) X hP hD hS (c_State_braid_t l D k t b0 (o0+1) c9 0 hc) mv_X7_114 hl [0, 2, 3, 4, 5] [1] 5 ⟨rfl, rfl⟩ ⟨Nat.le_of_ble_eq_true rfl, Nat.le_of_ble_eq_true rfl⟩ rfl rfl rfl rfl rfl rfl rfl (Nat.le_of_ble_eq_true rfl) dX7_load_68 (fun H locs hP hD hS => ?_)
        have hP : va_P D vwCl [[((b0 o0), .inr (7, [.ref (b0 (o0+1)), .ref (b0 (o0+14)), .ref (b0 (o0+81)), .ref (b0 (o0+85)), .ref (b0 (o0+152))]))], W_History k b0 (o0+14) c10, W_Text k b0 (o0+81) s0.1.2.1.1.1 s0.1.2.1.1.2 c11 c12 c13 c14 c15, W_Decoder k b0 (o0+85) s0.2.1, W_State k b0 (o0+152) s0.2.2, W_State k b0 (o0+1) c9].flatten _ := hP
        have hD : va_D A [[((b0 o0), .inr (7, [.ref (b0 (o0+1)), .ref (b0 (o0+14)), .ref (b0 (o0+81)), .ref (b0 (o0+85)), .ref (b0 (o0+152))]))], W_History k b0 (o0+14) c10, W_Text k b0 (o0+81) s0.1.2.1.1.1 s0.1.2.1.1.2 c11 c12 c13 c14 c15, W_Decoder k b0 (o0+85) s0.2.1, W_State k b0 (o0+152) s0.2.2, W_State k b0 (o0+1) c9].flatten := hD
        refine lv_aload_n hx hb dX7_load_71 rfl (lv_at hl 0 rfl) ?_
        refine kget (v := .ref (b0 (o0+1))) X hP ff_X7_12 0 rfl rfl dX7_load_72 ?_
        refine lv_aload_n hx hb dX7_load_75 rfl (lv_at hl 0 rfl) ?_
        refine kget (v := .ref (b0 (o0+81))) X hP ff_X7_26 0 rfl rfl dX7_load_76 ?_
        refine kget (v := .ref (b0 (o0+83))) X hP ff_X7_227 68 rfl rfl dX7_load_79 ?_
        refine lv_iload_n hx hb dX7_load_82 rfl (lv_at hl 1 rfl) ?_
        obtain ⟨hc, hf⟩ := ofck hf
        refine kiald (f := c11) (n := 50) X hP 70 rfl hc dX7_load_83 ?_
        obtain ⟨r16, hg_r16, hf⟩ := ofbind hf
        refine kcV (bs := [[((b0 o0), .inr (7, [.ref (b0 (o0+1)), .ref (b0 (o0+14)), .ref (b0 (o0+81)), .ref (b0 (o0+85)), .ref (b0 (o0+152))]))], W_History k b0 (o0+14) c10, W_Text k b0 (o0+81) s0.1.2.1.1.1 s0.1.2.1.1.2 c11 c12 c13 c14 c15, W_Decoder k b0 (o0+85) s0.2.1, W_State k b0 (o0+152) s0.2.2, W_State k b0 (o0+1) c9]) (br := [[((b0 o0), .inr (7, [.ref (b0 (o0+1)), .ref (b0 (o0+14)), .ref (b0 (o0+81)), .ref (b0 (o0+85)), .ref (b0 (o0+152))]))], W_History k b0 (o0+14) c10, W_Text k b0 (o0+81) s0.1.2.1.1.1 s0.1.2.1.1.2 c11 c12 c13 c14 c15, W_Decoder k b0 (o0+85) s0.2.1, W_State k b0 (o0+152) s0.2.2]) (bc := [W_State k b0 (o0+1) c9]) (bc' := [W_State k b0 (o0+1) (u_State_keys (u_State_flows c9 r16.2.1) r16.2.2)]) X hP hD hS (c_State_findOrAppend l D k t b0 (o0+1) c9 (c11 i8.toNatClampNeg) N r16 hg_r16) mv_X7_86 hl [0, 1, 2, 3, 4] [5] 5 ⟨rfl, rfl⟩ ⟨Nat.le_of_ble_eq_true rfl, Nat.le_of_ble_eq_true rfl⟩ rfl rfl rfl rfl rfl rfl rfl (Nat.le_of_ble_eq_true rfl) dX7_load_84 (fun H locs hP hD hS => ?_)
        have hP : va_P D vwCl [[((b0 o0), .inr (7, [.ref (b0 (o0+1)), .ref (b0 (o0+14)), .ref (b0 (o0+81)), .ref (b0 (o0+85)), .ref (b0 (o0+152))]))], W_History k b0 (o0+14) c10, W_Text k b0 (o0+81) s0.1.2.1.1.1 s0.1.2.1.1.2 c11 c12 c13 c14 c15, W_Decoder k b0 (o0+85) s0.2.1, W_State k b0 (o0+152) s0.2.2, W_State k b0 (o0+1) (u_State_keys (u_State_flows c9 r16.2.1) r16.2.2)].flatten _ := hP
        have hD : va_D A [[((b0 o0), .inr (7, [.ref (b0 (o0+1)), .ref (b0 (o0+14)), .ref (b0 (o0+81)), .ref (b0 (o0+85)), .ref (b0 (o0+152))]))], W_History k b0 (o0+14) c10, W_Text k b0 (o0+81) s0.1.2.1.1.1 s0.1.2.1.1.2 c11 c12 c13 c14 c15, W_Decoder k b0 (o0+85) s0.2.1, W_State k b0 (o0+152) s0.2.2, W_State k b0 (o0+1) (u_State_keys (u_State_flows c9 r16.2.1) r16.2.2)].flatten := hD
        refine lv_aload_n hx hb dX7_load_87 rfl (lv_at hl 0 rfl) ?_
        refine kget (v := .ref (b0 (o0+81))) X hP ff_X7_26 0 rfl rfl dX7_load_88 ?_
        refine kget (v := .ref (b0 (o0+84))) X hP ff_X7_230 68 rfl rfl dX7_load_91 ?_
        refine lv_iload_n hx hb dX7_load_94 rfl (lv_at hl 1 rfl) ?_
        obtain ⟨hc, hf⟩ := ofck hf
        refine kiald (f := c12) (n := 50) X hP 71 rfl hc dX7_load_95 ?_
        refine lv_i2l (v := (c12 i8.toNatClampNeg).toInt64) hx hb dX7_load_96 rfl ?_
        obtain ⟨r17, hg_r17, hf⟩ := ofbind hf
        refine kcV (bs := [[((b0 o0), .inr (7, [.ref (b0 (o0+1)), .ref (b0 (o0+14)), .ref (b0 (o0+81)), .ref (b0 (o0+85)), .ref (b0 (o0+152))]))], W_History k b0 (o0+14) c10, W_Text k b0 (o0+81) s0.1.2.1.1.1 s0.1.2.1.1.2 c11 c12 c13 c14 c15, W_Decoder k b0 (o0+85) s0.2.1, W_State k b0 (o0+152) s0.2.2, W_State k b0 (o0+1) (u_State_keys (u_State_flows c9 r16.2.1) r16.2.2)]) (br := [[((b0 o0), .inr (7, [.ref (b0 (o0+1)), .ref (b0 (o0+14)), .ref (b0 (o0+81)), .ref (b0 (o0+85)), .ref (b0 (o0+152))]))], W_History k b0 (o0+14) c10, W_Text k b0 (o0+81) s0.1.2.1.1.1 s0.1.2.1.1.2 c11 c12 c13 c14 c15, W_Decoder k b0 (o0+85) s0.2.1, W_State k b0 (o0+152) s0.2.2]) (bc := [W_State k b0 (o0+1) (u_State_keys (u_State_flows c9 r16.2.1) r16.2.2)]) (bc' := [W_State k b0 (o0+1) (u_State_first (u_State_keys (u_State_flows c9 r16.2.1) r16.2.2) ((r17.1, r17.2.1), (r17.2.2.1, r17.2.2.2)))]) X hP hD hS (c_State_countFlow_f l D k t b0 (o0+1) (u_State_keys (u_State_flows c9 r16.2.1) r16.2.2) r16.1 ((c12 i8.toNatClampNeg).toInt64) N r17 hg_r17) mv_X7_128 hl [0, 1, 2, 3, 4] [5] 5 ⟨rfl, rfl⟩ ⟨Nat.le_of_ble_eq_true rfl, Nat.le_of_ble_eq_true rfl⟩ rfl rfl rfl rfl rfl rfl rfl (Nat.le_of_ble_eq_true rfl) dX7_load_97 (fun H locs hP hD hS => ?_)
        have hP : va_P D vwCl [[((b0 o0), .inr (7, [.ref (b0 (o0+1)), .ref (b0 (o0+14)), .ref (b0 (o0+81)), .ref (b0 (o0+85)), .ref (b0 (o0+152))]))], W_History k b0 (o0+14) c10, W_Text k b0 (o0+81) s0.1.2.1.1.1 s0.1.2.1.1.2 c11 c12 c13 c14 c15, W_Decoder k b0 (o0+85) s0.2.1, W_State k b0 (o0+152) s0.2.2, W_State k b0 (o0+1) (u_State_first (u_State_keys (u_State_flows c9 r16.2.1) r16.2.2) ((r17.1, r17.2.1), (r17.2.2.1, r17.2.2.2)))].flatten _ := hP
        have hD : va_D A [[((b0 o0), .inr (7, [.ref (b0 (o0+1)), .ref (b0 (o0+14)), .ref (b0 (o0+81)), .ref (b0 (o0+85)), .ref (b0 (o0+152))]))], W_History k b0 (o0+14) c10, W_Text k b0 (o0+81) s0.1.2.1.1.1 s0.1.2.1.1.2 c11 c12 c13 c14 c15, W_Decoder k b0 (o0+85) s0.2.1, W_State k b0 (o0+152) s0.2.2, W_State k b0 (o0+1) (u_State_first (u_State_keys (u_State_flows c9 r16.2.1) r16.2.2) ((r17.1, r17.2.1), (r17.2.2.1, r17.2.2.2)))].flatten := hD
        refine lv_iinc (v := i8 + 1) (lv' := [(1, .int (i8 + 1)), (0, .ref (b0 o0))]) hx hb dX7_load_100 hl (k := 1) rfl rfl (by decide) rfl (fun ls hl => ?_)
        refine lv_goto (tgt := 48) hx hb dX7_load_103 (by decide) ?_
        obtain ⟨hP, hD⟩ := B_perm (br := [[((b0 o0), .inr (7, [.ref (b0 (o0+1)), .ref (b0 (o0+14)), .ref (b0 (o0+81)), .ref (b0 (o0+85)), .ref (b0 (o0+152))]))], W_State k b0 (o0+1) (u_State_first (u_State_keys (u_State_flows c9 r16.2.1) r16.2.2) ((r17.1, r17.2.1), (r17.2.2.1, r17.2.2.2))), W_History k b0 (o0+14) c10, W_Text k b0 (o0+81) s0.1.2.1.1.1 s0.1.2.1.1.2 c11 c12 c13 c14 c15, W_Decoder k b0 (o0+85) s0.2.1, W_State k b0 (o0+152) s0.2.2]) hP hD [0, 5, 1, 2, 3, 4] rfl rfl
        have hP : va_P D vwCl [W_CB k b0 o0 (u_CB_text (u_CB_history (u_CB_now s0 (u_State_first (u_State_keys (u_State_flows c9 r16.2.1) r16.2.2) ((r17.1, r17.2.1), (r17.2.2.1, r17.2.2.2)))) c10) (u_Text_at (u_Text_newFlows (u_Text_items (u_Text_itemCounts (u_Text_itemKeys s0.1.2 c11) c12) c13) c14) c15))].flatten _ := hP
        have hD : va_D A [W_CB k b0 o0 (u_CB_text (u_CB_history (u_CB_now s0 (u_State_first (u_State_keys (u_State_flows c9 r16.2.1) r16.2.2) ((r17.1, r17.2.1), (r17.2.2.1, r17.2.2.2)))) c10) (u_Text_at (u_Text_newFlows (u_Text_items (u_Text_itemCounts (u_Text_itemKeys s0.1.2 c11) c12) c13) c14) c15))].flatten := hD
        exact ih (i8 + 1) (u_State_first (u_State_keys (u_State_flows c9 r16.2.1) r16.2.2) ((r17.1, r17.2.1), (r17.2.2.1, r17.2.2.2))) _ _ _ hP hD hS (lv_sub hl [1, 0] rfl) hf
      · have hf := ofneg hf hc
        have hP : va_P D vwCl [[((b0 o0), .inr (7, [.ref (b0 (o0+1)), .ref (b0 (o0+14)), .ref (b0 (o0+81)), .ref (b0 (o0+85)), .ref (b0 (o0+152))]))], W_State k b0 (o0+1) c9, W_History k b0 (o0+14) c10, W_Text k b0 (o0+81) s0.1.2.1.1.1 s0.1.2.1.1.2 c11 c12 c13 c14 c15, W_Decoder k b0 (o0+85) s0.2.1, W_State k b0 (o0+152) s0.2.2].flatten _ := hP
        have hD : va_D A [[((b0 o0), .inr (7, [.ref (b0 (o0+1)), .ref (b0 (o0+14)), .ref (b0 (o0+81)), .ref (b0 (o0+85)), .ref (b0 (o0+152))]))], W_State k b0 (o0+1) c9, W_History k b0 (o0+14) c10, W_Text k b0 (o0+81) s0.1.2.1.1.1 s0.1.2.1.1.2 c11 c12 c13 c14 c15, W_Decoder k b0 (o0+85) s0.2.1, W_State k b0 (o0+152) s0.2.2].flatten := hD
        refine kcV (bs := [[((b0 o0), .inr (7, [.ref (b0 (o0+1)), .ref (b0 (o0+14)), .ref (b0 (o0+81)), .ref (b0 (o0+85)), .ref (b0 (o0+152))]))], W_State k b0 (o0+1) c9, W_History k b0 (o0+14) c10, W_Text k b0 (o0+81) s0.1.2.1.1.1 s0.1.2.1.1.2 c11 c12 c13 c14 c15, W_Decoder k b0 (o0+85) s0.2.1, W_State k b0 (o0+152) s0.2.2]) (br := [[((b0 o0), .inr (7, [.ref (b0 (o0+1)), .ref (b0 (o0+14)), .ref (b0 (o0+81)), .ref (b0 (o0+85)), .ref (b0 (o0+152))]))], W_History k b0 (o0+14) c10, W_Text k b0 (o0+81) s0.1.2.1.1.1 s0.1.2.1.1.2 c11 c12 c13 c14 c15, W_Decoder k b0 (o0+85) s0.2.1, W_State k b0 (o0+152) s0.2.2]) (bc := [W_State k b0 (o0+1) c9]) (bc' := [W_State k b0 (o0+1) c9]) X hP hD hS (c_State_braid_e l D k t b0 (o0+1) c9 0 hc) mv_X7_114 hl [0, 2, 3, 4, 5] [1] 5 ⟨rfl, rfl⟩ ⟨Nat.le_of_ble_eq_true rfl, Nat.le_of_ble_eq_true rfl⟩ rfl rfl rfl rfl rfl rfl rfl (Nat.le_of_ble_eq_true rfl) dX7_load_68 (fun H locs hP hD hS => ?_)
        have hP : va_P D vwCl [[((b0 o0), .inr (7, [.ref (b0 (o0+1)), .ref (b0 (o0+14)), .ref (b0 (o0+81)), .ref (b0 (o0+85)), .ref (b0 (o0+152))]))], W_History k b0 (o0+14) c10, W_Text k b0 (o0+81) s0.1.2.1.1.1 s0.1.2.1.1.2 c11 c12 c13 c14 c15, W_Decoder k b0 (o0+85) s0.2.1, W_State k b0 (o0+152) s0.2.2, W_State k b0 (o0+1) c9].flatten _ := hP
        have hD : va_D A [[((b0 o0), .inr (7, [.ref (b0 (o0+1)), .ref (b0 (o0+14)), .ref (b0 (o0+81)), .ref (b0 (o0+85)), .ref (b0 (o0+152))]))], W_History k b0 (o0+14) c10, W_Text k b0 (o0+81) s0.1.2.1.1.1 s0.1.2.1.1.2 c11 c12 c13 c14 c15, W_Decoder k b0 (o0+85) s0.2.1, W_State k b0 (o0+152) s0.2.2, W_State k b0 (o0+1) c9].flatten := hD
        refine lv_aload_n hx hb dX7_load_71 rfl (lv_at hl 0 rfl) ?_
        refine kget (v := .ref (b0 (o0+1))) X hP ff_X7_12 0 rfl rfl dX7_load_72 ?_
        refine lv_aload_n hx hb dX7_load_75 rfl (lv_at hl 0 rfl) ?_
        refine kget (v := .ref (b0 (o0+81))) X hP ff_X7_26 0 rfl rfl dX7_load_76 ?_
        refine kget (v := .ref (b0 (o0+83))) X hP ff_X7_227 68 rfl rfl dX7_load_79 ?_
        refine lv_iload_n hx hb dX7_load_82 rfl (lv_at hl 1 rfl) ?_
        obtain ⟨hc, hf⟩ := ofck hf
        refine kiald (f := c11) (n := 50) X hP 70 rfl hc dX7_load_83 ?_
        obtain ⟨r18, hg_r18, hf⟩ := ofbind hf
        refine kcV (bs := [[((b0 o0), .inr (7, [.ref (b0 (o0+1)), .ref (b0 (o0+14)), .ref (b0 (o0+81)), .ref (b0 (o0+85)), .ref (b0 (o0+152))]))], W_History k b0 (o0+14) c10, W_Text k b0 (o0+81) s0.1.2.1.1.1 s0.1.2.1.1.2 c11 c12 c13 c14 c15, W_Decoder k b0 (o0+85) s0.2.1, W_State k b0 (o0+152) s0.2.2, W_State k b0 (o0+1) c9]) (br := [[((b0 o0), .inr (7, [.ref (b0 (o0+1)), .ref (b0 (o0+14)), .ref (b0 (o0+81)), .ref (b0 (o0+85)), .ref (b0 (o0+152))]))], W_History k b0 (o0+14) c10, W_Text k b0 (o0+81) s0.1.2.1.1.1 s0.1.2.1.1.2 c11 c12 c13 c14 c15, W_Decoder k b0 (o0+85) s0.2.1, W_State k b0 (o0+152) s0.2.2]) (bc := [W_State k b0 (o0+1) c9]) (bc' := [W_State k b0 (o0+1) (u_State_keys (u_State_flows c9 r18.2.1) r18.2.2)]) X hP hD hS (c_State_findOrAppend l D k t b0 (o0+1) c9 (c11 i8.toNatClampNeg) N r18 hg_r18) mv_X7_86 hl [0, 1, 2, 3, 4] [5] 5 ⟨rfl, rfl⟩ ⟨Nat.le_of_ble_eq_true rfl, Nat.le_of_ble_eq_true rfl⟩ rfl rfl rfl rfl rfl rfl rfl (Nat.le_of_ble_eq_true rfl) dX7_load_84 (fun H locs hP hD hS => ?_)
        have hP : va_P D vwCl [[((b0 o0), .inr (7, [.ref (b0 (o0+1)), .ref (b0 (o0+14)), .ref (b0 (o0+81)), .ref (b0 (o0+85)), .ref (b0 (o0+152))]))], W_History k b0 (o0+14) c10, W_Text k b0 (o0+81) s0.1.2.1.1.1 s0.1.2.1.1.2 c11 c12 c13 c14 c15, W_Decoder k b0 (o0+85) s0.2.1, W_State k b0 (o0+152) s0.2.2, W_State k b0 (o0+1) (u_State_keys (u_State_flows c9 r18.2.1) r18.2.2)].flatten _ := hP
        have hD : va_D A [[((b0 o0), .inr (7, [.ref (b0 (o0+1)), .ref (b0 (o0+14)), .ref (b0 (o0+81)), .ref (b0 (o0+85)), .ref (b0 (o0+152))]))], W_History k b0 (o0+14) c10, W_Text k b0 (o0+81) s0.1.2.1.1.1 s0.1.2.1.1.2 c11 c12 c13 c14 c15, W_Decoder k b0 (o0+85) s0.2.1, W_State k b0 (o0+152) s0.2.2, W_State k b0 (o0+1) (u_State_keys (u_State_flows c9 r18.2.1) r18.2.2)].flatten := hD
        refine lv_aload_n hx hb dX7_load_87 rfl (lv_at hl 0 rfl) ?_
        refine kget (v := .ref (b0 (o0+81))) X hP ff_X7_26 0 rfl rfl dX7_load_88 ?_
        refine kget (v := .ref (b0 (o0+84))) X hP ff_X7_230 68 rfl rfl dX7_load_91 ?_
        refine lv_iload_n hx hb dX7_load_94 rfl (lv_at hl 1 rfl) ?_
        obtain ⟨hc, hf⟩ := ofck hf
        refine kiald (f := c12) (n := 50) X hP 71 rfl hc dX7_load_95 ?_
        refine lv_i2l (v := (c12 i8.toNatClampNeg).toInt64) hx hb dX7_load_96 rfl ?_
        obtain ⟨r19, hg_r19, hf⟩ := ofbind hf
        refine kcV (bs := [[((b0 o0), .inr (7, [.ref (b0 (o0+1)), .ref (b0 (o0+14)), .ref (b0 (o0+81)), .ref (b0 (o0+85)), .ref (b0 (o0+152))]))], W_History k b0 (o0+14) c10, W_Text k b0 (o0+81) s0.1.2.1.1.1 s0.1.2.1.1.2 c11 c12 c13 c14 c15, W_Decoder k b0 (o0+85) s0.2.1, W_State k b0 (o0+152) s0.2.2, W_State k b0 (o0+1) (u_State_keys (u_State_flows c9 r18.2.1) r18.2.2)]) (br := [[((b0 o0), .inr (7, [.ref (b0 (o0+1)), .ref (b0 (o0+14)), .ref (b0 (o0+81)), .ref (b0 (o0+85)), .ref (b0 (o0+152))]))], W_History k b0 (o0+14) c10, W_Text k b0 (o0+81) s0.1.2.1.1.1 s0.1.2.1.1.2 c11 c12 c13 c14 c15, W_Decoder k b0 (o0+85) s0.2.1, W_State k b0 (o0+152) s0.2.2]) (bc := [W_State k b0 (o0+1) (u_State_keys (u_State_flows c9 r18.2.1) r18.2.2)]) (bc' := [W_State k b0 (o0+1) (u_State_second (u_State_keys (u_State_flows c9 r18.2.1) r18.2.2) ((r19.1, r19.2.1), (r19.2.2.1, r19.2.2.2)))]) X hP hD hS (c_State_countFlow_s l D k t b0 (o0+1) (u_State_keys (u_State_flows c9 r18.2.1) r18.2.2) r18.1 ((c12 i8.toNatClampNeg).toInt64) N r19 hg_r19) mv_X7_128 hl [0, 1, 2, 3, 4] [5] 5 ⟨rfl, rfl⟩ ⟨Nat.le_of_ble_eq_true rfl, Nat.le_of_ble_eq_true rfl⟩ rfl rfl rfl rfl rfl rfl rfl (Nat.le_of_ble_eq_true rfl) dX7_load_97 (fun H locs hP hD hS => ?_)
        have hP : va_P D vwCl [[((b0 o0), .inr (7, [.ref (b0 (o0+1)), .ref (b0 (o0+14)), .ref (b0 (o0+81)), .ref (b0 (o0+85)), .ref (b0 (o0+152))]))], W_History k b0 (o0+14) c10, W_Text k b0 (o0+81) s0.1.2.1.1.1 s0.1.2.1.1.2 c11 c12 c13 c14 c15, W_Decoder k b0 (o0+85) s0.2.1, W_State k b0 (o0+152) s0.2.2, W_State k b0 (o0+1) (u_State_second (u_State_keys (u_State_flows c9 r18.2.1) r18.2.2) ((r19.1, r19.2.1), (r19.2.2.1, r19.2.2.2)))].flatten _ := hP
        have hD : va_D A [[((b0 o0), .inr (7, [.ref (b0 (o0+1)), .ref (b0 (o0+14)), .ref (b0 (o0+81)), .ref (b0 (o0+85)), .ref (b0 (o0+152))]))], W_History k b0 (o0+14) c10, W_Text k b0 (o0+81) s0.1.2.1.1.1 s0.1.2.1.1.2 c11 c12 c13 c14 c15, W_Decoder k b0 (o0+85) s0.2.1, W_State k b0 (o0+152) s0.2.2, W_State k b0 (o0+1) (u_State_second (u_State_keys (u_State_flows c9 r18.2.1) r18.2.2) ((r19.1, r19.2.1), (r19.2.2.1, r19.2.2.2)))].flatten := hD
        refine lv_iinc (v := i8 + 1) (lv' := [(1, .int (i8 + 1)), (0, .ref (b0 o0))]) hx hb dX7_load_100 hl (k := 1) rfl rfl (by decide) rfl (fun ls hl => ?_)
        refine lv_goto (tgt := 48) hx hb dX7_load_103 (by decide) ?_
        obtain ⟨hP, hD⟩ := B_perm (br := [[((b0 o0), .inr (7, [.ref (b0 (o0+1)), .ref (b0 (o0+14)), .ref (b0 (o0+81)), .ref (b0 (o0+85)), .ref (b0 (o0+152))]))], W_State k b0 (o0+1) (u_State_second (u_State_keys (u_State_flows c9 r18.2.1) r18.2.2) ((r19.1, r19.2.1), (r19.2.2.1, r19.2.2.2))), W_History k b0 (o0+14) c10, W_Text k b0 (o0+81) s0.1.2.1.1.1 s0.1.2.1.1.2 c11 c12 c13 c14 c15, W_Decoder k b0 (o0+85) s0.2.1, W_State k b0 (o0+152) s0.2.2]) hP hD [0, 5, 1, 2, 3, 4] rfl rfl
        have hP : va_P D vwCl [W_CB k b0 o0 (u_CB_text (u_CB_history (u_CB_now s0 (u_State_second (u_State_keys (u_State_flows c9 r18.2.1) r18.2.2) ((r19.1, r19.2.1), (r19.2.2.1, r19.2.2.2)))) c10) (u_Text_at (u_Text_newFlows (u_Text_items (u_Text_itemCounts (u_Text_itemKeys s0.1.2 c11) c12) c13) c14) c15))].flatten _ := hP
        have hD : va_D A [W_CB k b0 o0 (u_CB_text (u_CB_history (u_CB_now s0 (u_State_second (u_State_keys (u_State_flows c9 r18.2.1) r18.2.2) ((r19.1, r19.2.1), (r19.2.2.1, r19.2.2.2)))) c10) (u_Text_at (u_Text_newFlows (u_Text_items (u_Text_itemCounts (u_Text_itemKeys s0.1.2 c11) c12) c13) c14) c15))].flatten := hD
        exact ih (i8 + 1) (u_State_second (u_State_keys (u_State_flows c9 r18.2.1) r18.2.2) ((r19.1, r19.2.1), (r19.2.2.1, r19.2.2.2))) _ _ _ hP hD hS (lv_sub hl [1, 0] rfl) hf
set_option maxRecDepth 100000 in
set_option maxHeartbeats 1000000 in
theorem c_CB_load (l : Launch) (D : va_G) (k : Nat → ClassId) (t : Nat → Nat) (b0 : Nat → Nat) (o0 : Nat) (s0 : CBS) (N : Nat) (out : Int32 × StateS × HistoryS × FI × FI × Int32 × Int32 × Int32) (hf : f_CB_load N s0.1.1.1 s0.1.1.2 s0.1.2.1.1.1 s0.1.2.1.1.2 s0.1.2.1.2.1 s0.1.2.1.2.2 s0.1.2.2.1.1 s0.1.2.2.1.2 s0.1.2.2.2 = some out) : CT l D k t yX7_load cX7_load 2 (some .int) rm_CB_load [.ref (b0 o0)] [W_CB k b0 o0 s0].flatten (some (.int out.1)) [W_CB k b0 o0 (u_CB_text (u_CB_history (u_CB_now s0 out.2.1) out.2.2.1) (u_Text_at (u_Text_newFlows (u_Text_items (u_Text_itemCounts (u_Text_itemKeys s0.1.2 out.2.2.2.1) out.2.2.2.2.1) out.2.2.2.2.2.1) out.2.2.2.2.2.2.1) out.2.2.2.2.2.2.2))].flatten := by
  refine kofW (by decide) (Nat.le_of_ble_eq_true rfl) ?_
  intro p e s m below meth c A ls X hP hD hS hl
  have hx := X.1.1
  have hb := X.1.2.1
  have hml := X.1.2.2.1
  have hown := X.1.2.2.2.1
  have hts := X.1.2.2.2.2
  have hl : lv_has ls 2 [(0, .ref (b0 o0))] := hl
  rw [f_CB_load] at hf
  refine lv_aload_n hx hb dX7_load_0 rfl (lv_at hl 0 rfl) ?_
  refine kget (v := .ref (b0 (o0+81))) X hP ff_X7_26 0 rfl rfl dX7_load_1 ?_
  refine lv_aload_n hx hb dX7_load_4 rfl (lv_at hl 0 rfl) ?_
  refine kget (v := .ref (b0 (o0+1))) X hP ff_X7_12 0 rfl rfl dX7_load_5 ?_
  obtain ⟨r1, hg_r1, hf⟩ := ofbind hf
  have hP : va_P D vwCl [[((b0 o0), .inr (7, [.ref (b0 (o0+1)), .ref (b0 (o0+14)), .ref (b0 (o0+81)), .ref (b0 (o0+85)), .ref (b0 (o0+152))]))], W_State k b0 (o0+1) s0.1.1.1, W_History k b0 (o0+14) s0.1.1.2, W_Text k b0 (o0+81) s0.1.2.1.1.1 s0.1.2.1.1.2 s0.1.2.1.2.1 s0.1.2.1.2.2 s0.1.2.2.1.1 s0.1.2.2.1.2 s0.1.2.2.2, W_Decoder k b0 (o0+85) s0.2.1, W_State k b0 (o0+152) s0.2.2].flatten _ := hP
  have hD : va_D A [[((b0 o0), .inr (7, [.ref (b0 (o0+1)), .ref (b0 (o0+14)), .ref (b0 (o0+81)), .ref (b0 (o0+85)), .ref (b0 (o0+152))]))], W_State k b0 (o0+1) s0.1.1.1, W_History k b0 (o0+14) s0.1.1.2, W_Text k b0 (o0+81) s0.1.2.1.1.1 s0.1.2.1.1.2 s0.1.2.1.2.1 s0.1.2.1.2.2 s0.1.2.2.1.1 s0.1.2.2.1.2 s0.1.2.2.2, W_Decoder k b0 (o0+85) s0.2.1, W_State k b0 (o0+152) s0.2.2].flatten := hD
  refine kcV (bs := [[((b0 o0), .inr (7, [.ref (b0 (o0+1)), .ref (b0 (o0+14)), .ref (b0 (o0+81)), .ref (b0 (o0+85)), .ref (b0 (o0+152))]))], W_State k b0 (o0+1) s0.1.1.1, W_History k b0 (o0+14) s0.1.1.2, W_Text k b0 (o0+81) s0.1.2.1.1.1 s0.1.2.1.1.2 s0.1.2.1.2.1 s0.1.2.1.2.2 s0.1.2.2.1.1 s0.1.2.2.1.2 s0.1.2.2.2, W_Decoder k b0 (o0+85) s0.2.1, W_State k b0 (o0+152) s0.2.2]) (br := [[((b0 o0), .inr (7, [.ref (b0 (o0+1)), .ref (b0 (o0+14)), .ref (b0 (o0+81)), .ref (b0 (o0+85)), .ref (b0 (o0+152))]))], W_History k b0 (o0+14) s0.1.1.2, W_Decoder k b0 (o0+85) s0.2.1, W_State k b0 (o0+152) s0.2.2]) (bc := [W_Text k b0 (o0+81) s0.1.2.1.1.1 s0.1.2.1.1.2 s0.1.2.1.2.1 s0.1.2.1.2.2 s0.1.2.2.1.1 s0.1.2.2.1.2 s0.1.2.2.2, W_State k b0 (o0+1) s0.1.1.1]) (bc' := [W_Text k b0 (o0+81) s0.1.2.1.1.1 s0.1.2.1.1.2 r1.2.1 r1.2.2.1 r1.2.2.2.1 r1.2.2.2.2.1 r1.2.2.2.2.2, W_State k b0 (o0+1) s0.1.1.1]) X hP hD hS (c_Text_read l D k t b0 (o0+81) s0.1.2.1.1.1 s0.1.2.1.1.2 s0.1.2.1.2.1 s0.1.2.1.2.2 s0.1.2.2.1.1 s0.1.2.2.1.2 s0.1.2.2.2 b0 (o0+1) s0.1.1.1 N r1 hg_r1) mv_X7_217 hl [0, 2, 4, 5] [3, 1] 6 ⟨rfl, rfl⟩ ⟨Nat.le_of_ble_eq_true rfl, Nat.le_of_ble_eq_true rfl⟩ rfl rfl rfl rfl rfl rfl rfl (Nat.le_of_ble_eq_true rfl) dX7_load_8 (fun H locs hP hD hS => ?_)
  have hP : va_P D vwCl [[((b0 o0), .inr (7, [.ref (b0 (o0+1)), .ref (b0 (o0+14)), .ref (b0 (o0+81)), .ref (b0 (o0+85)), .ref (b0 (o0+152))]))], W_History k b0 (o0+14) s0.1.1.2, W_Decoder k b0 (o0+85) s0.2.1, W_State k b0 (o0+152) s0.2.2, W_Text k b0 (o0+81) s0.1.2.1.1.1 s0.1.2.1.1.2 r1.2.1 r1.2.2.1 r1.2.2.2.1 r1.2.2.2.2.1 r1.2.2.2.2.2, W_State k b0 (o0+1) s0.1.1.1].flatten _ := hP
  have hD : va_D A [[((b0 o0), .inr (7, [.ref (b0 (o0+1)), .ref (b0 (o0+14)), .ref (b0 (o0+81)), .ref (b0 (o0+85)), .ref (b0 (o0+152))]))], W_History k b0 (o0+14) s0.1.1.2, W_Decoder k b0 (o0+85) s0.2.1, W_State k b0 (o0+152) s0.2.2, W_Text k b0 (o0+81) s0.1.2.1.1.1 s0.1.2.1.1.2 r1.2.1 r1.2.2.1 r1.2.2.2.1 r1.2.2.2.2.1 r1.2.2.2.2.2, W_State k b0 (o0+1) s0.1.1.1].flatten := hD
  refine lv_iconst (v := (-1)) hx hb dX7_load_11 (by decide) ?_
  refine lv_icmp_eq (tgt := 18) hx hb dX7_load_12 (by decide) (fun hc => ?_) (fun hc => ?_)
  · have hf := ofpos hf hc
    refine lv_aload_n hx hb dX7_load_18 rfl (lv_at hl 0 rfl) ?_
    refine kget (v := .ref (b0 (o0+81))) X hP ff_X7_26 0 rfl rfl dX7_load_19 ?_
    refine lv_aload_n hx hb dX7_load_22 rfl (lv_at hl 0 rfl) ?_
    refine kget (v := .ref (b0 (o0+1))) X hP ff_X7_12 0 rfl rfl dX7_load_23 ?_
    obtain ⟨r2, hg_r2, hf⟩ := ofbind hf
    refine kcV (bs := [[((b0 o0), .inr (7, [.ref (b0 (o0+1)), .ref (b0 (o0+14)), .ref (b0 (o0+81)), .ref (b0 (o0+85)), .ref (b0 (o0+152))]))], W_History k b0 (o0+14) s0.1.1.2, W_Decoder k b0 (o0+85) s0.2.1, W_State k b0 (o0+152) s0.2.2, W_Text k b0 (o0+81) s0.1.2.1.1.1 s0.1.2.1.1.2 r1.2.1 r1.2.2.1 r1.2.2.2.1 r1.2.2.2.2.1 r1.2.2.2.2.2, W_State k b0 (o0+1) s0.1.1.1]) (br := [[((b0 o0), .inr (7, [.ref (b0 (o0+1)), .ref (b0 (o0+14)), .ref (b0 (o0+81)), .ref (b0 (o0+85)), .ref (b0 (o0+152))]))], W_History k b0 (o0+14) s0.1.1.2, W_Decoder k b0 (o0+85) s0.2.1, W_State k b0 (o0+152) s0.2.2]) (bc := [W_Text k b0 (o0+81) s0.1.2.1.1.1 s0.1.2.1.1.2 r1.2.1 r1.2.2.1 r1.2.2.2.1 r1.2.2.2.2.1 r1.2.2.2.2.2, W_State k b0 (o0+1) s0.1.1.1]) (bc' := [W_Text k b0 (o0+81) s0.1.2.1.1.1 s0.1.2.1.1.2 r1.2.1 r1.2.2.1 r1.2.2.2.1 r1.2.2.2.2.1 r1.2.2.2.2.2, W_State k b0 (o0+1) s0.1.1.1]) X hP hD hS (c_Text_fits l D k t b0 (o0+81) s0.1.2.1.1.1 s0.1.2.1.1.2 r1.2.1 r1.2.2.1 r1.2.2.2.1 r1.2.2.2.2.1 r1.2.2.2.2.2 b0 (o0+1) s0.1.1.1 N r2 hg_r2) mv_X7_220 hl [0, 1, 2, 3] [4, 5] 6 ⟨rfl, rfl⟩ ⟨Nat.le_of_ble_eq_true rfl, Nat.le_of_ble_eq_true rfl⟩ rfl rfl rfl rfl rfl rfl rfl (Nat.le_of_ble_eq_true rfl) dX7_load_26 (fun H locs hP hD hS => ?_)
    have hP : va_P D vwCl [[((b0 o0), .inr (7, [.ref (b0 (o0+1)), .ref (b0 (o0+14)), .ref (b0 (o0+81)), .ref (b0 (o0+85)), .ref (b0 (o0+152))]))], W_History k b0 (o0+14) s0.1.1.2, W_Decoder k b0 (o0+85) s0.2.1, W_State k b0 (o0+152) s0.2.2, W_Text k b0 (o0+81) s0.1.2.1.1.1 s0.1.2.1.1.2 r1.2.1 r1.2.2.1 r1.2.2.2.1 r1.2.2.2.2.1 r1.2.2.2.2.2, W_State k b0 (o0+1) s0.1.1.1].flatten _ := hP
    have hD : va_D A [[((b0 o0), .inr (7, [.ref (b0 (o0+1)), .ref (b0 (o0+14)), .ref (b0 (o0+81)), .ref (b0 (o0+85)), .ref (b0 (o0+152))]))], W_History k b0 (o0+14) s0.1.1.2, W_Decoder k b0 (o0+85) s0.2.1, W_State k b0 (o0+152) s0.2.2, W_Text k b0 (o0+81) s0.1.2.1.1.1 s0.1.2.1.1.2 r1.2.1 r1.2.2.1 r1.2.2.2.1 r1.2.2.2.2.1 r1.2.2.2.2.2, W_State k b0 (o0+1) s0.1.1.1].flatten := hD
    refine lv_if_ne (tgt := 35) hx hb dX7_load_29 (by decide) (fun hc => ?_) (fun hc => ?_)
    · have hf := ofneg hf hc
      refine lv_aload_n hx hb dX7_load_35 rfl (lv_at hl 0 rfl) ?_
      refine kget (v := .ref (b0 (o0+14))) X hP ff_X7_19 0 rfl rfl dX7_load_36 ?_
      refine lv_aload_n hx hb dX7_load_39 rfl (lv_at hl 0 rfl) ?_
      refine kget (v := .ref (b0 (o0+1))) X hP ff_X7_12 0 rfl rfl dX7_load_40 ?_
      obtain ⟨r3, hg_r3, hf⟩ := ofbind hf
      refine kcV (bs := [[((b0 o0), .inr (7, [.ref (b0 (o0+1)), .ref (b0 (o0+14)), .ref (b0 (o0+81)), .ref (b0 (o0+85)), .ref (b0 (o0+152))]))], W_History k b0 (o0+14) s0.1.1.2, W_Decoder k b0 (o0+85) s0.2.1, W_State k b0 (o0+152) s0.2.2, W_Text k b0 (o0+81) s0.1.2.1.1.1 s0.1.2.1.1.2 r1.2.1 r1.2.2.1 r1.2.2.2.1 r1.2.2.2.2.1 r1.2.2.2.2.2, W_State k b0 (o0+1) s0.1.1.1]) (br := [[((b0 o0), .inr (7, [.ref (b0 (o0+1)), .ref (b0 (o0+14)), .ref (b0 (o0+81)), .ref (b0 (o0+85)), .ref (b0 (o0+152))]))], W_Decoder k b0 (o0+85) s0.2.1, W_State k b0 (o0+152) s0.2.2, W_Text k b0 (o0+81) s0.1.2.1.1.1 s0.1.2.1.1.2 r1.2.1 r1.2.2.1 r1.2.2.2.1 r1.2.2.2.2.1 r1.2.2.2.2.2]) (bc := [W_History k b0 (o0+14) s0.1.1.2, W_State k b0 (o0+1) s0.1.1.1]) (bc' := [W_History k b0 (o0+14) r3, W_State k b0 (o0+1) s0.1.1.1]) X hP hD hS (c_History_push l D k t b0 (o0+14) s0.1.1.2 b0 (o0+1) s0.1.1.1 r3 hg_r3) mv_X7_44 hl [0, 2, 3, 4] [1, 5] 4 ⟨rfl, rfl⟩ ⟨Nat.le_of_ble_eq_true rfl, Nat.le_of_ble_eq_true rfl⟩ rfl rfl rfl rfl rfl rfl rfl (Nat.le_of_ble_eq_true rfl) dX7_load_43 (fun H locs hP hD hS => ?_)
      have hP : va_P D vwCl [[((b0 o0), .inr (7, [.ref (b0 (o0+1)), .ref (b0 (o0+14)), .ref (b0 (o0+81)), .ref (b0 (o0+85)), .ref (b0 (o0+152))]))], W_Decoder k b0 (o0+85) s0.2.1, W_State k b0 (o0+152) s0.2.2, W_Text k b0 (o0+81) s0.1.2.1.1.1 s0.1.2.1.1.2 r1.2.1 r1.2.2.1 r1.2.2.2.1 r1.2.2.2.2.1 r1.2.2.2.2.2, W_History k b0 (o0+14) r3, W_State k b0 (o0+1) s0.1.1.1].flatten _ := hP
      have hD : va_D A [[((b0 o0), .inr (7, [.ref (b0 (o0+1)), .ref (b0 (o0+14)), .ref (b0 (o0+81)), .ref (b0 (o0+85)), .ref (b0 (o0+152))]))], W_Decoder k b0 (o0+85) s0.2.1, W_State k b0 (o0+152) s0.2.2, W_Text k b0 (o0+81) s0.1.2.1.1.1 s0.1.2.1.1.2 r1.2.1 r1.2.2.1 r1.2.2.2.1 r1.2.2.2.2.1 r1.2.2.2.2.2, W_History k b0 (o0+14) r3, W_State k b0 (o0+1) s0.1.1.1].flatten := hD
      refine lv_iconst (v := 0) hx hb dX7_load_46 (by decide) ?_
      refine lv_istore_n (lv' := [(1, .int 0), (0, .ref (b0 o0))]) hx hb dX7_load_47 rfl hl (by decide) rfl (fun ls hl => ?_)
      obtain ⟨hP, hD⟩ := B_perm (br := [[((b0 o0), .inr (7, [.ref (b0 (o0+1)), .ref (b0 (o0+14)), .ref (b0 (o0+81)), .ref (b0 (o0+85)), .ref (b0 (o0+152))]))], W_State k b0 (o0+1) s0.1.1.1, W_History k b0 (o0+14) r3, W_Text k b0 (o0+81) s0.1.2.1.1.1 s0.1.2.1.1.2 r1.2.1 r1.2.2.1 r1.2.2.2.1 r1.2.2.2.2.1 r1.2.2.2.2.2, W_Decoder k b0 (o0+85) s0.2.1, W_State k b0 (o0+152) s0.2.2]) hP hD [0, 5, 4, 3, 1, 2] rfl rfl
      have hP : va_P D vwCl [W_CB k b0 o0 (u_CB_text (u_CB_history s0 r3) (u_Text_at (u_Text_newFlows (u_Text_items (u_Text_itemCounts (u_Text_itemKeys s0.1.2 r1.2.1) r1.2.2.1) r1.2.2.2.1) r1.2.2.2.2.1) r1.2.2.2.2.2))].flatten _ := hP
      have hD : va_D A [W_CB k b0 o0 (u_CB_text (u_CB_history s0 r3) (u_Text_at (u_Text_newFlows (u_Text_items (u_Text_itemCounts (u_Text_itemKeys s0.1.2 r1.2.1) r1.2.2.1) r1.2.2.2.1) r1.2.2.2.2.1) r1.2.2.2.2.2))].flatten := hD
      refine w_CB_load_L48 X b0 o0 s0 N r3 r1.2.1 r1.2.2.1 r1.2.2.2.1 r1.2.2.2.2.1 r1.2.2.2.2.2 out _ ?_ N 0 s0.1.1.1 _ _ _ hP hD hS (lv_sub hl [1, 0] rfl) hf
      · intro i20 c21 H locs ls hP hD hS hl hf
        refine lv_aload_n hx hb dX7_load_106 rfl (lv_at hl 0 rfl) ?_
        refine kget (v := .ref (b0 (o0+1))) X hP ff_X7_12 0 rfl rfl dX7_load_107 ?_
        refine kget (v := .int c21.1.1.2) X hP ff_X7_83 1 rfl rfl dX7_load_110 ?_
        have hf := Option.some.inj hf
        subst hf
        exact kiret (v := c21.1.1.2) X hP hD hS dX7_load_113
    · have hf := ofpos hf hc
      refine lv_bipush (v := (-5)) hx hb dX7_load_32 (by decide) ?_
      obtain ⟨hP, hD⟩ := B_perm (br := [[((b0 o0), .inr (7, [.ref (b0 (o0+1)), .ref (b0 (o0+14)), .ref (b0 (o0+81)), .ref (b0 (o0+85)), .ref (b0 (o0+152))]))], W_State k b0 (o0+1) s0.1.1.1, W_History k b0 (o0+14) s0.1.1.2, W_Text k b0 (o0+81) s0.1.2.1.1.1 s0.1.2.1.1.2 r1.2.1 r1.2.2.1 r1.2.2.2.1 r1.2.2.2.2.1 r1.2.2.2.2.2, W_Decoder k b0 (o0+85) s0.2.1, W_State k b0 (o0+152) s0.2.2]) hP hD [0, 5, 1, 4, 2, 3] rfl rfl
      have hP : va_P D vwCl [W_CB k b0 o0 (u_CB_text s0 (u_Text_at (u_Text_newFlows (u_Text_items (u_Text_itemCounts (u_Text_itemKeys s0.1.2 r1.2.1) r1.2.2.1) r1.2.2.2.1) r1.2.2.2.2.1) r1.2.2.2.2.2))].flatten _ := hP
      have hD : va_D A [W_CB k b0 o0 (u_CB_text s0 (u_Text_at (u_Text_newFlows (u_Text_items (u_Text_itemCounts (u_Text_itemKeys s0.1.2 r1.2.1) r1.2.2.1) r1.2.2.2.1) r1.2.2.2.2.1) r1.2.2.2.2.2))].flatten := hD
      have hf := Option.some.inj hf
      subst hf
      exact kiret (v := (-5)) X hP hD hS dX7_load_34
  · have hf := ofneg hf hc
    refine lv_bipush (v := (-4)) hx hb dX7_load_15 (by decide) ?_
    obtain ⟨hP, hD⟩ := B_perm (br := [[((b0 o0), .inr (7, [.ref (b0 (o0+1)), .ref (b0 (o0+14)), .ref (b0 (o0+81)), .ref (b0 (o0+85)), .ref (b0 (o0+152))]))], W_State k b0 (o0+1) s0.1.1.1, W_History k b0 (o0+14) s0.1.1.2, W_Text k b0 (o0+81) s0.1.2.1.1.1 s0.1.2.1.1.2 r1.2.1 r1.2.2.1 r1.2.2.2.1 r1.2.2.2.2.1 r1.2.2.2.2.2, W_Decoder k b0 (o0+85) s0.2.1, W_State k b0 (o0+152) s0.2.2]) hP hD [0, 5, 1, 4, 2, 3] rfl rfl
    have hP : va_P D vwCl [W_CB k b0 o0 (u_CB_text s0 (u_Text_at (u_Text_newFlows (u_Text_items (u_Text_itemCounts (u_Text_itemKeys s0.1.2 r1.2.1) r1.2.2.1) r1.2.2.2.1) r1.2.2.2.2.1) r1.2.2.2.2.2))].flatten _ := hP
    have hD : va_D A [W_CB k b0 o0 (u_CB_text s0 (u_Text_at (u_Text_newFlows (u_Text_items (u_Text_itemCounts (u_Text_itemKeys s0.1.2 r1.2.1) r1.2.2.1) r1.2.2.2.1) r1.2.2.2.2.1) r1.2.2.2.2.2))].flatten := hD
    have hf := Option.some.inj hf
    subst hf
    exact kiret (v := (-4)) X hP hD hS dX7_load_17
/-! CB_hashOfBraid_s: private long hashOfBraid(long, CounterBraid$Braid); -/
abbrev rm_CB_hashOfBraid_s : Room := ({ frames := 0, cells := 0, slots := 0, locals := 0 } : Room)
def f_CB_hashOfBraid_s_L6 (v_now_flows : Int32) (v_now_second_truths : FJ) (K40 : Int64 → Int32 → Option (Int64)) : Nat → Int64 → Int32 → Option (Int64)
  | 0, _, _ => none
  | n + 1, i1, i2 => if v_now_flows ≤ i2 then K40 i1 i2 else if ck i2 16 = true then f_CB_hashOfBraid_s_L6 v_now_flows v_now_second_truths K40 n ((31 * i1) + (v_now_second_truths i2.toNatClampNeg)) (i2 + 1) else none
def f_CB_hashOfBraid_s_L43 (v_now_form_counters : Int32) (v_now_second_rests : FI) (v_now_second_marks : FI) (K98 : Int64 → Int32 → Option (Int64)) : Nat → Int64 → Int32 → Option (Int64)
  | 0, _, _ => none
  | n + 1, i5, i6 => if v_now_form_counters ≤ i6 then K98 i5 i6 else if ck i6 24 = true then if ck i6 24 = true then f_CB_hashOfBraid_s_L43 v_now_form_counters v_now_second_rests v_now_second_marks K98 n ((31 * ((31 * i5) + ((v_now_second_rests i6.toNatClampNeg).toInt64))) + ((v_now_second_marks i6.toNatClampNeg).toInt64)) (i6 + 1) else none else none
def f_CB_hashOfBraid_s_L101 (v_now_form_countersAbove : Int32) (v_now_second_numbers : FJ) (K138 : Int64 → Int32 → Option (Int64)) : Nat → Int64 → Int32 → Option (Int64)
  | 0, _, _ => none
  | n + 1, i9, i10 => if v_now_form_countersAbove ≤ i10 then K138 i9 i10 else if ck i10 16 = true then f_CB_hashOfBraid_s_L101 v_now_form_countersAbove v_now_second_numbers K138 n ((31 * i9) + (v_now_second_numbers i10.toNatClampNeg)) (i10 + 1) else none
def f_CB_hashOfBraid_s (N : Nat) (x1 : Int64) (v_now_form_counters : Int32) (v_now_form_countersAbove : Int32) (v_now_flows : Int32) (v_now_second_truths : FJ) (v_now_second_rests : FI) (v_now_second_marks : FI) (v_now_second_numbers : FJ) : Option (Int64) := f_CB_hashOfBraid_s_L6 v_now_flows v_now_second_truths (fun i3 i4 => f_CB_hashOfBraid_s_L43 v_now_form_counters v_now_second_rests v_now_second_marks (fun i7 i8 => f_CB_hashOfBraid_s_L101 v_now_form_countersAbove v_now_second_numbers (fun i11 i12 => some i11) N i7 0) N i3 0) N x1 0
abbrev Q_CB_hashOfBraid_s (below : List Frame) (D : va_G) (k : Nat → ClassId) (A : Nat → Prop) (args : Array Value) (s : State) (b0 : Nat → Nat) (o0 : Nat) (s0 : CBS) (out : Int64) : State → Prop := MQ below (QW D k A (some (.long out)) [W_CB k b0 o0 s0].flatten) args s 0 0 A
set_option maxRecDepth 100000 in
set_option maxHeartbeats 1000000 in
theorem w_CB_hashOfBraid_s_L6 {p : Program} {l : Launch} {e : Env} {s : State} {m : MethodId} {below : List Frame} {meth : Method} {c : Code} {args : Array Value} {A : Nat → Prop} {D : va_G} {k : Nat → ClassId} {t : Nat → Nat} (X : BX l D k t p s m args meth c cX7_hashOfBraid 7 RX7 (some .long) A) (b0 : Nat → Nat) (o0 : Nat) (s0 : CBS) (N : Nat) (out : Int64) (K40 : Int64 → Int32 → Option (Int64)) (hK40 : ∀ (i1' : Int64) (i2' : Int32) (H : Heap) (locs : List Loc) (ls : Array Slot), va_P D vwCl [W_CB k b0 o0 s0].flatten H → va_D A [W_CB k b0 o0 s0].flatten → va_S A s.heap H locs → lv_has ls 7 [(0, .ref (b0 o0)), (3, .ref (b0 (o0+9))), (4, .long i1')] → K40 i1' i2' = some out → W p l e rm_CB_hashOfBraid_s s m args below meth c H locs 0 0 (Q_CB_hashOfBraid_s below D k A args s b0 o0 s0 out) (F0 m 40 ls [])) : ∀ (n : Nat) (i1 : Int64) (i2 : Int32) (H : Heap) (locs : List Loc) (ls : Array Slot), va_P D vwCl [W_CB k b0 o0 s0].flatten H → va_D A [W_CB k b0 o0 s0].flatten → va_S A s.heap H locs → lv_has ls 7 [(0, .ref (b0 o0)), (3, .ref (b0 (o0+9))), (4, .long i1), (6, .int i2)] → f_CB_hashOfBraid_s_L6 s0.1.1.1.1.1.2 s0.1.1.1.2.2.1.1 K40 n i1 i2 = some out → W p l e rm_CB_hashOfBraid_s s m args below meth c H locs 0 0 (Q_CB_hashOfBraid_s below D k A args s b0 o0 s0 out) (F0 m 6 ls []) := by
  have hx := X.1.1
  have hb := X.1.2.1
  have hml := X.1.2.2.1
  have hown := X.1.2.2.2.1
  have hts := X.1.2.2.2.2
  intro n
  induction n with
  | zero =>
    intro i1 i2 H locs ls hP hD hS hl hf
    rw [f_CB_hashOfBraid_s_L6] at hf
    cases hf
  | succ n ih =>
    intro i1 i2 H locs ls hP hD hS hl hf
    rw [f_CB_hashOfBraid_s_L6] at hf
    refine lv_iload hx hb dX7_hashOfBraid_6 (lv_at hl 3 rfl) ?_
    refine lv_aload_n hx hb dX7_hashOfBraid_8 rfl (lv_at hl 0 rfl) ?_
    refine kget (v := .ref (b0 (o0+1))) X hP ff_X7_12 0 rfl rfl dX7_hashOfBraid_9 ?_
    refine kget (v := .int s0.1.1.1.1.1.2) X hP ff_X7_83 1 rfl rfl dX7_hashOfBraid_12 ?_
    refine lv_icmp_ge (tgt := 40) hx hb dX7_hashOfBraid_15 (by decide) (fun hc => ?_) (fun hc => ?_)
    · have hf := ofpos hf hc
      exact hK40 i1 i2 _ _ _ hP hD hS (lv_sub hl [0, 1, 2] rfl) hf
    · have hf := ofneg hf hc
      refine lv_ldc2 (v := 31) hx hb hown (hts _ kc_X7_235) dX7_hashOfBraid_18 ?_
      refine lv_lload hx hb dX7_hashOfBraid_21 (lv_at hl 2 rfl) ?_
      refine lv_lmul hx hb dX7_hashOfBraid_23 ?_
      refine lv_aload_n hx hb dX7_hashOfBraid_24 rfl (lv_at hl 1 rfl) ?_
      refine kget (v := .ref (b0 (o0+10))) X hP ff_X7_118 9 rfl rfl dX7_hashOfBraid_25 ?_
      refine lv_iload hx hb dX7_hashOfBraid_28 (lv_at hl 3 rfl) ?_
      obtain ⟨hc, hf⟩ := ofck hf
      refine klald (f := s0.1.1.1.2.2.1.1) (n := 16) X hP 10 rfl hc dX7_hashOfBraid_30 ?_
      refine lv_ladd hx hb dX7_hashOfBraid_31 ?_
      refine lv_lstore (lv' := [(4, .long ((31 * i1) + (s0.1.1.1.2.2.1.1 i2.toNatClampNeg))), (0, .ref (b0 o0)), (3, .ref (b0 (o0+9))), (6, .int i2)]) hx hb dX7_hashOfBraid_32 hl (by decide) rfl (fun ls hl => ?_)
      refine lv_iinc (v := i2 + 1) (lv' := [(6, .int (i2 + 1)), (4, .long ((31 * i1) + (s0.1.1.1.2.2.1.1 i2.toNatClampNeg))), (0, .ref (b0 o0)), (3, .ref (b0 (o0+9)))]) hx hb dX7_hashOfBraid_34 hl (k := 3) rfl rfl (by decide) rfl (fun ls hl => ?_)
      refine lv_goto (tgt := 6) hx hb dX7_hashOfBraid_37 (by decide) ?_
      exact ih ((31 * i1) + (s0.1.1.1.2.2.1.1 i2.toNatClampNeg)) (i2 + 1) _ _ _ hP hD hS (lv_sub hl [2, 3, 1, 0] rfl) hf
set_option maxRecDepth 100000 in
set_option maxHeartbeats 1000000 in
theorem w_CB_hashOfBraid_s_L43 {p : Program} {l : Launch} {e : Env} {s : State} {m : MethodId} {below : List Frame} {meth : Method} {c : Code} {args : Array Value} {A : Nat → Prop} {D : va_G} {k : Nat → ClassId} {t : Nat → Nat} (X : BX l D k t p s m args meth c cX7_hashOfBraid 7 RX7 (some .long) A) (b0 : Nat → Nat) (o0 : Nat) (s0 : CBS) (N : Nat) (out : Int64) (K98 : Int64 → Int32 → Option (Int64)) (hK98 : ∀ (i5' : Int64) (i6' : Int32) (H : Heap) (locs : List Loc) (ls : Array Slot), va_P D vwCl [W_CB k b0 o0 s0].flatten H → va_D A [W_CB k b0 o0 s0].flatten → va_S A s.heap H locs → lv_has ls 7 [(0, .ref (b0 o0)), (3, .ref (b0 (o0+9))), (4, .long i5')] → K98 i5' i6' = some out → W p l e rm_CB_hashOfBraid_s s m args below meth c H locs 0 0 (Q_CB_hashOfBraid_s below D k A args s b0 o0 s0 out) (F0 m 98 ls [])) : ∀ (n : Nat) (i5 : Int64) (i6 : Int32) (H : Heap) (locs : List Loc) (ls : Array Slot), va_P D vwCl [W_CB k b0 o0 s0].flatten H → va_D A [W_CB k b0 o0 s0].flatten → va_S A s.heap H locs → lv_has ls 7 [(0, .ref (b0 o0)), (3, .ref (b0 (o0+9))), (4, .long i5), (6, .int i6)] → f_CB_hashOfBraid_s_L43 s0.1.1.1.1.1.1.1.1.1 s0.1.1.1.2.2.1.2 s0.1.1.1.2.2.2.1 K98 n i5 i6 = some out → W p l e rm_CB_hashOfBraid_s s m args below meth c H locs 0 0 (Q_CB_hashOfBraid_s below D k A args s b0 o0 s0 out) (F0 m 43 ls []) := by
  have hx := X.1.1
  have hb := X.1.2.1
  have hml := X.1.2.2.1
  have hown := X.1.2.2.2.1
  have hts := X.1.2.2.2.2
  intro n
  induction n with
  | zero =>
    intro i5 i6 H locs ls hP hD hS hl hf
    rw [f_CB_hashOfBraid_s_L43] at hf
    cases hf
  | succ n ih =>
    intro i5 i6 H locs ls hP hD hS hl hf
    rw [f_CB_hashOfBraid_s_L43] at hf
    refine lv_iload hx hb dX7_hashOfBraid_43 (lv_at hl 3 rfl) ?_
    refine lv_aload_n hx hb dX7_hashOfBraid_45 rfl (lv_at hl 0 rfl) ?_
    refine kget (v := .ref (b0 (o0+1))) X hP ff_X7_12 0 rfl rfl dX7_hashOfBraid_46 ?_
    refine kget (v := .ref (b0 (o0+2))) X hP ff_X7_48 1 rfl rfl dX7_hashOfBraid_49 ?_
    refine kget (v := .int s0.1.1.1.1.1.1.1.1.1) X hP ff_X7_52 2 rfl rfl dX7_hashOfBraid_52 ?_
    refine lv_icmp_ge (tgt := 98) hx hb dX7_hashOfBraid_55 (by decide) (fun hc => ?_) (fun hc => ?_)
    · have hf := ofpos hf hc
      exact hK98 i5 i6 _ _ _ hP hD hS (lv_sub hl [0, 1, 2] rfl) hf
    · have hf := ofneg hf hc
      refine lv_ldc2 (v := 31) hx hb hown (hts _ kc_X7_235) dX7_hashOfBraid_58 ?_
      refine lv_lload hx hb dX7_hashOfBraid_61 (lv_at hl 2 rfl) ?_
      refine lv_lmul hx hb dX7_hashOfBraid_63 ?_
      refine lv_aload_n hx hb dX7_hashOfBraid_64 rfl (lv_at hl 1 rfl) ?_
      refine kget (v := .ref (b0 (o0+11))) X hP ff_X7_145 9 rfl rfl dX7_hashOfBraid_65 ?_
      refine lv_iload hx hb dX7_hashOfBraid_68 (lv_at hl 3 rfl) ?_
      obtain ⟨hc, hf⟩ := ofck hf
      refine kiald (f := s0.1.1.1.2.2.1.2) (n := 24) X hP 11 rfl hc dX7_hashOfBraid_70 ?_
      refine lv_i2l (v := (s0.1.1.1.2.2.1.2 i6.toNatClampNeg).toInt64) hx hb dX7_hashOfBraid_71 rfl ?_
      refine lv_ladd hx hb dX7_hashOfBraid_72 ?_
      refine lv_lstore (lv' := [(4, .long ((31 * i5) + ((s0.1.1.1.2.2.1.2 i6.toNatClampNeg).toInt64))), (0, .ref (b0 o0)), (3, .ref (b0 (o0+9))), (6, .int i6)]) hx hb dX7_hashOfBraid_73 hl (by decide) rfl (fun ls hl => ?_)
      refine lv_ldc2 (v := 31) hx hb hown (hts _ kc_X7_235) dX7_hashOfBraid_75 ?_
      refine lv_lload hx hb dX7_hashOfBraid_78 (lv_at hl 0 rfl) ?_
      refine lv_lmul hx hb dX7_hashOfBraid_80 ?_
      refine lv_aload_n hx hb dX7_hashOfBraid_81 rfl (lv_at hl 2 rfl) ?_
      refine kget (v := .ref (b0 (o0+12))) X hP ff_X7_148 9 rfl rfl dX7_hashOfBraid_82 ?_
      refine lv_iload hx hb dX7_hashOfBraid_85 (lv_at hl 3 rfl) ?_
      obtain ⟨hc, hf⟩ := ofck hf
      refine kiald (f := s0.1.1.1.2.2.2.1) (n := 24) X hP 12 rfl hc dX7_hashOfBraid_87 ?_
      refine lv_i2l (v := (s0.1.1.1.2.2.2.1 i6.toNatClampNeg).toInt64) hx hb dX7_hashOfBraid_88 rfl ?_
      refine lv_ladd hx hb dX7_hashOfBraid_89 ?_
      refine lv_lstore (lv' := [(4, .long ((31 * ((31 * i5) + ((s0.1.1.1.2.2.1.2 i6.toNatClampNeg).toInt64))) + ((s0.1.1.1.2.2.2.1 i6.toNatClampNeg).toInt64))), (0, .ref (b0 o0)), (3, .ref (b0 (o0+9))), (6, .int i6)]) hx hb dX7_hashOfBraid_90 hl (by decide) rfl (fun ls hl => ?_)
      refine lv_iinc (v := i6 + 1) (lv' := [(6, .int (i6 + 1)), (4, .long ((31 * ((31 * i5) + ((s0.1.1.1.2.2.1.2 i6.toNatClampNeg).toInt64))) + ((s0.1.1.1.2.2.2.1 i6.toNatClampNeg).toInt64))), (0, .ref (b0 o0)), (3, .ref (b0 (o0+9)))]) hx hb dX7_hashOfBraid_92 hl (k := 3) rfl rfl (by decide) rfl (fun ls hl => ?_)
      refine lv_goto (tgt := 43) hx hb dX7_hashOfBraid_95 (by decide) ?_
      exact ih ((31 * ((31 * i5) + ((s0.1.1.1.2.2.1.2 i6.toNatClampNeg).toInt64))) + ((s0.1.1.1.2.2.2.1 i6.toNatClampNeg).toInt64)) (i6 + 1) _ _ _ hP hD hS (lv_sub hl [2, 3, 1, 0] rfl) hf
set_option maxRecDepth 100000 in
set_option maxHeartbeats 1000000 in
theorem w_CB_hashOfBraid_s_L101 {p : Program} {l : Launch} {e : Env} {s : State} {m : MethodId} {below : List Frame} {meth : Method} {c : Code} {args : Array Value} {A : Nat → Prop} {D : va_G} {k : Nat → ClassId} {t : Nat → Nat} (X : BX l D k t p s m args meth c cX7_hashOfBraid 7 RX7 (some .long) A) (b0 : Nat → Nat) (o0 : Nat) (s0 : CBS) (N : Nat) (out : Int64) (K138 : Int64 → Int32 → Option (Int64)) (hK138 : ∀ (i9' : Int64) (i10' : Int32) (H : Heap) (locs : List Loc) (ls : Array Slot), va_P D vwCl [W_CB k b0 o0 s0].flatten H → va_D A [W_CB k b0 o0 s0].flatten → va_S A s.heap H locs → lv_has ls 7 [(4, .long i9')] → K138 i9' i10' = some out → W p l e rm_CB_hashOfBraid_s s m args below meth c H locs 0 0 (Q_CB_hashOfBraid_s below D k A args s b0 o0 s0 out) (F0 m 138 ls [])) : ∀ (n : Nat) (i9 : Int64) (i10 : Int32) (H : Heap) (locs : List Loc) (ls : Array Slot), va_P D vwCl [W_CB k b0 o0 s0].flatten H → va_D A [W_CB k b0 o0 s0].flatten → va_S A s.heap H locs → lv_has ls 7 [(0, .ref (b0 o0)), (3, .ref (b0 (o0+9))), (4, .long i9), (6, .int i10)] → f_CB_hashOfBraid_s_L101 s0.1.1.1.1.1.1.2.1.1 s0.1.1.1.2.2.2.2 K138 n i9 i10 = some out → W p l e rm_CB_hashOfBraid_s s m args below meth c H locs 0 0 (Q_CB_hashOfBraid_s below D k A args s b0 o0 s0 out) (F0 m 101 ls []) := by
  have hx := X.1.1
  have hb := X.1.2.1
  have hml := X.1.2.2.1
  have hown := X.1.2.2.2.1
  have hts := X.1.2.2.2.2
  intro n
  induction n with
  | zero =>
    intro i9 i10 H locs ls hP hD hS hl hf
    rw [f_CB_hashOfBraid_s_L101] at hf
    cases hf
  | succ n ih =>
    intro i9 i10 H locs ls hP hD hS hl hf
    rw [f_CB_hashOfBraid_s_L101] at hf
    refine lv_iload hx hb dX7_hashOfBraid_101 (lv_at hl 3 rfl) ?_
    refine lv_aload_n hx hb dX7_hashOfBraid_103 rfl (lv_at hl 0 rfl) ?_
    refine kget (v := .ref (b0 (o0+1))) X hP ff_X7_12 0 rfl rfl dX7_hashOfBraid_104 ?_
    refine kget (v := .ref (b0 (o0+2))) X hP ff_X7_48 1 rfl rfl dX7_hashOfBraid_107 ?_
    refine kget (v := .int s0.1.1.1.1.1.1.2.1.1) X hP ff_X7_67 2 rfl rfl dX7_hashOfBraid_110 ?_
    refine lv_icmp_ge (tgt := 138) hx hb dX7_hashOfBraid_113 (by decide) (fun hc => ?_) (fun hc => ?_)
    · have hf := ofpos hf hc
      exact hK138 i9 i10 _ _ _ hP hD hS (lv_sub hl [2] rfl) hf
    · have hf := ofneg hf hc
      refine lv_ldc2 (v := 31) hx hb hown (hts _ kc_X7_235) dX7_hashOfBraid_116 ?_
      refine lv_lload hx hb dX7_hashOfBraid_119 (lv_at hl 2 rfl) ?_
      refine lv_lmul hx hb dX7_hashOfBraid_121 ?_
      refine lv_aload_n hx hb dX7_hashOfBraid_122 rfl (lv_at hl 1 rfl) ?_
      refine kget (v := .ref (b0 (o0+13))) X hP ff_X7_151 9 rfl rfl dX7_hashOfBraid_123 ?_
      refine lv_iload hx hb dX7_hashOfBraid_126 (lv_at hl 3 rfl) ?_
      obtain ⟨hc, hf⟩ := ofck hf
      refine klald (f := s0.1.1.1.2.2.2.2) (n := 16) X hP 13 rfl hc dX7_hashOfBraid_128 ?_
      refine lv_ladd hx hb dX7_hashOfBraid_129 ?_
      refine lv_lstore (lv' := [(4, .long ((31 * i9) + (s0.1.1.1.2.2.2.2 i10.toNatClampNeg))), (0, .ref (b0 o0)), (3, .ref (b0 (o0+9))), (6, .int i10)]) hx hb dX7_hashOfBraid_130 hl (by decide) rfl (fun ls hl => ?_)
      refine lv_iinc (v := i10 + 1) (lv' := [(6, .int (i10 + 1)), (4, .long ((31 * i9) + (s0.1.1.1.2.2.2.2 i10.toNatClampNeg))), (0, .ref (b0 o0)), (3, .ref (b0 (o0+9)))]) hx hb dX7_hashOfBraid_132 hl (k := 3) rfl rfl (by decide) rfl (fun ls hl => ?_)
      refine lv_goto (tgt := 101) hx hb dX7_hashOfBraid_135 (by decide) ?_
      exact ih ((31 * i9) + (s0.1.1.1.2.2.2.2 i10.toNatClampNeg)) (i10 + 1) _ _ _ hP hD hS (lv_sub hl [2, 3, 1, 0] rfl) hf
set_option maxRecDepth 100000 in
set_option maxHeartbeats 1000000 in
theorem c_CB_hashOfBraid_s (l : Launch) (D : va_G) (k : Nat → ClassId) (t : Nat → Nat) (b0 : Nat → Nat) (o0 : Nat) (s0 : CBS) (x1 : Int64) (N : Nat) (out : Int64) (hf : f_CB_hashOfBraid_s N x1 s0.1.1.1.1.1.1.1.1.1 s0.1.1.1.1.1.1.2.1.1 s0.1.1.1.1.1.2 s0.1.1.1.2.2.1.1 s0.1.1.1.2.2.1.2 s0.1.1.1.2.2.2.1 s0.1.1.1.2.2.2.2 = some out) : CT l D k t yX7_hashOfBraid cX7_hashOfBraid 7 (some .long) rm_CB_hashOfBraid_s [.ref (b0 o0), .long x1, .ref (b0 (o0+9))] [W_CB k b0 o0 s0].flatten (some (.long out)) [W_CB k b0 o0 s0].flatten := by
  refine kofW (by decide) (Nat.le_of_ble_eq_true rfl) ?_
  intro p e s m below meth c A ls X hP hD hS hl
  have hx := X.1.1
  have hb := X.1.2.1
  have hml := X.1.2.2.1
  have hown := X.1.2.2.2.1
  have hts := X.1.2.2.2.2
  have hl : lv_has ls 7 [(0, .ref (b0 o0)), (1, .long x1), (3, .ref (b0 (o0+9)))] := hl
  rw [f_CB_hashOfBraid_s] at hf
  refine lv_lload_n hx hb dX7_hashOfBraid_0 rfl (lv_at hl 1 rfl) ?_
  refine lv_lstore (lv' := [(4, .long x1), (0, .ref (b0 o0)), (1, .long x1), (3, .ref (b0 (o0+9)))]) hx hb dX7_hashOfBraid_1 hl (by decide) rfl (fun ls hl => ?_)
  refine lv_iconst (v := 0) hx hb dX7_hashOfBraid_3 (by decide) ?_
  refine lv_istore (lv' := [(6, .int 0), (4, .long x1), (0, .ref (b0 o0)), (1, .long x1), (3, .ref (b0 (o0+9)))]) hx hb dX7_hashOfBraid_4 hl (by decide) rfl (fun ls hl => ?_)
  refine w_CB_hashOfBraid_s_L6 X b0 o0 s0 N out _ ?_ N x1 0 _ _ _ hP hD hS (lv_sub hl [2, 4, 1, 0] rfl) hf
  · intro i3 i4 H locs ls hP hD hS hl hf
    refine lv_iconst (v := 0) hx hb dX7_hashOfBraid_40 (by decide) ?_
    refine lv_istore (lv' := [(6, .int 0), (0, .ref (b0 o0)), (3, .ref (b0 (o0+9))), (4, .long i3)]) hx hb dX7_hashOfBraid_41 hl (by decide) rfl (fun ls hl => ?_)
    refine w_CB_hashOfBraid_s_L43 X b0 o0 s0 N out _ ?_ N i3 0 _ _ _ hP hD hS (lv_sub hl [1, 2, 3, 0] rfl) hf
    · intro i7 i8 H locs ls hP hD hS hl hf
      refine lv_iconst (v := 0) hx hb dX7_hashOfBraid_98 (by decide) ?_
      refine lv_istore (lv' := [(6, .int 0), (0, .ref (b0 o0)), (3, .ref (b0 (o0+9))), (4, .long i7)]) hx hb dX7_hashOfBraid_99 hl (by decide) rfl (fun ls hl => ?_)
      refine w_CB_hashOfBraid_s_L101 X b0 o0 s0 N out _ ?_ N i7 0 _ _ _ hP hD hS (lv_sub hl [1, 2, 3, 0] rfl) hf
      · intro i11 i12 H locs ls hP hD hS hl hf
        refine lv_lload hx hb dX7_hashOfBraid_138 (lv_at hl 0 rfl) ?_
        have hf := Option.some.inj hf
        subst hf
        exact klret (v := i11) X hP hD hS dX7_hashOfBraid_140
/-! CB_hashOfBraid_f: private long hashOfBraid(long, CounterBraid$Braid); -/
abbrev rm_CB_hashOfBraid_f : Room := ({ frames := 0, cells := 0, slots := 0, locals := 0 } : Room)
def f_CB_hashOfBraid_f_L6 (v_now_flows : Int32) (v_now_first_truths : FJ) (K40 : Int64 → Int32 → Option (Int64)) : Nat → Int64 → Int32 → Option (Int64)
  | 0, _, _ => none
  | n + 1, i1, i2 => if v_now_flows ≤ i2 then K40 i1 i2 else if ck i2 16 = true then f_CB_hashOfBraid_f_L6 v_now_flows v_now_first_truths K40 n ((31 * i1) + (v_now_first_truths i2.toNatClampNeg)) (i2 + 1) else none
def f_CB_hashOfBraid_f_L43 (v_now_form_counters : Int32) (v_now_first_rests : FI) (v_now_first_marks : FI) (K98 : Int64 → Int32 → Option (Int64)) : Nat → Int64 → Int32 → Option (Int64)
  | 0, _, _ => none
  | n + 1, i5, i6 => if v_now_form_counters ≤ i6 then K98 i5 i6 else if ck i6 24 = true then if ck i6 24 = true then f_CB_hashOfBraid_f_L43 v_now_form_counters v_now_first_rests v_now_first_marks K98 n ((31 * ((31 * i5) + ((v_now_first_rests i6.toNatClampNeg).toInt64))) + ((v_now_first_marks i6.toNatClampNeg).toInt64)) (i6 + 1) else none else none
def f_CB_hashOfBraid_f_L101 (v_now_form_countersAbove : Int32) (v_now_first_numbers : FJ) (K138 : Int64 → Int32 → Option (Int64)) : Nat → Int64 → Int32 → Option (Int64)
  | 0, _, _ => none
  | n + 1, i9, i10 => if v_now_form_countersAbove ≤ i10 then K138 i9 i10 else if ck i10 16 = true then f_CB_hashOfBraid_f_L101 v_now_form_countersAbove v_now_first_numbers K138 n ((31 * i9) + (v_now_first_numbers i10.toNatClampNeg)) (i10 + 1) else none
def f_CB_hashOfBraid_f (N : Nat) (x1 : Int64) (v_now_form_counters : Int32) (v_now_form_countersAbove : Int32) (v_now_flows : Int32) (v_now_first_truths : FJ) (v_now_first_rests : FI) (v_now_first_marks : FI) (v_now_first_numbers : FJ) : Option (Int64) := f_CB_hashOfBraid_f_L6 v_now_flows v_now_first_truths (fun i3 i4 => f_CB_hashOfBraid_f_L43 v_now_form_counters v_now_first_rests v_now_first_marks (fun i7 i8 => f_CB_hashOfBraid_f_L101 v_now_form_countersAbove v_now_first_numbers (fun i11 i12 => some i11) N i7 0) N i3 0) N x1 0
abbrev Q_CB_hashOfBraid_f (below : List Frame) (D : va_G) (k : Nat → ClassId) (A : Nat → Prop) (args : Array Value) (s : State) (b0 : Nat → Nat) (o0 : Nat) (s0 : CBS) (out : Int64) : State → Prop := MQ below (QW D k A (some (.long out)) [W_CB k b0 o0 s0].flatten) args s 0 0 A
set_option maxRecDepth 100000 in
set_option maxHeartbeats 1000000 in
theorem w_CB_hashOfBraid_f_L6 {p : Program} {l : Launch} {e : Env} {s : State} {m : MethodId} {below : List Frame} {meth : Method} {c : Code} {args : Array Value} {A : Nat → Prop} {D : va_G} {k : Nat → ClassId} {t : Nat → Nat} (X : BX l D k t p s m args meth c cX7_hashOfBraid 7 RX7 (some .long) A) (b0 : Nat → Nat) (o0 : Nat) (s0 : CBS) (N : Nat) (out : Int64) (K40 : Int64 → Int32 → Option (Int64)) (hK40 : ∀ (i1' : Int64) (i2' : Int32) (H : Heap) (locs : List Loc) (ls : Array Slot), va_P D vwCl [W_CB k b0 o0 s0].flatten H → va_D A [W_CB k b0 o0 s0].flatten → va_S A s.heap H locs → lv_has ls 7 [(0, .ref (b0 o0)), (3, .ref (b0 (o0+4))), (4, .long i1')] → K40 i1' i2' = some out → W p l e rm_CB_hashOfBraid_f s m args below meth c H locs 0 0 (Q_CB_hashOfBraid_f below D k A args s b0 o0 s0 out) (F0 m 40 ls [])) : ∀ (n : Nat) (i1 : Int64) (i2 : Int32) (H : Heap) (locs : List Loc) (ls : Array Slot), va_P D vwCl [W_CB k b0 o0 s0].flatten H → va_D A [W_CB k b0 o0 s0].flatten → va_S A s.heap H locs → lv_has ls 7 [(0, .ref (b0 o0)), (3, .ref (b0 (o0+4))), (4, .long i1), (6, .int i2)] → f_CB_hashOfBraid_f_L6 s0.1.1.1.1.1.2 s0.1.1.1.2.1.1.1 K40 n i1 i2 = some out → W p l e rm_CB_hashOfBraid_f s m args below meth c H locs 0 0 (Q_CB_hashOfBraid_f below D k A args s b0 o0 s0 out) (F0 m 6 ls []) := by
  have hx := X.1.1
  have hb := X.1.2.1
  have hml := X.1.2.2.1
  have hown := X.1.2.2.2.1
  have hts := X.1.2.2.2.2
  intro n
  induction n with
  | zero =>
    intro i1 i2 H locs ls hP hD hS hl hf
    rw [f_CB_hashOfBraid_f_L6] at hf
    cases hf
  | succ n ih =>
    intro i1 i2 H locs ls hP hD hS hl hf
    rw [f_CB_hashOfBraid_f_L6] at hf
    refine lv_iload hx hb dX7_hashOfBraid_6 (lv_at hl 3 rfl) ?_
    refine lv_aload_n hx hb dX7_hashOfBraid_8 rfl (lv_at hl 0 rfl) ?_
    refine kget (v := .ref (b0 (o0+1))) X hP ff_X7_12 0 rfl rfl dX7_hashOfBraid_9 ?_
    refine kget (v := .int s0.1.1.1.1.1.2) X hP ff_X7_83 1 rfl rfl dX7_hashOfBraid_12 ?_
    refine lv_icmp_ge (tgt := 40) hx hb dX7_hashOfBraid_15 (by decide) (fun hc => ?_) (fun hc => ?_)
    · have hf := ofpos hf hc
      exact hK40 i1 i2 _ _ _ hP hD hS (lv_sub hl [0, 1, 2] rfl) hf
    · have hf := ofneg hf hc
      refine lv_ldc2 (v := 31) hx hb hown (hts _ kc_X7_235) dX7_hashOfBraid_18 ?_
      refine lv_lload hx hb dX7_hashOfBraid_21 (lv_at hl 2 rfl) ?_
      refine lv_lmul hx hb dX7_hashOfBraid_23 ?_
      refine lv_aload_n hx hb dX7_hashOfBraid_24 rfl (lv_at hl 1 rfl) ?_
      refine kget (v := .ref (b0 (o0+5))) X hP ff_X7_118 4 rfl rfl dX7_hashOfBraid_25 ?_
      refine lv_iload hx hb dX7_hashOfBraid_28 (lv_at hl 3 rfl) ?_
      obtain ⟨hc, hf⟩ := ofck hf
      refine klald (f := s0.1.1.1.2.1.1.1) (n := 16) X hP 5 rfl hc dX7_hashOfBraid_30 ?_
      refine lv_ladd hx hb dX7_hashOfBraid_31 ?_
      refine lv_lstore (lv' := [(4, .long ((31 * i1) + (s0.1.1.1.2.1.1.1 i2.toNatClampNeg))), (0, .ref (b0 o0)), (3, .ref (b0 (o0+4))), (6, .int i2)]) hx hb dX7_hashOfBraid_32 hl (by decide) rfl (fun ls hl => ?_)
      refine lv_iinc (v := i2 + 1) (lv' := [(6, .int (i2 + 1)), (4, .long ((31 * i1) + (s0.1.1.1.2.1.1.1 i2.toNatClampNeg))), (0, .ref (b0 o0)), (3, .ref (b0 (o0+4)))]) hx hb dX7_hashOfBraid_34 hl (k := 3) rfl rfl (by decide) rfl (fun ls hl => ?_)
      refine lv_goto (tgt := 6) hx hb dX7_hashOfBraid_37 (by decide) ?_
      exact ih ((31 * i1) + (s0.1.1.1.2.1.1.1 i2.toNatClampNeg)) (i2 + 1) _ _ _ hP hD hS (lv_sub hl [2, 3, 1, 0] rfl) hf
set_option maxRecDepth 100000 in
set_option maxHeartbeats 1000000 in
theorem w_CB_hashOfBraid_f_L43 {p : Program} {l : Launch} {e : Env} {s : State} {m : MethodId} {below : List Frame} {meth : Method} {c : Code} {args : Array Value} {A : Nat → Prop} {D : va_G} {k : Nat → ClassId} {t : Nat → Nat} (X : BX l D k t p s m args meth c cX7_hashOfBraid 7 RX7 (some .long) A) (b0 : Nat → Nat) (o0 : Nat) (s0 : CBS) (N : Nat) (out : Int64) (K98 : Int64 → Int32 → Option (Int64)) (hK98 : ∀ (i5' : Int64) (i6' : Int32) (H : Heap) (locs : List Loc) (ls : Array Slot), va_P D vwCl [W_CB k b0 o0 s0].flatten H → va_D A [W_CB k b0 o0 s0].flatten → va_S A s.heap H locs → lv_has ls 7 [(0, .ref (b0 o0)), (3, .ref (b0 (o0+4))), (4, .long i5')] → K98 i5' i6' = some out → W p l e rm_CB_hashOfBraid_f s m args below meth c H locs 0 0 (Q_CB_hashOfBraid_f below D k A args s b0 o0 s0 out) (F0 m 98 ls [])) : ∀ (n : Nat) (i5 : Int64) (i6 : Int32) (H : Heap) (locs : List Loc) (ls : Array Slot), va_P D vwCl [W_CB k b0 o0 s0].flatten H → va_D A [W_CB k b0 o0 s0].flatten → va_S A s.heap H locs → lv_has ls 7 [(0, .ref (b0 o0)), (3, .ref (b0 (o0+4))), (4, .long i5), (6, .int i6)] → f_CB_hashOfBraid_f_L43 s0.1.1.1.1.1.1.1.1.1 s0.1.1.1.2.1.1.2 s0.1.1.1.2.1.2.1 K98 n i5 i6 = some out → W p l e rm_CB_hashOfBraid_f s m args below meth c H locs 0 0 (Q_CB_hashOfBraid_f below D k A args s b0 o0 s0 out) (F0 m 43 ls []) := by
  have hx := X.1.1
  have hb := X.1.2.1
  have hml := X.1.2.2.1
  have hown := X.1.2.2.2.1
  have hts := X.1.2.2.2.2
  intro n
  induction n with
  | zero =>
    intro i5 i6 H locs ls hP hD hS hl hf
    rw [f_CB_hashOfBraid_f_L43] at hf
    cases hf
  | succ n ih =>
    intro i5 i6 H locs ls hP hD hS hl hf
    rw [f_CB_hashOfBraid_f_L43] at hf
    refine lv_iload hx hb dX7_hashOfBraid_43 (lv_at hl 3 rfl) ?_
    refine lv_aload_n hx hb dX7_hashOfBraid_45 rfl (lv_at hl 0 rfl) ?_
    refine kget (v := .ref (b0 (o0+1))) X hP ff_X7_12 0 rfl rfl dX7_hashOfBraid_46 ?_
    refine kget (v := .ref (b0 (o0+2))) X hP ff_X7_48 1 rfl rfl dX7_hashOfBraid_49 ?_
    refine kget (v := .int s0.1.1.1.1.1.1.1.1.1) X hP ff_X7_52 2 rfl rfl dX7_hashOfBraid_52 ?_
    refine lv_icmp_ge (tgt := 98) hx hb dX7_hashOfBraid_55 (by decide) (fun hc => ?_) (fun hc => ?_)
    · have hf := ofpos hf hc
      exact hK98 i5 i6 _ _ _ hP hD hS (lv_sub hl [0, 1, 2] rfl) hf
    · have hf := ofneg hf hc
      refine lv_ldc2 (v := 31) hx hb hown (hts _ kc_X7_235) dX7_hashOfBraid_58 ?_
      refine lv_lload hx hb dX7_hashOfBraid_61 (lv_at hl 2 rfl) ?_
      refine lv_lmul hx hb dX7_hashOfBraid_63 ?_
      refine lv_aload_n hx hb dX7_hashOfBraid_64 rfl (lv_at hl 1 rfl) ?_
      refine kget (v := .ref (b0 (o0+6))) X hP ff_X7_145 4 rfl rfl dX7_hashOfBraid_65 ?_
      refine lv_iload hx hb dX7_hashOfBraid_68 (lv_at hl 3 rfl) ?_
      obtain ⟨hc, hf⟩ := ofck hf
      refine kiald (f := s0.1.1.1.2.1.1.2) (n := 24) X hP 6 rfl hc dX7_hashOfBraid_70 ?_
      refine lv_i2l (v := (s0.1.1.1.2.1.1.2 i6.toNatClampNeg).toInt64) hx hb dX7_hashOfBraid_71 rfl ?_
      refine lv_ladd hx hb dX7_hashOfBraid_72 ?_
      refine lv_lstore (lv' := [(4, .long ((31 * i5) + ((s0.1.1.1.2.1.1.2 i6.toNatClampNeg).toInt64))), (0, .ref (b0 o0)), (3, .ref (b0 (o0+4))), (6, .int i6)]) hx hb dX7_hashOfBraid_73 hl (by decide) rfl (fun ls hl => ?_)
      refine lv_ldc2 (v := 31) hx hb hown (hts _ kc_X7_235) dX7_hashOfBraid_75 ?_
      refine lv_lload hx hb dX7_hashOfBraid_78 (lv_at hl 0 rfl) ?_
      refine lv_lmul hx hb dX7_hashOfBraid_80 ?_
      refine lv_aload_n hx hb dX7_hashOfBraid_81 rfl (lv_at hl 2 rfl) ?_
      refine kget (v := .ref (b0 (o0+7))) X hP ff_X7_148 4 rfl rfl dX7_hashOfBraid_82 ?_
      refine lv_iload hx hb dX7_hashOfBraid_85 (lv_at hl 3 rfl) ?_
      obtain ⟨hc, hf⟩ := ofck hf
      refine kiald (f := s0.1.1.1.2.1.2.1) (n := 24) X hP 7 rfl hc dX7_hashOfBraid_87 ?_
      refine lv_i2l (v := (s0.1.1.1.2.1.2.1 i6.toNatClampNeg).toInt64) hx hb dX7_hashOfBraid_88 rfl ?_
      refine lv_ladd hx hb dX7_hashOfBraid_89 ?_
      refine lv_lstore (lv' := [(4, .long ((31 * ((31 * i5) + ((s0.1.1.1.2.1.1.2 i6.toNatClampNeg).toInt64))) + ((s0.1.1.1.2.1.2.1 i6.toNatClampNeg).toInt64))), (0, .ref (b0 o0)), (3, .ref (b0 (o0+4))), (6, .int i6)]) hx hb dX7_hashOfBraid_90 hl (by decide) rfl (fun ls hl => ?_)
      refine lv_iinc (v := i6 + 1) (lv' := [(6, .int (i6 + 1)), (4, .long ((31 * ((31 * i5) + ((s0.1.1.1.2.1.1.2 i6.toNatClampNeg).toInt64))) + ((s0.1.1.1.2.1.2.1 i6.toNatClampNeg).toInt64))), (0, .ref (b0 o0)), (3, .ref (b0 (o0+4)))]) hx hb dX7_hashOfBraid_92 hl (k := 3) rfl rfl (by decide) rfl (fun ls hl => ?_)
      refine lv_goto (tgt := 43) hx hb dX7_hashOfBraid_95 (by decide) ?_
      exact ih ((31 * ((31 * i5) + ((s0.1.1.1.2.1.1.2 i6.toNatClampNeg).toInt64))) + ((s0.1.1.1.2.1.2.1 i6.toNatClampNeg).toInt64)) (i6 + 1) _ _ _ hP hD hS (lv_sub hl [2, 3, 1, 0] rfl) hf
set_option maxRecDepth 100000 in
set_option maxHeartbeats 1000000 in
theorem w_CB_hashOfBraid_f_L101 {p : Program} {l : Launch} {e : Env} {s : State} {m : MethodId} {below : List Frame} {meth : Method} {c : Code} {args : Array Value} {A : Nat → Prop} {D : va_G} {k : Nat → ClassId} {t : Nat → Nat} (X : BX l D k t p s m args meth c cX7_hashOfBraid 7 RX7 (some .long) A) (b0 : Nat → Nat) (o0 : Nat) (s0 : CBS) (N : Nat) (out : Int64) (K138 : Int64 → Int32 → Option (Int64)) (hK138 : ∀ (i9' : Int64) (i10' : Int32) (H : Heap) (locs : List Loc) (ls : Array Slot), va_P D vwCl [W_CB k b0 o0 s0].flatten H → va_D A [W_CB k b0 o0 s0].flatten → va_S A s.heap H locs → lv_has ls 7 [(4, .long i9')] → K138 i9' i10' = some out → W p l e rm_CB_hashOfBraid_f s m args below meth c H locs 0 0 (Q_CB_hashOfBraid_f below D k A args s b0 o0 s0 out) (F0 m 138 ls [])) : ∀ (n : Nat) (i9 : Int64) (i10 : Int32) (H : Heap) (locs : List Loc) (ls : Array Slot), va_P D vwCl [W_CB k b0 o0 s0].flatten H → va_D A [W_CB k b0 o0 s0].flatten → va_S A s.heap H locs → lv_has ls 7 [(0, .ref (b0 o0)), (3, .ref (b0 (o0+4))), (4, .long i9), (6, .int i10)] → f_CB_hashOfBraid_f_L101 s0.1.1.1.1.1.1.2.1.1 s0.1.1.1.2.1.2.2 K138 n i9 i10 = some out → W p l e rm_CB_hashOfBraid_f s m args below meth c H locs 0 0 (Q_CB_hashOfBraid_f below D k A args s b0 o0 s0 out) (F0 m 101 ls []) := by
  have hx := X.1.1
  have hb := X.1.2.1
  have hml := X.1.2.2.1
  have hown := X.1.2.2.2.1
  have hts := X.1.2.2.2.2
  intro n
  induction n with
  | zero =>
    intro i9 i10 H locs ls hP hD hS hl hf
    rw [f_CB_hashOfBraid_f_L101] at hf
    cases hf
  | succ n ih =>
    intro i9 i10 H locs ls hP hD hS hl hf
    rw [f_CB_hashOfBraid_f_L101] at hf
    refine lv_iload hx hb dX7_hashOfBraid_101 (lv_at hl 3 rfl) ?_
    refine lv_aload_n hx hb dX7_hashOfBraid_103 rfl (lv_at hl 0 rfl) ?_
    refine kget (v := .ref (b0 (o0+1))) X hP ff_X7_12 0 rfl rfl dX7_hashOfBraid_104 ?_
    refine kget (v := .ref (b0 (o0+2))) X hP ff_X7_48 1 rfl rfl dX7_hashOfBraid_107 ?_
    refine kget (v := .int s0.1.1.1.1.1.1.2.1.1) X hP ff_X7_67 2 rfl rfl dX7_hashOfBraid_110 ?_
    refine lv_icmp_ge (tgt := 138) hx hb dX7_hashOfBraid_113 (by decide) (fun hc => ?_) (fun hc => ?_)
    · have hf := ofpos hf hc
      exact hK138 i9 i10 _ _ _ hP hD hS (lv_sub hl [2] rfl) hf
    · have hf := ofneg hf hc
      refine lv_ldc2 (v := 31) hx hb hown (hts _ kc_X7_235) dX7_hashOfBraid_116 ?_
      refine lv_lload hx hb dX7_hashOfBraid_119 (lv_at hl 2 rfl) ?_
      refine lv_lmul hx hb dX7_hashOfBraid_121 ?_
      refine lv_aload_n hx hb dX7_hashOfBraid_122 rfl (lv_at hl 1 rfl) ?_
      refine kget (v := .ref (b0 (o0+8))) X hP ff_X7_151 4 rfl rfl dX7_hashOfBraid_123 ?_
      refine lv_iload hx hb dX7_hashOfBraid_126 (lv_at hl 3 rfl) ?_
      obtain ⟨hc, hf⟩ := ofck hf
      refine klald (f := s0.1.1.1.2.1.2.2) (n := 16) X hP 8 rfl hc dX7_hashOfBraid_128 ?_
      refine lv_ladd hx hb dX7_hashOfBraid_129 ?_
      refine lv_lstore (lv' := [(4, .long ((31 * i9) + (s0.1.1.1.2.1.2.2 i10.toNatClampNeg))), (0, .ref (b0 o0)), (3, .ref (b0 (o0+4))), (6, .int i10)]) hx hb dX7_hashOfBraid_130 hl (by decide) rfl (fun ls hl => ?_)
      refine lv_iinc (v := i10 + 1) (lv' := [(6, .int (i10 + 1)), (4, .long ((31 * i9) + (s0.1.1.1.2.1.2.2 i10.toNatClampNeg))), (0, .ref (b0 o0)), (3, .ref (b0 (o0+4)))]) hx hb dX7_hashOfBraid_132 hl (k := 3) rfl rfl (by decide) rfl (fun ls hl => ?_)
      refine lv_goto (tgt := 101) hx hb dX7_hashOfBraid_135 (by decide) ?_
      exact ih ((31 * i9) + (s0.1.1.1.2.1.2.2 i10.toNatClampNeg)) (i10 + 1) _ _ _ hP hD hS (lv_sub hl [2, 3, 1, 0] rfl) hf
set_option maxRecDepth 100000 in
set_option maxHeartbeats 1000000 in
theorem c_CB_hashOfBraid_f (l : Launch) (D : va_G) (k : Nat → ClassId) (t : Nat → Nat) (b0 : Nat → Nat) (o0 : Nat) (s0 : CBS) (x1 : Int64) (N : Nat) (out : Int64) (hf : f_CB_hashOfBraid_f N x1 s0.1.1.1.1.1.1.1.1.1 s0.1.1.1.1.1.1.2.1.1 s0.1.1.1.1.1.2 s0.1.1.1.2.1.1.1 s0.1.1.1.2.1.1.2 s0.1.1.1.2.1.2.1 s0.1.1.1.2.1.2.2 = some out) : CT l D k t yX7_hashOfBraid cX7_hashOfBraid 7 (some .long) rm_CB_hashOfBraid_f [.ref (b0 o0), .long x1, .ref (b0 (o0+4))] [W_CB k b0 o0 s0].flatten (some (.long out)) [W_CB k b0 o0 s0].flatten := by
  refine kofW (by decide) (Nat.le_of_ble_eq_true rfl) ?_
  intro p e s m below meth c A ls X hP hD hS hl
  have hx := X.1.1
  have hb := X.1.2.1
  have hml := X.1.2.2.1
  have hown := X.1.2.2.2.1
  have hts := X.1.2.2.2.2
  have hl : lv_has ls 7 [(0, .ref (b0 o0)), (1, .long x1), (3, .ref (b0 (o0+4)))] := hl
  rw [f_CB_hashOfBraid_f] at hf
  refine lv_lload_n hx hb dX7_hashOfBraid_0 rfl (lv_at hl 1 rfl) ?_
  refine lv_lstore (lv' := [(4, .long x1), (0, .ref (b0 o0)), (1, .long x1), (3, .ref (b0 (o0+4)))]) hx hb dX7_hashOfBraid_1 hl (by decide) rfl (fun ls hl => ?_)
  refine lv_iconst (v := 0) hx hb dX7_hashOfBraid_3 (by decide) ?_
  refine lv_istore (lv' := [(6, .int 0), (4, .long x1), (0, .ref (b0 o0)), (1, .long x1), (3, .ref (b0 (o0+4)))]) hx hb dX7_hashOfBraid_4 hl (by decide) rfl (fun ls hl => ?_)
  refine w_CB_hashOfBraid_f_L6 X b0 o0 s0 N out _ ?_ N x1 0 _ _ _ hP hD hS (lv_sub hl [2, 4, 1, 0] rfl) hf
  · intro i3 i4 H locs ls hP hD hS hl hf
    refine lv_iconst (v := 0) hx hb dX7_hashOfBraid_40 (by decide) ?_
    refine lv_istore (lv' := [(6, .int 0), (0, .ref (b0 o0)), (3, .ref (b0 (o0+4))), (4, .long i3)]) hx hb dX7_hashOfBraid_41 hl (by decide) rfl (fun ls hl => ?_)
    refine w_CB_hashOfBraid_f_L43 X b0 o0 s0 N out _ ?_ N i3 0 _ _ _ hP hD hS (lv_sub hl [1, 2, 3, 0] rfl) hf
    · intro i7 i8 H locs ls hP hD hS hl hf
      refine lv_iconst (v := 0) hx hb dX7_hashOfBraid_98 (by decide) ?_
      refine lv_istore (lv' := [(6, .int 0), (0, .ref (b0 o0)), (3, .ref (b0 (o0+4))), (4, .long i7)]) hx hb dX7_hashOfBraid_99 hl (by decide) rfl (fun ls hl => ?_)
      refine w_CB_hashOfBraid_f_L101 X b0 o0 s0 N out _ ?_ N i7 0 _ _ _ hP hD hS (lv_sub hl [1, 2, 3, 0] rfl) hf
      · intro i11 i12 H locs ls hP hD hS hl hf
        refine lv_lload hx hb dX7_hashOfBraid_138 (lv_at hl 0 rfl) ?_
        have hf := Option.some.inj hf
        subst hf
        exact klret (v := i11) X hP hD hS dX7_hashOfBraid_140
/-! CB_digest: public long digest(); -/
abbrev rm_CB_digest : Room := ({ frames := 1, cells := 0, slots := 0, locals := 26 } : Room)
def f_CB_digest_L6 (v_now_form_counters : Int32) (v_now_form_bits : Int32) (v_now_form_functions : Int32) (v_now_form_countersAbove : Int32) (v_now_form_functionsAbove : Int32) (v_now_form_rounds : Int32) (v_now_flows : Int32) (K34 : Int64 → Int32 → Option (Int64)) : Nat → Int64 → Int32 → Option (Int64)
  | 0, _, _ => none
  | n + 1, i2, i3 => if 7 ≤ i3 then K34 i2 i3 else (f_State_formNumber i3 v_now_form_counters v_now_form_bits v_now_form_functions v_now_form_countersAbove v_now_form_functionsAbove v_now_form_rounds v_now_flows).bind (fun r4 => f_CB_digest_L6 v_now_form_counters v_now_form_bits v_now_form_functions v_now_form_countersAbove v_now_form_functionsAbove v_now_form_rounds v_now_flows K34 n ((31 * i2) + r4.toInt64) (i3 + 1))
def f_CB_digest_L36 (v_now_flows : Int32) (v_now_keys : FI) (K70 : Int64 → Int32 → Option (Int64)) : Nat → Int64 → Int32 → Option (Int64)
  | 0, _, _ => none
  | n + 1, i7, i8 => if v_now_flows ≤ i8 then K70 i7 i8 else if ck i8 16 = true then f_CB_digest_L36 v_now_flows v_now_keys K70 n ((31 * i7) + ((v_now_keys i8.toNatClampNeg).toInt64)) (i8 + 1) else none
def f_CB_digest_L72 (N : Nat) (v_now_form_counters : Int32) (v_now_form_countersAbove : Int32) (v_now_flows : Int32) (v_now_first_truths : FJ) (v_now_first_rests : FI) (v_now_first_marks : FI) (v_now_first_numbers : FJ) (v_now_second_truths : FJ) (v_now_second_rests : FI) (v_now_second_marks : FI) (v_now_second_numbers : FJ) (K97 : Int64 → Int32 → Option (Int64)) : Nat → Int64 → Int32 → Option (Int64)
  | 0, _, _ => none
  | n + 1, i13, i14 => if 2 ≤ i14 then K97 i13 i14 else if i14 = 0 then (f_CB_hashOfBraid_f N i13 v_now_form_counters v_now_form_countersAbove v_now_flows v_now_first_truths v_now_first_rests v_now_first_marks v_now_first_numbers).bind (fun r15 => f_CB_digest_L72 N v_now_form_counters v_now_form_countersAbove v_now_flows v_now_first_truths v_now_first_rests v_now_first_marks v_now_first_numbers v_now_second_truths v_now_second_rests v_now_second_marks v_now_second_numbers K97 n r15 (i14 + 1)) else (f_CB_hashOfBraid_s N i13 v_now_form_counters v_now_form_countersAbove v_now_flows v_now_second_truths v_now_second_rests v_now_second_marks v_now_second_numbers).bind (fun r16 => f_CB_digest_L72 N v_now_form_counters v_now_form_countersAbove v_now_flows v_now_first_truths v_now_first_rests v_now_first_marks v_now_first_numbers v_now_second_truths v_now_second_rests v_now_second_marks v_now_second_numbers K97 n r16 (i14 + 1))
def f_CB_digest (N : Nat) (v_now_form_counters : Int32) (v_now_form_bits : Int32) (v_now_form_functions : Int32) (v_now_form_countersAbove : Int32) (v_now_form_functionsAbove : Int32) (v_now_form_rounds : Int32) (v_now_flows : Int32) (v_now_keys : FI) (v_now_first_truths : FJ) (v_now_first_rests : FI) (v_now_first_marks : FI) (v_now_first_numbers : FJ) (v_now_second_truths : FJ) (v_now_second_rests : FI) (v_now_second_marks : FI) (v_now_second_numbers : FJ) : Option (Int64) := f_CB_digest_L6 v_now_form_counters v_now_form_bits v_now_form_functions v_now_form_countersAbove v_now_form_functionsAbove v_now_form_rounds v_now_flows (fun i5 i6 => f_CB_digest_L36 v_now_flows v_now_keys (fun i9 i10 => f_CB_digest_L72 N v_now_form_counters v_now_form_countersAbove v_now_flows v_now_first_truths v_now_first_rests v_now_first_marks v_now_first_numbers v_now_second_truths v_now_second_rests v_now_second_marks v_now_second_numbers (fun i17 i18 => some i17) N i9 0) N i5 0) N 17 0
abbrev Q_CB_digest (below : List Frame) (D : va_G) (k : Nat → ClassId) (A : Nat → Prop) (args : Array Value) (s : State) (b0 : Nat → Nat) (o0 : Nat) (s0 : CBS) (out : Int64) : State → Prop := MQ below (QW D k A (some (.long out)) [W_CB k b0 o0 s0].flatten) args s 0 0 A
set_option maxRecDepth 100000 in
set_option maxHeartbeats 1000000 in
theorem w_CB_digest_L6 {p : Program} {l : Launch} {e : Env} {s : State} {m : MethodId} {below : List Frame} {meth : Method} {c : Code} {args : Array Value} {A : Nat → Prop} {D : va_G} {k : Nat → ClassId} {t : Nat → Nat} (X : BX l D k t p s m args meth c cX7_digest 4 RX7 (some .long) A) (b0 : Nat → Nat) (o0 : Nat) (s0 : CBS) (N : Nat) (out : Int64) (K34 : Int64 → Int32 → Option (Int64)) (hK34 : ∀ (i2' : Int64) (i3' : Int32) (H : Heap) (locs : List Loc) (ls : Array Slot), va_P D vwCl [W_CB k b0 o0 s0].flatten H → va_D A [W_CB k b0 o0 s0].flatten → va_S A s.heap H locs → lv_has ls 4 [(0, .ref (b0 o0)), (1, .long i2')] → K34 i2' i3' = some out → W p l e rm_CB_digest s m args below meth c H locs 0 0 (Q_CB_digest below D k A args s b0 o0 s0 out) (F0 m 34 ls [])) : ∀ (n : Nat) (i2 : Int64) (i3 : Int32) (H : Heap) (locs : List Loc) (ls : Array Slot), va_P D vwCl [W_CB k b0 o0 s0].flatten H → va_D A [W_CB k b0 o0 s0].flatten → va_S A s.heap H locs → lv_has ls 4 [(0, .ref (b0 o0)), (1, .long i2), (3, .int i3)] → f_CB_digest_L6 s0.1.1.1.1.1.1.1.1.1 s0.1.1.1.1.1.1.1.1.2 s0.1.1.1.1.1.1.1.2 s0.1.1.1.1.1.1.2.1.1 s0.1.1.1.1.1.1.2.1.2 s0.1.1.1.1.1.1.2.2 s0.1.1.1.1.1.2 K34 n i2 i3 = some out → W p l e rm_CB_digest s m args below meth c H locs 0 0 (Q_CB_digest below D k A args s b0 o0 s0 out) (F0 m 6 ls []) := by
  have hx := X.1.1
  have hb := X.1.2.1
  have hml := X.1.2.2.1
  have hown := X.1.2.2.2.1
  have hts := X.1.2.2.2.2
  intro n
  induction n with
  | zero =>
    intro i2 i3 H locs ls hP hD hS hl hf
    rw [f_CB_digest_L6] at hf
    cases hf
  | succ n ih =>
    intro i2 i3 H locs ls hP hD hS hl hf
    rw [f_CB_digest_L6] at hf
    refine lv_iload_n hx hb dX7_digest_6 rfl (lv_at hl 2 rfl) ?_
    refine lv_bipush (v := 7) hx hb dX7_digest_7 (by decide) ?_
    refine lv_icmp_ge (tgt := 34) hx hb dX7_digest_9 (by decide) (fun hc => ?_) (fun hc => ?_)
    · have hf := ofpos hf hc
      exact hK34 i2 i3 _ _ _ hP hD hS (lv_sub hl [0, 1] rfl) hf
    · have hf := ofneg hf hc
      refine lv_ldc2 (v := 31) hx hb hown (hts _ kc_X7_235) dX7_digest_12 ?_
      refine lv_lload_n hx hb dX7_digest_15 rfl (lv_at hl 1 rfl) ?_
      refine lv_lmul hx hb dX7_digest_16 ?_
      refine lv_aload_n hx hb dX7_digest_17 rfl (lv_at hl 0 rfl) ?_
      refine kget (v := .ref (b0 (o0+1))) X hP ff_X7_12 0 rfl rfl dX7_digest_18 ?_
      refine lv_iload_n hx hb dX7_digest_21 rfl (lv_at hl 2 rfl) ?_
      obtain ⟨r4, hg_r4, hf⟩ := ofbind hf
      have hP : va_P D vwCl [[((b0 o0), .inr (7, [.ref (b0 (o0+1)), .ref (b0 (o0+14)), .ref (b0 (o0+81)), .ref (b0 (o0+85)), .ref (b0 (o0+152))]))], W_State k b0 (o0+1) s0.1.1.1, W_History k b0 (o0+14) s0.1.1.2, W_Text k b0 (o0+81) s0.1.2.1.1.1 s0.1.2.1.1.2 s0.1.2.1.2.1 s0.1.2.1.2.2 s0.1.2.2.1.1 s0.1.2.2.1.2 s0.1.2.2.2, W_Decoder k b0 (o0+85) s0.2.1, W_State k b0 (o0+152) s0.2.2].flatten _ := hP
      have hD : va_D A [[((b0 o0), .inr (7, [.ref (b0 (o0+1)), .ref (b0 (o0+14)), .ref (b0 (o0+81)), .ref (b0 (o0+85)), .ref (b0 (o0+152))]))], W_State k b0 (o0+1) s0.1.1.1, W_History k b0 (o0+14) s0.1.1.2, W_Text k b0 (o0+81) s0.1.2.1.1.1 s0.1.2.1.1.2 s0.1.2.1.2.1 s0.1.2.1.2.2 s0.1.2.2.1.1 s0.1.2.2.1.2 s0.1.2.2.2, W_Decoder k b0 (o0+85) s0.2.1, W_State k b0 (o0+152) s0.2.2].flatten := hD
      refine kcV (bs := [[((b0 o0), .inr (7, [.ref (b0 (o0+1)), .ref (b0 (o0+14)), .ref (b0 (o0+81)), .ref (b0 (o0+85)), .ref (b0 (o0+152))]))], W_State k b0 (o0+1) s0.1.1.1, W_History k b0 (o0+14) s0.1.1.2, W_Text k b0 (o0+81) s0.1.2.1.1.1 s0.1.2.1.1.2 s0.1.2.1.2.1 s0.1.2.1.2.2 s0.1.2.2.1.1 s0.1.2.2.1.2 s0.1.2.2.2, W_Decoder k b0 (o0+85) s0.2.1, W_State k b0 (o0+152) s0.2.2]) (br := [[((b0 o0), .inr (7, [.ref (b0 (o0+1)), .ref (b0 (o0+14)), .ref (b0 (o0+81)), .ref (b0 (o0+85)), .ref (b0 (o0+152))]))], W_History k b0 (o0+14) s0.1.1.2, W_Text k b0 (o0+81) s0.1.2.1.1.1 s0.1.2.1.1.2 s0.1.2.1.2.1 s0.1.2.1.2.2 s0.1.2.2.1.1 s0.1.2.2.1.2 s0.1.2.2.2, W_Decoder k b0 (o0+85) s0.2.1, W_State k b0 (o0+152) s0.2.2]) (bc := [W_State k b0 (o0+1) s0.1.1.1]) (bc' := [W_State k b0 (o0+1) s0.1.1.1]) X hP hD hS (c_State_formNumber l D k t b0 (o0+1) s0.1.1.1 i3 r4 hg_r4) mv_X7_76 hl [0, 2, 3, 4, 5] [1] 5 ⟨rfl, rfl⟩ ⟨Nat.le_of_ble_eq_true rfl, Nat.le_of_ble_eq_true rfl⟩ rfl rfl rfl rfl rfl rfl rfl (Nat.le_of_ble_eq_true rfl) dX7_digest_22 (fun H locs hP hD hS => ?_)
      have hP : va_P D vwCl [[((b0 o0), .inr (7, [.ref (b0 (o0+1)), .ref (b0 (o0+14)), .ref (b0 (o0+81)), .ref (b0 (o0+85)), .ref (b0 (o0+152))]))], W_History k b0 (o0+14) s0.1.1.2, W_Text k b0 (o0+81) s0.1.2.1.1.1 s0.1.2.1.1.2 s0.1.2.1.2.1 s0.1.2.1.2.2 s0.1.2.2.1.1 s0.1.2.2.1.2 s0.1.2.2.2, W_Decoder k b0 (o0+85) s0.2.1, W_State k b0 (o0+152) s0.2.2, W_State k b0 (o0+1) s0.1.1.1].flatten _ := hP
      have hD : va_D A [[((b0 o0), .inr (7, [.ref (b0 (o0+1)), .ref (b0 (o0+14)), .ref (b0 (o0+81)), .ref (b0 (o0+85)), .ref (b0 (o0+152))]))], W_History k b0 (o0+14) s0.1.1.2, W_Text k b0 (o0+81) s0.1.2.1.1.1 s0.1.2.1.1.2 s0.1.2.1.2.1 s0.1.2.1.2.2 s0.1.2.2.1.1 s0.1.2.2.1.2 s0.1.2.2.2, W_Decoder k b0 (o0+85) s0.2.1, W_State k b0 (o0+152) s0.2.2, W_State k b0 (o0+1) s0.1.1.1].flatten := hD
      refine lv_i2l (v := r4.toInt64) hx hb dX7_digest_25 rfl ?_
      refine lv_ladd hx hb dX7_digest_26 ?_
      refine lv_lstore_n (lv' := [(1, .long ((31 * i2) + r4.toInt64)), (0, .ref (b0 o0)), (3, .int i3)]) hx hb dX7_digest_27 rfl hl (by decide) rfl (fun ls hl => ?_)
      refine lv_iinc (v := i3 + 1) (lv' := [(3, .int (i3 + 1)), (1, .long ((31 * i2) + r4.toInt64)), (0, .ref (b0 o0))]) hx hb dX7_digest_28 hl (k := 2) rfl rfl (by decide) rfl (fun ls hl => ?_)
      refine lv_goto (tgt := 6) hx hb dX7_digest_31 (by decide) ?_
      obtain ⟨hP, hD⟩ := B_perm (br := [[((b0 o0), .inr (7, [.ref (b0 (o0+1)), .ref (b0 (o0+14)), .ref (b0 (o0+81)), .ref (b0 (o0+85)), .ref (b0 (o0+152))]))], W_State k b0 (o0+1) s0.1.1.1, W_History k b0 (o0+14) s0.1.1.2, W_Text k b0 (o0+81) s0.1.2.1.1.1 s0.1.2.1.1.2 s0.1.2.1.2.1 s0.1.2.1.2.2 s0.1.2.2.1.1 s0.1.2.2.1.2 s0.1.2.2.2, W_Decoder k b0 (o0+85) s0.2.1, W_State k b0 (o0+152) s0.2.2]) hP hD [0, 5, 1, 2, 3, 4] rfl rfl
      have hP : va_P D vwCl [W_CB k b0 o0 s0].flatten _ := hP
      have hD : va_D A [W_CB k b0 o0 s0].flatten := hD
      exact ih ((31 * i2) + r4.toInt64) (i3 + 1) _ _ _ hP hD hS (lv_sub hl [2, 1, 0] rfl) hf
set_option maxRecDepth 100000 in
set_option maxHeartbeats 1000000 in
theorem w_CB_digest_L36 {p : Program} {l : Launch} {e : Env} {s : State} {m : MethodId} {below : List Frame} {meth : Method} {c : Code} {args : Array Value} {A : Nat → Prop} {D : va_G} {k : Nat → ClassId} {t : Nat → Nat} (X : BX l D k t p s m args meth c cX7_digest 4 RX7 (some .long) A) (b0 : Nat → Nat) (o0 : Nat) (s0 : CBS) (N : Nat) (out : Int64) (K70 : Int64 → Int32 → Option (Int64)) (hK70 : ∀ (i7' : Int64) (i8' : Int32) (H : Heap) (locs : List Loc) (ls : Array Slot), va_P D vwCl [W_CB k b0 o0 s0].flatten H → va_D A [W_CB k b0 o0 s0].flatten → va_S A s.heap H locs → lv_has ls 4 [(0, .ref (b0 o0)), (1, .long i7')] → K70 i7' i8' = some out → W p l e rm_CB_digest s m args below meth c H locs 0 0 (Q_CB_digest below D k A args s b0 o0 s0 out) (F0 m 70 ls [])) : ∀ (n : Nat) (i7 : Int64) (i8 : Int32) (H : Heap) (locs : List Loc) (ls : Array Slot), va_P D vwCl [W_CB k b0 o0 s0].flatten H → va_D A [W_CB k b0 o0 s0].flatten → va_S A s.heap H locs → lv_has ls 4 [(0, .ref (b0 o0)), (1, .long i7), (3, .int i8)] → f_CB_digest_L36 s0.1.1.1.1.1.2 s0.1.1.1.1.2 K70 n i7 i8 = some out → W p l e rm_CB_digest s m args below meth c H locs 0 0 (Q_CB_digest below D k A args s b0 o0 s0 out) (F0 m 36 ls []) := by
  have hx := X.1.1
  have hb := X.1.2.1
  have hml := X.1.2.2.1
  have hown := X.1.2.2.2.1
  have hts := X.1.2.2.2.2
  intro n
  induction n with
  | zero =>
    intro i7 i8 H locs ls hP hD hS hl hf
    rw [f_CB_digest_L36] at hf
    cases hf
  | succ n ih =>
    intro i7 i8 H locs ls hP hD hS hl hf
    rw [f_CB_digest_L36] at hf
    refine lv_iload_n hx hb dX7_digest_36 rfl (lv_at hl 2 rfl) ?_
    refine lv_aload_n hx hb dX7_digest_37 rfl (lv_at hl 0 rfl) ?_
    refine kget (v := .ref (b0 (o0+1))) X hP ff_X7_12 0 rfl rfl dX7_digest_38 ?_
    refine kget (v := .int s0.1.1.1.1.1.2) X hP ff_X7_83 1 rfl rfl dX7_digest_41 ?_
    refine lv_icmp_ge (tgt := 70) hx hb dX7_digest_44 (by decide) (fun hc => ?_) (fun hc => ?_)
    · have hf := ofpos hf hc
      exact hK70 i7 i8 _ _ _ hP hD hS (lv_sub hl [0, 1] rfl) hf
    · have hf := ofneg hf hc
      refine lv_ldc2 (v := 31) hx hb hown (hts _ kc_X7_235) dX7_digest_47 ?_
      refine lv_lload_n hx hb dX7_digest_50 rfl (lv_at hl 1 rfl) ?_
      refine lv_lmul hx hb dX7_digest_51 ?_
      refine lv_aload_n hx hb dX7_digest_52 rfl (lv_at hl 0 rfl) ?_
      refine kget (v := .ref (b0 (o0+1))) X hP ff_X7_12 0 rfl rfl dX7_digest_53 ?_
      refine kget (v := .ref (b0 (o0+3))) X hP ff_X7_93 1 rfl rfl dX7_digest_56 ?_
      refine lv_iload_n hx hb dX7_digest_59 rfl (lv_at hl 2 rfl) ?_
      obtain ⟨hc, hf⟩ := ofck hf
      refine kiald (f := s0.1.1.1.1.2) (n := 16) X hP 3 rfl hc dX7_digest_60 ?_
      refine lv_i2l (v := (s0.1.1.1.1.2 i8.toNatClampNeg).toInt64) hx hb dX7_digest_61 rfl ?_
      refine lv_ladd hx hb dX7_digest_62 ?_
      refine lv_lstore_n (lv' := [(1, .long ((31 * i7) + ((s0.1.1.1.1.2 i8.toNatClampNeg).toInt64))), (0, .ref (b0 o0)), (3, .int i8)]) hx hb dX7_digest_63 rfl hl (by decide) rfl (fun ls hl => ?_)
      refine lv_iinc (v := i8 + 1) (lv' := [(3, .int (i8 + 1)), (1, .long ((31 * i7) + ((s0.1.1.1.1.2 i8.toNatClampNeg).toInt64))), (0, .ref (b0 o0))]) hx hb dX7_digest_64 hl (k := 2) rfl rfl (by decide) rfl (fun ls hl => ?_)
      refine lv_goto (tgt := 36) hx hb dX7_digest_67 (by decide) ?_
      exact ih ((31 * i7) + ((s0.1.1.1.1.2 i8.toNatClampNeg).toInt64)) (i8 + 1) _ _ _ hP hD hS (lv_sub hl [2, 1, 0] rfl) hf
set_option maxRecDepth 100000 in
set_option maxHeartbeats 1000000 in
theorem w_CB_digest_L72 {p : Program} {l : Launch} {e : Env} {s : State} {m : MethodId} {below : List Frame} {meth : Method} {c : Code} {args : Array Value} {A : Nat → Prop} {D : va_G} {k : Nat → ClassId} {t : Nat → Nat} (X : BX l D k t p s m args meth c cX7_digest 4 RX7 (some .long) A) (b0 : Nat → Nat) (o0 : Nat) (s0 : CBS) (N : Nat) (out : Int64) (K97 : Int64 → Int32 → Option (Int64)) (hK97 : ∀ (i13' : Int64) (i14' : Int32) (H : Heap) (locs : List Loc) (ls : Array Slot), va_P D vwCl [W_CB k b0 o0 s0].flatten H → va_D A [W_CB k b0 o0 s0].flatten → va_S A s.heap H locs → lv_has ls 4 [(1, .long i13')] → K97 i13' i14' = some out → W p l e rm_CB_digest s m args below meth c H locs 0 0 (Q_CB_digest below D k A args s b0 o0 s0 out) (F0 m 97 ls [])) : ∀ (n : Nat) (i13 : Int64) (i14 : Int32) (H : Heap) (locs : List Loc) (ls : Array Slot), va_P D vwCl [W_CB k b0 o0 s0].flatten H → va_D A [W_CB k b0 o0 s0].flatten → va_S A s.heap H locs → lv_has ls 4 [(0, .ref (b0 o0)), (1, .long i13), (3, .int i14)] → f_CB_digest_L72 N s0.1.1.1.1.1.1.1.1.1 s0.1.1.1.1.1.1.2.1.1 s0.1.1.1.1.1.2 s0.1.1.1.2.1.1.1 s0.1.1.1.2.1.1.2 s0.1.1.1.2.1.2.1 s0.1.1.1.2.1.2.2 s0.1.1.1.2.2.1.1 s0.1.1.1.2.2.1.2 s0.1.1.1.2.2.2.1 s0.1.1.1.2.2.2.2 K97 n i13 i14 = some out → W p l e rm_CB_digest s m args below meth c H locs 0 0 (Q_CB_digest below D k A args s b0 o0 s0 out) (F0 m 72 ls []) := by
  have hx := X.1.1
  have hb := X.1.2.1
  have hml := X.1.2.2.1
  have hown := X.1.2.2.2.1
  have hts := X.1.2.2.2.2
  intro n
  induction n with
  | zero =>
    intro i13 i14 H locs ls hP hD hS hl hf
    rw [f_CB_digest_L72] at hf
    cases hf
  | succ n ih =>
    intro i13 i14 H locs ls hP hD hS hl hf
    rw [f_CB_digest_L72] at hf
    refine lv_iload_n hx hb dX7_digest_72 rfl (lv_at hl 2 rfl) ?_
    refine lv_iconst (v := 2) hx hb dX7_digest_73 (by decide) ?_
    refine lv_icmp_ge (tgt := 97) hx hb dX7_digest_74 (by decide) (fun hc => ?_) (fun hc => ?_)
    · have hf := ofpos hf hc
      exact hK97 i13 i14 _ _ _ hP hD hS (lv_sub hl [1] rfl) hf
    · have hf := ofneg hf hc
      refine lv_aload_n hx hb dX7_digest_77 rfl (lv_at hl 0 rfl) ?_
      refine lv_lload_n hx hb dX7_digest_78 rfl (lv_at hl 1 rfl) ?_
      refine lv_aload_n hx hb dX7_digest_79 rfl (lv_at hl 0 rfl) ?_
      refine kget (v := .ref (b0 (o0+1))) X hP ff_X7_12 0 rfl rfl dX7_digest_80 ?_
      refine lv_iload_n hx hb dX7_digest_83 rfl (lv_at hl 2 rfl) ?_
      by_cases hc : i14 = 0
      · have hf := ofpos hf hc
        have hP : va_P D vwCl [[((b0 o0), .inr (7, [.ref (b0 (o0+1)), .ref (b0 (o0+14)), .ref (b0 (o0+81)), .ref (b0 (o0+85)), .ref (b0 (o0+152))]))], W_State k b0 (o0+1) s0.1.1.1, W_History k b0 (o0+14) s0.1.1.2, W_Text k b0 (o0+81) s0.1.2.1.1.1 s0.1.2.1.1.2 s0.1.2.1.2.1 s0.1.2.1.2.2 s0.1.2.2.1.1 s0.1.2.2.1.2 s0.1.2.2.2, W_Decoder k b0 (o0+85) s0.2.1, W_State k b0 (o0+152) s0.2.2].flatten _ := hP
        have hD : va_D A [[((b0 o0), .inr (7, [.ref (b0 (o0+1)), .ref (b0 (o0+14)), .ref (b0 (o0+81)), .ref (b0 (o0+85)), .ref (b0 (o0+152))]))], W_State k b0 (o0+1) s0.1.1.1, W_History k b0 (o0+14) s0.1.1.2, W_Text k b0 (o0+81) s0.1.2.1.1.1 s0.1.2.1.1.2 s0.1.2.1.2.1 s0.1.2.1.2.2 s0.1.2.2.1.1 s0.1.2.2.1.2 s0.1.2.2.2, W_Decoder k b0 (o0+85) s0.2.1, W_State k b0 (o0+152) s0.2.2].flatten := hD
        refine kcV (bs := [[((b0 o0), .inr (7, [.ref (b0 (o0+1)), .ref (b0 (o0+14)), .ref (b0 (o0+81)), .ref (b0 (o0+85)), .ref (b0 (o0+152))]))], W_State k b0 (o0+1) s0.1.1.1, W_History k b0 (o0+14) s0.1.1.2, W_Text k b0 (o0+81) s0.1.2.1.1.1 s0.1.2.1.1.2 s0.1.2.1.2.1 s0.1.2.1.2.2 s0.1.2.2.1.1 s0.1.2.2.1.2 s0.1.2.2.2, W_Decoder k b0 (o0+85) s0.2.1, W_State k b0 (o0+152) s0.2.2]) (br := [[((b0 o0), .inr (7, [.ref (b0 (o0+1)), .ref (b0 (o0+14)), .ref (b0 (o0+81)), .ref (b0 (o0+85)), .ref (b0 (o0+152))]))], W_History k b0 (o0+14) s0.1.1.2, W_Text k b0 (o0+81) s0.1.2.1.1.1 s0.1.2.1.1.2 s0.1.2.1.2.1 s0.1.2.1.2.2 s0.1.2.2.1.1 s0.1.2.2.1.2 s0.1.2.2.2, W_Decoder k b0 (o0+85) s0.2.1, W_State k b0 (o0+152) s0.2.2]) (bc := [W_State k b0 (o0+1) s0.1.1.1]) (bc' := [W_State k b0 (o0+1) s0.1.1.1]) X hP hD hS (c_State_braid_t l D k t b0 (o0+1) s0.1.1.1 i14 hc) mv_X7_114 hl [0, 2, 3, 4, 5] [1] 5 ⟨rfl, rfl⟩ ⟨Nat.le_of_ble_eq_true rfl, Nat.le_of_ble_eq_true rfl⟩ rfl rfl rfl rfl rfl rfl rfl (Nat.le_of_ble_eq_true rfl) dX7_digest_84 (fun H locs hP hD hS => ?_)
        have hP : va_P D vwCl [[((b0 o0), .inr (7, [.ref (b0 (o0+1)), .ref (b0 (o0+14)), .ref (b0 (o0+81)), .ref (b0 (o0+85)), .ref (b0 (o0+152))]))], W_History k b0 (o0+14) s0.1.1.2, W_Text k b0 (o0+81) s0.1.2.1.1.1 s0.1.2.1.1.2 s0.1.2.1.2.1 s0.1.2.1.2.2 s0.1.2.2.1.1 s0.1.2.2.1.2 s0.1.2.2.2, W_Decoder k b0 (o0+85) s0.2.1, W_State k b0 (o0+152) s0.2.2, W_State k b0 (o0+1) s0.1.1.1].flatten _ := hP
        have hD : va_D A [[((b0 o0), .inr (7, [.ref (b0 (o0+1)), .ref (b0 (o0+14)), .ref (b0 (o0+81)), .ref (b0 (o0+85)), .ref (b0 (o0+152))]))], W_History k b0 (o0+14) s0.1.1.2, W_Text k b0 (o0+81) s0.1.2.1.1.1 s0.1.2.1.1.2 s0.1.2.1.2.1 s0.1.2.1.2.2 s0.1.2.2.1.1 s0.1.2.2.1.2 s0.1.2.2.2, W_Decoder k b0 (o0+85) s0.2.1, W_State k b0 (o0+152) s0.2.2, W_State k b0 (o0+1) s0.1.1.1].flatten := hD
        obtain ⟨r15, hg_r15, hf⟩ := ofbind hf
        obtain ⟨hP, hD⟩ := B_perm (br := [[((b0 o0), .inr (7, [.ref (b0 (o0+1)), .ref (b0 (o0+14)), .ref (b0 (o0+81)), .ref (b0 (o0+85)), .ref (b0 (o0+152))]))], W_State k b0 (o0+1) s0.1.1.1, W_History k b0 (o0+14) s0.1.1.2, W_Text k b0 (o0+81) s0.1.2.1.1.1 s0.1.2.1.1.2 s0.1.2.1.2.1 s0.1.2.1.2.2 s0.1.2.2.1.1 s0.1.2.2.1.2 s0.1.2.2.2, W_Decoder k b0 (o0+85) s0.2.1, W_State k b0 (o0+152) s0.2.2]) hP hD [0, 5, 1, 2, 3, 4] rfl rfl
        have hP : va_P D vwCl [W_CB k b0 o0 s0].flatten _ := hP
        have hD : va_D A [W_CB k b0 o0 s0].flatten := hD
        refine kcV (bs := [W_CB k b0 o0 s0]) (br := []) (bc := [W_CB k b0 o0 s0]) (bc' := [W_CB k b0 o0 s0]) X hP hD hS (c_CB_hashOfBraid_f l D k t b0 o0 s0 i13 N r15 hg_r15) mv_X7_237 hl [] [0] 7 ⟨rfl, rfl⟩ ⟨Nat.le_of_ble_eq_true rfl, Nat.le_of_ble_eq_true rfl⟩ rfl rfl rfl rfl rfl rfl rfl (Nat.le_of_ble_eq_true rfl) dX7_digest_87 (fun H locs hP hD hS => ?_)
        have hP : va_P D vwCl [W_CB k b0 o0 s0].flatten _ := hP
        have hD : va_D A [W_CB k b0 o0 s0].flatten := hD
        refine lv_lstore_n (lv' := [(1, .long r15), (0, .ref (b0 o0)), (3, .int i14)]) hx hb dX7_digest_90 rfl hl (by decide) rfl (fun ls hl => ?_)
        refine lv_iinc (v := i14 + 1) (lv' := [(3, .int (i14 + 1)), (1, .long r15), (0, .ref (b0 o0))]) hx hb dX7_digest_91 hl (k := 2) rfl rfl (by decide) rfl (fun ls hl => ?_)
        refine lv_goto (tgt := 72) hx hb dX7_digest_94 (by decide) ?_
        exact ih r15 (i14 + 1) _ _ _ hP hD hS (lv_sub hl [2, 1, 0] rfl) hf
      · have hf := ofneg hf hc
        have hP : va_P D vwCl [[((b0 o0), .inr (7, [.ref (b0 (o0+1)), .ref (b0 (o0+14)), .ref (b0 (o0+81)), .ref (b0 (o0+85)), .ref (b0 (o0+152))]))], W_State k b0 (o0+1) s0.1.1.1, W_History k b0 (o0+14) s0.1.1.2, W_Text k b0 (o0+81) s0.1.2.1.1.1 s0.1.2.1.1.2 s0.1.2.1.2.1 s0.1.2.1.2.2 s0.1.2.2.1.1 s0.1.2.2.1.2 s0.1.2.2.2, W_Decoder k b0 (o0+85) s0.2.1, W_State k b0 (o0+152) s0.2.2].flatten _ := hP
        have hD : va_D A [[((b0 o0), .inr (7, [.ref (b0 (o0+1)), .ref (b0 (o0+14)), .ref (b0 (o0+81)), .ref (b0 (o0+85)), .ref (b0 (o0+152))]))], W_State k b0 (o0+1) s0.1.1.1, W_History k b0 (o0+14) s0.1.1.2, W_Text k b0 (o0+81) s0.1.2.1.1.1 s0.1.2.1.1.2 s0.1.2.1.2.1 s0.1.2.1.2.2 s0.1.2.2.1.1 s0.1.2.2.1.2 s0.1.2.2.2, W_Decoder k b0 (o0+85) s0.2.1, W_State k b0 (o0+152) s0.2.2].flatten := hD
        refine kcV (bs := [[((b0 o0), .inr (7, [.ref (b0 (o0+1)), .ref (b0 (o0+14)), .ref (b0 (o0+81)), .ref (b0 (o0+85)), .ref (b0 (o0+152))]))], W_State k b0 (o0+1) s0.1.1.1, W_History k b0 (o0+14) s0.1.1.2, W_Text k b0 (o0+81) s0.1.2.1.1.1 s0.1.2.1.1.2 s0.1.2.1.2.1 s0.1.2.1.2.2 s0.1.2.2.1.1 s0.1.2.2.1.2 s0.1.2.2.2, W_Decoder k b0 (o0+85) s0.2.1, W_State k b0 (o0+152) s0.2.2]) (br := [[((b0 o0), .inr (7, [.ref (b0 (o0+1)), .ref (b0 (o0+14)), .ref (b0 (o0+81)), .ref (b0 (o0+85)), .ref (b0 (o0+152))]))], W_History k b0 (o0+14) s0.1.1.2, W_Text k b0 (o0+81) s0.1.2.1.1.1 s0.1.2.1.1.2 s0.1.2.1.2.1 s0.1.2.1.2.2 s0.1.2.2.1.1 s0.1.2.2.1.2 s0.1.2.2.2, W_Decoder k b0 (o0+85) s0.2.1, W_State k b0 (o0+152) s0.2.2]) (bc := [W_State k b0 (o0+1) s0.1.1.1]) (bc' := [W_State k b0 (o0+1) s0.1.1.1]) X hP hD hS (c_State_braid_e l D k t b0 (o0+1) s0.1.1.1 i14 hc) mv_X7_114 hl [0, 2, 3, 4, 5] [1] 5 ⟨rfl, rfl⟩ ⟨Nat.le_of_ble_eq_true rfl, Nat.le_of_ble_eq_true rfl⟩ rfl rfl rfl rfl rfl rfl rfl (Nat.le_of_ble_eq_true rfl) dX7_digest_84 (fun H locs hP hD hS => ?_)
        have hP : va_P D vwCl [[((b0 o0), .inr (7, [.ref (b0 (o0+1)), .ref (b0 (o0+14)), .ref (b0 (o0+81)), .ref (b0 (o0+85)), .ref (b0 (o0+152))]))], W_History k b0 (o0+14) s0.1.1.2, W_Text k b0 (o0+81) s0.1.2.1.1.1 s0.1.2.1.1.2 s0.1.2.1.2.1 s0.1.2.1.2.2 s0.1.2.2.1.1 s0.1.2.2.1.2 s0.1.2.2.2, W_Decoder k b0 (o0+85) s0.2.1, W_State k b0 (o0+152) s0.2.2, W_State k b0 (o0+1) s0.1.1.1].flatten _ := hP
        have hD : va_D A [[((b0 o0), .inr (7, [.ref (b0 (o0+1)), .ref (b0 (o0+14)), .ref (b0 (o0+81)), .ref (b0 (o0+85)), .ref (b0 (o0+152))]))], W_History k b0 (o0+14) s0.1.1.2, W_Text k b0 (o0+81) s0.1.2.1.1.1 s0.1.2.1.1.2 s0.1.2.1.2.1 s0.1.2.1.2.2 s0.1.2.2.1.1 s0.1.2.2.1.2 s0.1.2.2.2, W_Decoder k b0 (o0+85) s0.2.1, W_State k b0 (o0+152) s0.2.2, W_State k b0 (o0+1) s0.1.1.1].flatten := hD
        obtain ⟨r16, hg_r16, hf⟩ := ofbind hf
        obtain ⟨hP, hD⟩ := B_perm (br := [[((b0 o0), .inr (7, [.ref (b0 (o0+1)), .ref (b0 (o0+14)), .ref (b0 (o0+81)), .ref (b0 (o0+85)), .ref (b0 (o0+152))]))], W_State k b0 (o0+1) s0.1.1.1, W_History k b0 (o0+14) s0.1.1.2, W_Text k b0 (o0+81) s0.1.2.1.1.1 s0.1.2.1.1.2 s0.1.2.1.2.1 s0.1.2.1.2.2 s0.1.2.2.1.1 s0.1.2.2.1.2 s0.1.2.2.2, W_Decoder k b0 (o0+85) s0.2.1, W_State k b0 (o0+152) s0.2.2]) hP hD [0, 5, 1, 2, 3, 4] rfl rfl
        have hP : va_P D vwCl [W_CB k b0 o0 s0].flatten _ := hP
        have hD : va_D A [W_CB k b0 o0 s0].flatten := hD
        refine kcV (bs := [W_CB k b0 o0 s0]) (br := []) (bc := [W_CB k b0 o0 s0]) (bc' := [W_CB k b0 o0 s0]) X hP hD hS (c_CB_hashOfBraid_s l D k t b0 o0 s0 i13 N r16 hg_r16) mv_X7_237 hl [] [0] 7 ⟨rfl, rfl⟩ ⟨Nat.le_of_ble_eq_true rfl, Nat.le_of_ble_eq_true rfl⟩ rfl rfl rfl rfl rfl rfl rfl (Nat.le_of_ble_eq_true rfl) dX7_digest_87 (fun H locs hP hD hS => ?_)
        have hP : va_P D vwCl [W_CB k b0 o0 s0].flatten _ := hP
        have hD : va_D A [W_CB k b0 o0 s0].flatten := hD
        refine lv_lstore_n (lv' := [(1, .long r16), (0, .ref (b0 o0)), (3, .int i14)]) hx hb dX7_digest_90 rfl hl (by decide) rfl (fun ls hl => ?_)
        refine lv_iinc (v := i14 + 1) (lv' := [(3, .int (i14 + 1)), (1, .long r16), (0, .ref (b0 o0))]) hx hb dX7_digest_91 hl (k := 2) rfl rfl (by decide) rfl (fun ls hl => ?_)
        refine lv_goto (tgt := 72) hx hb dX7_digest_94 (by decide) ?_
        exact ih r16 (i14 + 1) _ _ _ hP hD hS (lv_sub hl [2, 1, 0] rfl) hf
set_option maxRecDepth 100000 in
set_option maxHeartbeats 1000000 in
theorem c_CB_digest (l : Launch) (D : va_G) (k : Nat → ClassId) (t : Nat → Nat) (b0 : Nat → Nat) (o0 : Nat) (s0 : CBS) (N : Nat) (out : Int64) (hf : f_CB_digest N s0.1.1.1.1.1.1.1.1.1 s0.1.1.1.1.1.1.1.1.2 s0.1.1.1.1.1.1.1.2 s0.1.1.1.1.1.1.2.1.1 s0.1.1.1.1.1.1.2.1.2 s0.1.1.1.1.1.1.2.2 s0.1.1.1.1.1.2 s0.1.1.1.1.2 s0.1.1.1.2.1.1.1 s0.1.1.1.2.1.1.2 s0.1.1.1.2.1.2.1 s0.1.1.1.2.1.2.2 s0.1.1.1.2.2.1.1 s0.1.1.1.2.2.1.2 s0.1.1.1.2.2.2.1 s0.1.1.1.2.2.2.2 = some out) : CT l D k t yX7_digest cX7_digest 4 (some .long) rm_CB_digest [.ref (b0 o0)] [W_CB k b0 o0 s0].flatten (some (.long out)) [W_CB k b0 o0 s0].flatten := by
  refine kofW (by decide) (Nat.le_of_ble_eq_true rfl) ?_
  intro p e s m below meth c A ls X hP hD hS hl
  have hx := X.1.1
  have hb := X.1.2.1
  have hml := X.1.2.2.1
  have hown := X.1.2.2.2.1
  have hts := X.1.2.2.2.2
  have hl : lv_has ls 4 [(0, .ref (b0 o0))] := hl
  rw [f_CB_digest] at hf
  refine lv_ldc2 (v := 17) hx hb hown (hts _ kc_X7_233) dX7_digest_0 ?_
  refine lv_lstore_n (lv' := [(1, .long 17), (0, .ref (b0 o0))]) hx hb dX7_digest_3 rfl hl (by decide) rfl (fun ls hl => ?_)
  refine lv_iconst (v := 0) hx hb dX7_digest_4 (by decide) ?_
  refine lv_istore_n (lv' := [(3, .int 0), (1, .long 17), (0, .ref (b0 o0))]) hx hb dX7_digest_5 rfl hl (by decide) rfl (fun ls hl => ?_)
  refine w_CB_digest_L6 X b0 o0 s0 N out _ ?_ N 17 0 _ _ _ hP hD hS (lv_sub hl [2, 1, 0] rfl) hf
  · intro i5 i6 H locs ls hP hD hS hl hf
    refine lv_iconst (v := 0) hx hb dX7_digest_34 (by decide) ?_
    refine lv_istore_n (lv' := [(3, .int 0), (0, .ref (b0 o0)), (1, .long i5)]) hx hb dX7_digest_35 rfl hl (by decide) rfl (fun ls hl => ?_)
    refine w_CB_digest_L36 X b0 o0 s0 N out _ ?_ N i5 0 _ _ _ hP hD hS (lv_sub hl [1, 2, 0] rfl) hf
    · intro i9 i10 H locs ls hP hD hS hl hf
      refine lv_iconst (v := 0) hx hb dX7_digest_70 (by decide) ?_
      refine lv_istore_n (lv' := [(3, .int 0), (0, .ref (b0 o0)), (1, .long i9)]) hx hb dX7_digest_71 rfl hl (by decide) rfl (fun ls hl => ?_)
      refine w_CB_digest_L72 X b0 o0 s0 N out _ ?_ N i9 0 _ _ _ hP hD hS (lv_sub hl [1, 2, 0] rfl) hf
      · intro i17 i18 H locs ls hP hD hS hl hf
        refine lv_lload_n hx hb dX7_digest_97 rfl (lv_at hl 0 rfl) ?_
        have hf := Option.some.inj hf
        subst hf
        exact klret (v := i17) X hP hD hS dX7_digest_98
