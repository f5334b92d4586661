theorem kc_L_7 : Cond.constant RL 7 (2147483647) ∈ ALL := (wm_r5 (List.mem_of_getElem? (i := 3) rfl))
theorem mv_L_8 : MV RL 8 1 yX7_certain cX7_certain 2 (some .int) := ⟨⟨(wm_r15 (List.mem_of_getElem? (i := 6) rfl)), (wm_r15 (List.mem_of_getElem? (i := 7) rfl)), (wm_r15 (List.mem_of_getElem? (i := 8) rfl)), (wm_r1 (List.mem_of_getElem? (i := 2) rfl)), (wm_r15 (List.mem_of_getElem? (i := 9) rfl))⟩, by decide +kernel, by decide +kernel, by decide +kernel⟩
theorem mv_L_14 : MV RL 14 1 yX7_form cX7_form 2 (some .int) := ⟨⟨(wm_r13 (List.mem_of_getElem? (i := 6) rfl)), (wm_r13 (List.mem_of_getElem? (i := 7) rfl)), (wm_r13 (List.mem_of_getElem? (i := 8) rfl)), (wm_r1 (List.mem_of_getElem? (i := 2) rfl)), (wm_r13 (List.mem_of_getElem? (i := 9) rfl))⟩, by decide +kernel, by decide +kernel, by decide +kernel⟩
theorem mv_L_17 : MV RL 17 2 yX7_truth cX7_truth 3 (some .long) := ⟨⟨(wm_r14 (List.mem_of_getElem? (i := 10) rfl)), (wm_r14 (List.mem_of_getElem? (i := 11) rfl)), (wm_r14 (List.mem_of_getElem? (i := 12) rfl)), (wm_r1 (List.mem_of_getElem? (i := 2) rfl)), (wm_r14 (List.mem_of_getElem? (i := 13) rfl))⟩, by decide +kernel, by decide +kernel, by decide +kernel⟩
theorem mv_L_21 : MV RL 21 3 yX7_bound cX7_bound 4 (some .long) := ⟨⟨(wm_r17 (List.mem_of_getElem? (i := 22) rfl)), (wm_r17 (List.mem_of_getElem? (i := 23) rfl)), (wm_r18 (List.mem_of_getElem? (i := 0) rfl)), (wm_r1 (List.mem_of_getElem? (i := 2) rfl)), (wm_r18 (List.mem_of_getElem? (i := 1) rfl))⟩, by decide +kernel, by decide +kernel, by decide +kernel⟩
theorem mv_L_25 : MV RL 25 2 yX7_estimate cX7_estimate 3 (some .long) := ⟨⟨(wm_r18 (List.mem_of_getElem? (i := 7) rfl)), (wm_r18 (List.mem_of_getElem? (i := 8) rfl)), (wm_r18 (List.mem_of_getElem? (i := 9) rfl)), (wm_r1 (List.mem_of_getElem? (i := 2) rfl)), (wm_r18 (List.mem_of_getElem? (i := 10) rfl))⟩, by decide +kernel, by decide +kernel, by decide +kernel⟩
theorem kc_L_28 : Cond.constantLong RL 28 (2) ∈ ALL := (wm_r15 (List.mem_of_getElem? (i := 5) rfl))
theorem mv_L_30 : MV RL 30 4 yX7_boundAfter cX7_boundAfter 5 (some .long) := ⟨⟨(wm_r18 (List.mem_of_getElem? (i := 12) rfl)), (wm_r18 (List.mem_of_getElem? (i := 3) rfl)), (wm_r18 (List.mem_of_getElem? (i := 4) rfl)), (wm_r1 (List.mem_of_getElem? (i := 2) rfl)), (wm_r18 (List.mem_of_getElem? (i := 5) rfl))⟩, by decide +kernel, by decide +kernel, by decide +kernel⟩
theorem mv_L_34 : MV RL 34 2 yX7_leastPlace cX7_leastPlace 3 (some .long) := ⟨⟨(wm_r18 (List.mem_of_getElem? (i := 13) rfl)), (wm_r18 (List.mem_of_getElem? (i := 14) rfl)), (wm_r18 (List.mem_of_getElem? (i := 15) rfl)), (wm_r1 (List.mem_of_getElem? (i := 2) rfl)), (wm_r18 (List.mem_of_getElem? (i := 16) rfl))⟩, by decide +kernel, by decide +kernel, by decide +kernel⟩
theorem mv_L_37 : MV RL 37 1 yX7_widest cX7_widest 2 (some .int) := ⟨⟨(wm_r18 (List.mem_of_getElem? (i := 17) rfl)), (wm_r18 (List.mem_of_getElem? (i := 18) rfl)), (wm_r18 (List.mem_of_getElem? (i := 19) rfl)), (wm_r1 (List.mem_of_getElem? (i := 2) rfl)), (wm_r18 (List.mem_of_getElem? (i := 20) rfl))⟩, by decide +kernel, by decide +kernel, by decide +kernel⟩
theorem mv_L_40 : MV RL 40 2 yX7_total cX7_total 3 (some .long) := ⟨⟨(wm_r19 (List.mem_of_getElem? (i := 1) rfl)), (wm_r19 (List.mem_of_getElem? (i := 2) rfl)), (wm_r19 (List.mem_of_getElem? (i := 3) rfl)), (wm_r1 (List.mem_of_getElem? (i := 2) rfl)), (wm_r19 (List.mem_of_getElem? (i := 4) rfl))⟩, by decide +kernel, by decide +kernel, by decide +kernel⟩
theorem mv_L_43 : MV RL 43 1 yX7_lastRound cX7_lastRound 2 (some .int) := ⟨⟨(wm_r19 (List.mem_of_getElem? (i := 18) rfl)), (wm_r19 (List.mem_of_getElem? (i := 19) rfl)), (wm_r19 (List.mem_of_getElem? (i := 20) rfl)), (wm_r1 (List.mem_of_getElem? (i := 2) rfl)), (wm_r19 (List.mem_of_getElem? (i := 21) rfl))⟩, by decide +kernel, by decide +kernel, by decide +kernel⟩
theorem mv_L_46 : MV RL 46 1 yX7_certainOverflows cX7_certainOverflows 2 (some .int) := ⟨⟨(wm_r20 (List.mem_of_getElem? (i := 1) rfl)), (wm_r20 (List.mem_of_getElem? (i := 2) rfl)), (wm_r20 (List.mem_of_getElem? (i := 3) rfl)), (wm_r1 (List.mem_of_getElem? (i := 2) rfl)), (wm_r20 (List.mem_of_getElem? (i := 4) rfl))⟩, by decide +kernel, by decide +kernel, by decide +kernel⟩
theorem mv_L_49 : MV RL 49 1 yX7_places cX7_places 2 (some .int) := ⟨⟨(wm_r20 (List.mem_of_getElem? (i := 7) rfl)), (wm_r20 (List.mem_of_getElem? (i := 8) rfl)), (wm_r20 (List.mem_of_getElem? (i := 9) rfl)), (wm_r1 (List.mem_of_getElem? (i := 2) rfl)), (wm_r20 (List.mem_of_getElem? (i := 10) rfl))⟩, by decide +kernel, by decide +kernel, by decide +kernel⟩
theorem mv_L_52 : MV RL 52 1 yX7_placesAbove cX7_placesAbove 2 (some .int) := ⟨⟨(wm_r20 (List.mem_of_getElem? (i := 12) rfl)), (wm_r20 (List.mem_of_getElem? (i := 13) rfl)), (wm_r20 (List.mem_of_getElem? (i := 14) rfl)), (wm_r1 (List.mem_of_getElem? (i := 2) rfl)), (wm_r20 (List.mem_of_getElem? (i := 15) rfl))⟩, by decide +kernel, by decide +kernel, by decide +kernel⟩
theorem mv_L_55 : MV RL 55 3 yX7_overflow cX7_overflow 4 (some .long) := ⟨⟨(wm_r20 (List.mem_of_getElem? (i := 21) rfl)), (wm_r20 (List.mem_of_getElem? (i := 22) rfl)), (wm_r20 (List.mem_of_getElem? (i := 23) rfl)), (wm_r1 (List.mem_of_getElem? (i := 2) rfl)), (wm_r21 (List.mem_of_getElem? (i := 0) rfl))⟩, by decide +kernel, by decide +kernel, by decide +kernel⟩
theorem mv_L_58 : MV RL 58 2 yX7_rest cX7_rest 3 (some .int) := ⟨⟨(wm_r21 (List.mem_of_getElem? (i := 1) rfl)), (wm_r21 (List.mem_of_getElem? (i := 2) rfl)), (wm_r21 (List.mem_of_getElem? (i := 3) rfl)), (wm_r1 (List.mem_of_getElem? (i := 2) rfl)), (wm_r21 (List.mem_of_getElem? (i := 4) rfl))⟩, by decide +kernel, by decide +kernel, by decide +kernel⟩
theorem mv_L_62 : MV RL 62 2 yX7_isMarked cX7_isMarked 3 (some .int) := ⟨⟨(wm_r21 (List.mem_of_getElem? (i := 5) rfl)), (wm_r21 (List.mem_of_getElem? (i := 6) rfl)), (wm_r21 (List.mem_of_getElem? (i := 7) rfl)), (wm_r1 (List.mem_of_getElem? (i := 2) rfl)), (wm_r21 (List.mem_of_getElem? (i := 8) rfl))⟩, by decide +kernel, by decide +kernel, by decide +kernel⟩
theorem mv_L_65 : MV RL 65 2 yX7_above cX7_above 3 (some .long) := ⟨⟨(wm_r21 (List.mem_of_getElem? (i := 9) rfl)), (wm_r21 (List.mem_of_getElem? (i := 10) rfl)), (wm_r21 (List.mem_of_getElem? (i := 11) rfl)), (wm_r1 (List.mem_of_getElem? (i := 2) rfl)), (wm_r21 (List.mem_of_getElem? (i := 12) rfl))⟩, by decide +kernel, by decide +kernel, by decide +kernel⟩
theorem kc_L_68 : Cond.constantLong RL 68 (-2) ∈ ALL := (wm_r1 (List.mem_of_getElem? (i := 4) rfl))
theorem ms_L_77 : MS RL 77 2 yL_low cL_low 2 (some .int) := ⟨⟨(wm_r5 (List.mem_of_getElem? (i := 0) rfl)), (wm_r5 (List.mem_of_getElem? (i := 1) rfl)), (wm_r4 (List.mem_of_getElem? (i := 22) rfl)), (wm_r5 (List.mem_of_getElem? (i := 2) rfl))⟩, by decide +kernel, by decide +kernel, by decide +kernel⟩
theorem mv_L_80 : MV RL 80 0 yX7_undo cX7_undo 1 (some .int) := ⟨⟨(wm_r5 (List.mem_of_getElem? (i := 4) rfl)), (wm_r5 (List.mem_of_getElem? (i := 5) rfl)), (wm_r5 (List.mem_of_getElem? (i := 6) rfl)), (wm_r1 (List.mem_of_getElem? (i := 2) rfl)), (wm_r5 (List.mem_of_getElem? (i := 7) rfl))⟩, by decide +kernel, by decide +kernel, by decide +kernel⟩
theorem mv_L_84 : MV RL 84 0 yX7_load cX7_load 2 (some .int) := ⟨⟨(wm_r6 (List.mem_of_getElem? (i := 7) rfl)), (wm_r6 (List.mem_of_getElem? (i := 8) rfl)), (wm_r6 (List.mem_of_getElem? (i := 9) rfl)), (wm_r1 (List.mem_of_getElem? (i := 2) rfl)), (wm_r6 (List.mem_of_getElem? (i := 10) rfl))⟩, by decide +kernel, by decide +kernel, by decide +kernel⟩
theorem mv_L_87 : MV RL 87 0 yX7_bitsForEach cX7_bitsForEach 2 (some .int) := ⟨⟨(wm_r10 (List.mem_of_getElem? (i := 13) rfl)), (wm_r10 (List.mem_of_getElem? (i := 14) rfl)), (wm_r10 (List.mem_of_getElem? (i := 15) rfl)), (wm_r1 (List.mem_of_getElem? (i := 2) rfl)), (wm_r10 (List.mem_of_getElem? (i := 16) rfl))⟩, by decide +kernel, by decide +kernel, by decide +kernel⟩
theorem mv_L_90 : MV RL 90 3 yX7_setFirst cX7_setFirst 5 (some .int) := ⟨⟨(wm_r11 (List.mem_of_getElem? (i := 5) rfl)), (wm_r11 (List.mem_of_getElem? (i := 6) rfl)), (wm_r11 (List.mem_of_getElem? (i := 7) rfl)), (wm_r1 (List.mem_of_getElem? (i := 2) rfl)), (wm_r11 (List.mem_of_getElem? (i := 8) rfl))⟩, by decide +kernel, by decide +kernel, by decide +kernel⟩
theorem mv_L_94 : MV RL 94 2 yX7_setSecond cX7_setSecond 4 (some .int) := ⟨⟨(wm_r12 (List.mem_of_getElem? (i := 2) rfl)), (wm_r12 (List.mem_of_getElem? (i := 3) rfl)), (wm_r12 (List.mem_of_getElem? (i := 4) rfl)), (wm_r1 (List.mem_of_getElem? (i := 2) rfl)), (wm_r12 (List.mem_of_getElem? (i := 5) rfl))⟩, by decide +kernel, by decide +kernel, by decide +kernel⟩
theorem mv_L_97 : MV RL 97 1 yX7_setRounds cX7_setRounds 3 (some .int) := ⟨⟨(wm_r12 (List.mem_of_getElem? (i := 7) rfl)), (wm_r12 (List.mem_of_getElem? (i := 8) rfl)), (wm_r12 (List.mem_of_getElem? (i := 9) rfl)), (wm_r1 (List.mem_of_getElem? (i := 2) rfl)), (wm_r12 (List.mem_of_getElem? (i := 10) rfl))⟩, by decide +kernel, by decide +kernel, by decide +kernel⟩
theorem mv_L_100 : MV RL 100 1 yX7_addFlow cX7_addFlow 2 (some .int) := ⟨⟨(wm_r12 (List.mem_of_getElem? (i := 12) rfl)), (wm_r12 (List.mem_of_getElem? (i := 13) rfl)), (wm_r12 (List.mem_of_getElem? (i := 14) rfl)), (wm_r1 (List.mem_of_getElem? (i := 2) rfl)), (wm_r12 (List.mem_of_getElem? (i := 15) rfl))⟩, by decide +kernel, by decide +kernel, by decide +kernel⟩
theorem mv_L_103 : MV RL 103 1 yX7_key cX7_key 2 (some .int) := ⟨⟨(wm_r12 (List.mem_of_getElem? (i := 17) rfl)), (wm_r12 (List.mem_of_getElem? (i := 18) rfl)), (wm_r12 (List.mem_of_getElem? (i := 19) rfl)), (wm_r1 (List.mem_of_getElem? (i := 2) rfl)), (wm_r12 (List.mem_of_getElem? (i := 20) rfl))⟩, by decide +kernel, by decide +kernel, by decide +kernel⟩
theorem mv_L_106 : MV RL 106 1 yX7_flowOf cX7_flowOf 2 (some .int) := ⟨⟨(wm_r13 (List.mem_of_getElem? (i := 2) rfl)), (wm_r13 (List.mem_of_getElem? (i := 3) rfl)), (wm_r13 (List.mem_of_getElem? (i := 4) rfl)), (wm_r1 (List.mem_of_getElem? (i := 2) rfl)), (wm_r13 (List.mem_of_getElem? (i := 5) rfl))⟩, by decide +kernel, by decide +kernel, by decide +kernel⟩
theorem mv_L_110 : MV RL 110 0 yX7_digest cX7_digest 4 (some .long) := ⟨⟨(wm_r13 (List.mem_of_getElem? (i := 20) rfl)), (wm_r13 (List.mem_of_getElem? (i := 21) rfl)), (wm_r13 (List.mem_of_getElem? (i := 22) rfl)), (wm_r1 (List.mem_of_getElem? (i := 2) rfl)), (wm_r13 (List.mem_of_getElem? (i := 23) rfl))⟩, by decide +kernel, by decide +kernel, by decide +kernel⟩
theorem mv_L_114 : MV RL 114 3 yX7_count cX7_count 5 (some .long) := ⟨⟨(wm_r14 (List.mem_of_getElem? (i := 18) rfl)), (wm_r14 (List.mem_of_getElem? (i := 19) rfl)), (wm_r14 (List.mem_of_getElem? (i := 20) rfl)), (wm_r1 (List.mem_of_getElem? (i := 2) rfl)), (wm_r14 (List.mem_of_getElem? (i := 21) rfl))⟩, by decide +kernel, by decide +kernel, by decide +kernel⟩
theorem ms_L_118 : MS RL 118 3 yL_areBoundsSound cL_areBoundsSound 24 (some .boolean) := ⟨⟨(wm_r15 (List.mem_of_getElem? (i := 2) rfl)), (wm_r15 (List.mem_of_getElem? (i := 3) rfl)), (wm_r4 (List.mem_of_getElem? (i := 22) rfl)), (wm_r15 (List.mem_of_getElem? (i := 4) rfl))⟩, by decide +kernel, by decide +kernel, by decide +kernel⟩
theorem ms_L_122 : MS RL 122 2 yL_areCountersSound cL_areCountersSound 17 (some .boolean) := ⟨⟨(wm_r19 (List.mem_of_getElem? (i := 22) rfl)), (wm_r19 (List.mem_of_getElem? (i := 23) rfl)), (wm_r4 (List.mem_of_getElem? (i := 22) rfl)), (wm_r20 (List.mem_of_getElem? (i := 0) rfl))⟩, by decide +kernel, by decide +kernel, by decide +kernel⟩
theorem kc_L_109 : Cond.constant RL 109 (100000) ∈ ALL := (wm_r1 (List.mem_of_getElem? (i := 3) rfl))
theorem mv_L_126 : MV RL 126 2 yX7_addBraid cX7_addBraid 3 (some .int) := ⟨⟨(wm_r21 (List.mem_of_getElem? (i := 13) rfl)), (wm_r21 (List.mem_of_getElem? (i := 14) rfl)), (wm_r21 (List.mem_of_getElem? (i := 15) rfl)), (wm_r1 (List.mem_of_getElem? (i := 2) rfl)), (wm_r21 (List.mem_of_getElem? (i := 16) rfl))⟩, by decide +kernel, by decide +kernel, by decide +kernel⟩
theorem mv_L_129 : MV RL 129 1 yX7_clear cX7_clear 4 (some .long) := ⟨⟨(wm_r22 (List.mem_of_getElem? (i := 6) rfl)), (wm_r22 (List.mem_of_getElem? (i := 7) rfl)), (wm_r22 (List.mem_of_getElem? (i := 8) rfl)), (wm_r1 (List.mem_of_getElem? (i := 2) rfl)), (wm_r22 (List.mem_of_getElem? (i := 9) rfl))⟩, by decide +kernel, by decide +kernel, by decide +kernel⟩
theorem mv_L_133 : MV RL 133 0 yX7_bits cX7_bits 1 (some .int) := ⟨⟨(wm_r22 (List.mem_of_getElem? (i := 11) rfl)), (wm_r10 (List.mem_of_getElem? (i := 18) rfl)), (wm_r10 (List.mem_of_getElem? (i := 19) rfl)), (wm_r1 (List.mem_of_getElem? (i := 2) rfl)), (wm_r10 (List.mem_of_getElem? (i := 20) rfl))⟩, by decide +kernel, by decide +kernel, by decide +kernel⟩
theorem kc_L_136 : Cond.constantLong RL 136 (-3) ∈ ALL := (wm_r1 (List.mem_of_getElem? (i := 5) rfl))
/-! L_low: private static int low(int, int); -/
abbrev rm_L_low : Room := ({ frames := 0, cells := 0, slots := 0, locals := 0 } : Room)
def f_L_low (x0 : Int32) (x1 : Int32) : Option (Int32) := if x1 = 0 then none else some ((x0 &&& 2147483647) - (x0 &&& 2147483647) / x1 * x1)
abbrev Q_L_low (below : List Frame) (D : va_G) (k : Nat → ClassId) (A : Nat → Prop) (args : Array Value) (s : State) (out : Int32) : State → Prop := MQ below (QW D k A (some (.int out)) [].flatten) args s 0 0 A
set_option maxRecDepth 100000 in
set_option maxHeartbeats 8000000 in
theorem c_L_low (l : Launch) (D : va_G) (k : Nat → ClassId) (t : Nat → Nat) (x0 : Int32) (x1 : Int32) (out : Int32) (hf : f_L_low x0 x1 = some out) : CT l D k t yL_low cL_low 2 (some .int) rm_L_low [.int x0, .int x1] [].flatten (some (.int out)) [].flatten := by
  refine kofW (by decide) (Nat.le_of_ble_eq_true rfl) ?_
  intro p e s m below meth c A ls X hP hD hS hl
  have N : Nat := 0
  have hx := X.1.1
  have hb := X.1.2.1
  have hml := X.1.2.2.1
  have hown := X.1.2.2.2.1
  have hts := X.1.2.2.2.2
  have hl : lv_has ls 2 [(0, .int x0), (1, .int x1)] := hl
  rw [f_L_low] at hf
  refine lv_iload_n hx hb dL_low_0 rfl (lv_at hl 0 rfl) ?_
  refine lv_ldc (v := 2147483647) hx hb hown (hts _ kc_L_7) dL_low_1 ?_
  refine lv_iand hx hb dL_low_3 ?_
  refine lv_iload_n hx hb dL_low_4 rfl (lv_at hl 1 rfl) ?_
  obtain ⟨hz, hf⟩ := ofdv hf
  refine lv_irem hx hb dL_low_5 hz ?_
  have hf := Option.some.inj hf
  subst hf
  exact kiret (v := (x0 &&& 2147483647) - (x0 &&& 2147483647) / x1 * x1) X hP hD hS dL_low_6
/-! L_areCountersSound: private static boolean areCountersSound(CounterBraid, int); -/
abbrev rm_L_areCountersSound : Room := ({ frames := 7, cells := 0, slots := 0, locals := 161 } : Room)
def f_L_areCountersSound_L31 (N : Nat) (i36 : Int32) (i40 : Int32) (c43 : CBS) (K79 : Int64 → Int32 → Option (Int32 × CBS)) : Nat → Int64 → Int32 → Option (Int32 × CBS)
  | 0, _, _ => none
  | n + 1, i41, i42 => (f_W_form N 6 c43).bind (fun r44 => if r44 ≤ i42 then K79 i41 i42 else (f_W_places N i42 c43).bind (fun r45 => if ((r45 >>> (i40 &&& 31)) &&& 1) = 1 then (f_W_truth N i36 i42 c43).bind (fun r46 => f_L_areCountersSound_L31 N i36 i40 c43 K79 n (i41 + r46) (i42 + 1)) else f_L_areCountersSound_L31 N i36 i40 c43 K79 n (i41 + 0) (i42 + 1)))
def f_L_areCountersSound_L95 (N : Nat) (i56 : Int32) (c61 : CBS) (K127 : Int32 → Int32 → Option (Int32 × CBS)) : Nat → Int32 → Int32 → Option (Int32 × CBS)
  | 0, _, _ => none
  | n + 1, i59, i60 => (f_W_form N 3 c61).bind (fun r62 => if r62 ≤ i60 then K127 i59 i60 else (f_W_placesAbove N i56 c61).bind (fun r63 => f_L_areCountersSound_L95 N i56 c61 K127 n (i59 + ((r63 >>> (i60 &&& 31)) &&& 1)) (i60 + 1)))
def f_L_areCountersSound_J284 (j108 : Int64) (j110 : Int32) (j111 : Int64) (j112 : Int64) (t113 : Int32) (c114 : CBS) (B15 : Int64 → Int32 → CBS → Option (Int32 × CBS)) : Option (Int32 × CBS) := if j111 = j112 then if t113 = 1 then B15 j108 (j110 + 1) c114 else some (0, c114) else if t113 = 0 then B15 j108 (j110 + 1) c114 else some (0, c114)
def f_L_areCountersSound_J268 (j100 : Int64) (j101 : Int32) (j102 : Int32) (j103 : Int64) (j104 : Int64) (c105 : CBS) (B15 : Int64 → Int32 → CBS → Option (Int32 × CBS)) : Option (Int32 × CBS) := if ((j101 >>> (j102 &&& 31)) &&& 1) = 1 then f_L_areCountersSound_J284 j100 j102 j103 j104 1 c105 B15 else f_L_areCountersSound_J284 j100 j102 j103 j104 0 c105 B15
def f_L_areCountersSound_J250 (N : Nat) (j89 : Int32) (j91 : Int64) (j92 : Int32) (j93 : Int32) (j94 : Int64) (j95 : Int64) (c96 : CBS) (B15 : Int64 → Int32 → CBS → Option (Int32 × CBS)) : Option (Int32 × CBS) := (f_W_isMarked N j89 j93 c96).bind (fun r97 => if r97 = 1 then if j94 < 1 then some (0, c96) else f_L_areCountersSound_J268 j91 j92 j93 j94 j95 c96 B15 else f_L_areCountersSound_J268 j91 j92 j93 j94 j95 c96 B15)
def f_L_areCountersSound_J217 (N : Nat) (j79 : Int32) (j81 : Int64) (j82 : Int32) (j83 : Int32) (j84 : Int64) (j85 : Int64) (j86 : Int64) (c87 : CBS) (B15 : Int64 → Int32 → CBS → Option (Int32 × CBS)) : Option (Int32 × CBS) := if j84 < j85 then some (0, c87) else if j86 < j84 then some (0, c87) else (f_W_isMarked N j79 j83 c87).bind (fun r88 => if r88 = 0 then if j86 = 0 then f_L_areCountersSound_J250 N j79 j81 j82 j83 j85 j86 c87 B15 else some (0, c87) else f_L_areCountersSound_J250 N j79 j81 j82 j83 j85 j86 c87 B15)
def f_L_areCountersSound_J198 (N : Nat) (j70 : Int32) (j72 : Int64) (j73 : Int32) (j74 : Int32) (j75 : Int64) (j76 : Int64) (j77 : Int64) (c78 : CBS) (B15 : Int64 → Int32 → CBS → Option (Int32 × CBS)) : Option (Int32 × CBS) := if j75 = 0 then (f_W_isMarked N j70 j74 c78).bind (fun r115 => if r115 = 0 then f_L_areCountersSound_J217 N j70 j72 j73 j74 j75 j76 j77 c78 B15 else some (0, c78)) else f_L_areCountersSound_J217 N j70 j72 j73 j74 j75 j76 j77 c78 B15
def f_L_areCountersSound_L15 (N : Nat) (i26 : Int32) (i29 : Int32) (K308 : Int64 → Int32 → CBS → Option (Int32 × CBS)) : Nat → Int64 → Int32 → CBS → Option (Int32 × CBS)
  | 0, _, _, _ => none
  | n + 1, i28, i30, c31 => (f_W_form N 0 c31).bind (fun r32 => if r32 ≤ i30 then K308 i28 i30 c31 else f_L_areCountersSound_L31 N i26 i30 c31 (fun i47 i48 => (f_W_form N 1 c31).bind (fun r49 => f_L_areCountersSound_L95 N i30 c31 (fun i64 i65 => (f_W_overflow N i26 i30 0 c31).bind (fun r66 => (f_W_overflow N i26 i30 1 r66.2).bind (fun r67 => (f_W_rest N i26 i30 r67.2).bind (fun r68 => (f_W_form N 1 r67.2).bind (fun r69 => if r68 = ((i47 - ((i47 >>> (r49.toInt64 &&& 63)) <<< (r69.toInt64 &&& 63))).toInt32) then if (i47 >>> (r49.toInt64 &&& 63)) ≤ 0 then f_L_areCountersSound_J198 N i26 (i28 + (i64.toInt64 * (i47 >>> (r49.toInt64 &&& 63)))) i29 i30 (i47 >>> (r49.toInt64 &&& 63)) r66.1 r67.1 r67.2 (f_L_areCountersSound_L15 N i26 i29 K308 n) else (f_W_isMarked N i26 i30 r67.2).bind (fun r116 => if r116 = 1 then f_L_areCountersSound_J198 N i26 (i28 + (i64.toInt64 * (i47 >>> (r49.toInt64 &&& 63)))) i29 i30 (i47 >>> (r49.toInt64 &&& 63)) r66.1 r67.1 r67.2 (f_L_areCountersSound_L15 N i26 i29 K308 n) else some (0, r67.2)) else some (0, r67.2)))))) N 0 0)) N 0 0)
def f_L_areCountersSound_L311 (N : Nat) (i122 : Int32) (c126 : CBS) (K337 : Int64 → Int32 → Option (Int32 × CBS)) : Nat → Int64 → Int32 → Option (Int32 × CBS)
  | 0, _, _ => none
  | n + 1, i123, i125 => (f_W_form N 3 c126).bind (fun r127 => if r127 ≤ i125 then K337 i123 i125 else (f_W_above N i122 i125 c126).bind (fun r128 => f_L_areCountersSound_L311 N i122 c126 K337 n (i123 + r128) (i125 + 1)))
def f_L_areCountersSound (N : Nat) (x1 : Int32) (v0_all : CBS) : Option (Int32 × CBS) := (f_W_certainOverflows N x1 v0_all).bind (fun r1 => f_L_areCountersSound_L15 N x1 r1.1 (fun i117 i118 c119 => f_L_areCountersSound_L311 N x1 c119 (fun i129 i130 => if i129 = i117 then (f_W_total N x1 3 c119).bind (fun r131 => if r131.1 = i129 then (f_W_form N 3 r131.2).bind (fun r132 => (f_W_above N x1 r132 r131.2).bind (fun r133 => if r133 = (-2) then (f_W_form N 0 r131.2).bind (fun r134 => (f_W_rest N x1 r134 r131.2).bind (fun r135 => if r135 = (-2) then some (1, r131.2) else some (0, r131.2))) else some (0, r131.2))) else some (0, r131.2)) else some (0, c119)) N 0 0) N 0 0 r1.2)
abbrev Q_L_areCountersSound (below : List Frame) (D : va_G) (k : Nat → ClassId) (A : Nat → Prop) (args : Array Value) (s : State) (b0 : Nat → Nat) (o0 : Nat) (s0 : CBS) (out : Int32 × CBS) : State → Prop := MQ below (QW D k A (some (.int out.1)) [WCB k b0 o0 out.2].flatten) args s 0 0 A
set_option maxRecDepth 100000 in
set_option maxHeartbeats 8000000 in
theorem w_L_areCountersSound_L31 {p : Program} {l : Launch} {e : Env} {s : State} {m : MethodId} {below : List Frame} {meth : Method} {c : Code} {args : Array Value} {A : Nat → Prop} {D : va_G} {k : Nat → ClassId} {t : Nat → Nat} (X : BX l D k t p s m args meth c cL_areCountersSound 17 RL (some .boolean) A) (b0 : Nat → Nat) (o0 : Nat) (s0 : CBS) (N : Nat) (i36 : Int32) (i37 : Int64) (i38 : Int64) (i39 : Int32) (i40 : Int32) (c43 : CBS) (out : Int32 × CBS) (K79 : Int64 → Int32 → Option (Int32 × CBS)) (hK79 : ∀ (i41' : Int64) (i42' : Int32) (H : Heap) (locs : List Loc) (ls : Array Slot), va_P D vwCl [WCB k b0 o0 c43].flatten H → va_D A [WCB k b0 o0 c43].flatten → va_S A s.heap H locs → lv_has ls 17 [(0, .ref (b0 o0)), (1, .int i36), (2, .long i37), (4, .long i38), (6, .int i39), (7, .int i40), (8, .long i41')] → K79 i41' i42' = some out → W p l e rm_L_areCountersSound s m args below meth c H locs 0 0 (Q_L_areCountersSound below D k A args s b0 o0 s0 out) (F0 m 79 ls [])) : ∀ (n : Nat) (i41 : Int64) (i42 : Int32) (H : Heap) (locs : List Loc) (ls : Array Slot), va_P D vwCl [WCB k b0 o0 c43].flatten H → va_D A [WCB k b0 o0 c43].flatten → va_S A s.heap H locs → lv_has ls 17 [(0, .ref (b0 o0)), (1, .int i36), (2, .long i37), (4, .long i38), (6, .int i39), (7, .int i40), (8, .long i41), (10, .int i42)] → f_L_areCountersSound_L31 N i36 i40 c43 K79 n i41 i42 = some out → W p l e rm_L_areCountersSound s m args below meth c H locs 0 0 (Q_L_areCountersSound below D k A args s b0 o0 s0 out) (F0 m 31 ls []) := by
  have hx := X.1.1
  have hb := X.1.2.1
  have hml := X.1.2.2.1
  have hown := X.1.2.2.2.1
  have hts := X.1.2.2.2.2
  intro n
  induction n with
  | zero =>
    intro i41 i42 H locs ls hP hD hS hl hf
    rw [f_L_areCountersSound_L31] at hf
    cases hf
  | succ n ih =>
    intro i41 i42 H locs ls hP hD hS hl hf
    rw [f_L_areCountersSound_L31] at hf
    refine lv_iload hx hb dL_areCountersSound_31 (lv_at hl 7 rfl) ?_
    refine lv_aload_n hx hb dL_areCountersSound_33 rfl (lv_at hl 0 rfl) ?_
    refine lv_bipush (v := 6) hx hb dL_areCountersSound_34 (by decide) ?_
    obtain ⟨r44, hg_r44, hf⟩ := ofbind hf
    refine kcV (bs := [WCB k b0 o0 c43]) (br := []) (bc := [WCB k b0 o0 c43]) (bc' := [WCB k b0 o0 c43]) X hP hD hS (c_W_form l D k t b0 o0 c43 6 N r44 hg_r44) mv_L_14 hl [] [0] 7 ⟨rfl, rfl⟩ ⟨Nat.le_of_ble_eq_true rfl, Nat.le_of_ble_eq_true rfl⟩ rfl rfl rfl rfl rfl rfl rfl (Nat.le_of_ble_eq_true rfl) dL_areCountersSound_36 (fun H locs hP hD hS => ?_)
    have hP : va_P D vwCl [WCB k b0 o0 c43].flatten _ := hP
    have hD : va_D A [WCB k b0 o0 c43].flatten := hD
    refine lv_icmp_ge (tgt := 79) hx hb dL_areCountersSound_39 (by decide) (fun hc => ?_) (fun hc => ?_)
    · have hf := ofpos hf hc
      exact hK79 i41 i42 _ _ _ hP hD hS (lv_sub hl [0, 1, 2, 3, 4, 5, 6] rfl) hf
    · have hf := ofneg hf hc
      refine lv_lload hx hb dL_areCountersSound_42 (lv_at hl 6 rfl) ?_
      refine lv_aload_n hx hb dL_areCountersSound_44 rfl (lv_at hl 0 rfl) ?_
      refine lv_iload hx hb dL_areCountersSound_45 (lv_at hl 7 rfl) ?_
      obtain ⟨r45, hg_r45, hf⟩ := ofbind hf
      refine kcV (bs := [WCB k b0 o0 c43]) (br := []) (bc := [WCB k b0 o0 c43]) (bc' := [WCB k b0 o0 c43]) X hP hD hS (c_W_places l D k t b0 o0 c43 i42 N r45 hg_r45) mv_L_49 hl [] [0] 7 ⟨rfl, rfl⟩ ⟨Nat.le_of_ble_eq_true rfl, Nat.le_of_ble_eq_true rfl⟩ rfl rfl rfl rfl rfl rfl rfl (Nat.le_of_ble_eq_true rfl) dL_areCountersSound_47 (fun H locs hP hD hS => ?_)
      have hP : va_P D vwCl [WCB k b0 o0 c43].flatten _ := hP
      have hD : va_D A [WCB k b0 o0 c43].flatten := hD
      refine lv_iload hx hb dL_areCountersSound_50 (lv_at hl 5 rfl) ?_
      refine lv_ishr hx hb dL_areCountersSound_52 ?_
      refine lv_iconst (v := 1) hx hb dL_areCountersSound_53 (by decide) ?_
      refine lv_iand hx hb dL_areCountersSound_54 ?_
      refine lv_iconst (v := 1) hx hb dL_areCountersSound_55 (by decide) ?_
      refine lv_icmp_ne (tgt := 69) hx hb dL_areCountersSound_56 (by decide) (fun hc => ?_) (fun hc => ?_)
      · have hf := ofneg hf hc
        refine lv_lconst (v := 0) hx hb dL_areCountersSound_69 (by decide) ?_
        refine lv_ladd hx hb dL_areCountersSound_70 ?_
        refine lv_lstore (lv' := [(8, .long (i41 + 0)), (0, .ref (b0 o0)), (1, .int i36), (2, .long i37), (4, .long i38), (6, .int i39), (7, .int i40), (10, .int i42)]) hx hb dL_areCountersSound_71 hl (by decide) rfl (fun ls hl => ?_)
        refine lv_iinc (v := i42 + 1) (lv' := [(10, .int (i42 + 1)), (8, .long (i41 + 0)), (0, .ref (b0 o0)), (1, .int i36), (2, .long i37), (4, .long i38), (6, .int i39), (7, .int i40)]) hx hb dL_areCountersSound_73 hl (k := 7) rfl rfl (by decide) rfl (fun ls hl => ?_)
        refine lv_goto (tgt := 31) hx hb dL_areCountersSound_76 (by decide) ?_
        exact ih (i41 + 0) (i42 + 1) _ _ _ hP hD hS (lv_sub hl [2, 3, 4, 5, 6, 7, 1, 0] rfl) hf
      · have hf := ofpos hf hc
        refine lv_aload_n hx hb dL_areCountersSound_59 rfl (lv_at hl 0 rfl) ?_
        refine lv_iload_n hx hb dL_areCountersSound_60 rfl (lv_at hl 1 rfl) ?_
        refine lv_iload hx hb dL_areCountersSound_61 (lv_at hl 7 rfl) ?_
        obtain ⟨r46, hg_r46, hf⟩ := ofbind hf
        refine kcV (bs := [WCB k b0 o0 c43]) (br := []) (bc := [WCB k b0 o0 c43]) (bc' := [WCB k b0 o0 c43]) X hP hD hS (c_W_truth l D k t b0 o0 c43 i36 i42 N r46 hg_r46) mv_L_17 hl [] [0] 7 ⟨rfl, rfl⟩ ⟨Nat.le_of_ble_eq_true rfl, Nat.le_of_ble_eq_true rfl⟩ rfl rfl rfl rfl rfl rfl rfl (Nat.le_of_ble_eq_true rfl) dL_areCountersSound_63 (fun H locs hP hD hS => ?_)
        have hP : va_P D vwCl [WCB k b0 o0 c43].flatten _ := hP
        have hD : va_D A [WCB k b0 o0 c43].flatten := hD
        refine lv_goto (tgt := 70) hx hb dL_areCountersSound_66 (by decide) ?_
        refine lv_ladd hx hb dL_areCountersSound_70 ?_
        refine lv_lstore (lv' := [(8, .long (i41 + r46)), (0, .ref (b0 o0)), (1, .int i36), (2, .long i37), (4, .long i38), (6, .int i39), (7, .int i40), (10, .int i42)]) hx hb dL_areCountersSound_71 hl (by decide) rfl (fun ls hl => ?_)
        refine lv_iinc (v := i42 + 1) (lv' := [(10, .int (i42 + 1)), (8, .long (i41 + r46)), (0, .ref (b0 o0)), (1, .int i36), (2, .long i37), (4, .long i38), (6, .int i39), (7, .int i40)]) hx hb dL_areCountersSound_73 hl (k := 7) rfl rfl (by decide) rfl (fun ls hl => ?_)
        refine lv_goto (tgt := 31) hx hb dL_areCountersSound_76 (by decide) ?_
        exact ih (i41 + r46) (i42 + 1) _ _ _ hP hD hS (lv_sub hl [2, 3, 4, 5, 6, 7, 1, 0] rfl) hf
set_option maxRecDepth 100000 in
set_option maxHeartbeats 8000000 in
theorem w_L_areCountersSound_L95 {p : Program} {l : Launch} {e : Env} {s : State} {m : MethodId} {below : List Frame} {meth : Method} {c : Code} {args : Array Value} {A : Nat → Prop} {D : va_G} {k : Nat → ClassId} {t : Nat → Nat} (X : BX l D k t p s m args meth c cL_areCountersSound 17 RL (some .boolean) A) (b0 : Nat → Nat) (o0 : Nat) (s0 : CBS) (N : Nat) (i52 : Int32) (i53 : Int64) (i54 : Int64) (i55 : Int32) (i56 : Int32) (i57 : Int64) (i58 : Int64) (c61 : CBS) (out : Int32 × CBS) (K127 : Int32 → Int32 → Option (Int32 × CBS)) (hK127 : ∀ (i59' : Int32) (i60' : Int32) (H : Heap) (locs : List Loc) (ls : Array Slot), va_P D vwCl [WCB k b0 o0 c61].flatten H → va_D A [WCB k b0 o0 c61].flatten → va_S A s.heap H locs → lv_has ls 17 [(0, .ref (b0 o0)), (1, .int i52), (2, .long i53), (4, .long i54), (6, .int i55), (7, .int i56), (8, .long i57), (10, .long i58), (12, .int i59')] → K127 i59' i60' = some out → W p l e rm_L_areCountersSound s m args below meth c H locs 0 0 (Q_L_areCountersSound below D k A args s b0 o0 s0 out) (F0 m 127 ls [])) : ∀ (n : Nat) (i59 : Int32) (i60 : Int32) (H : Heap) (locs : List Loc) (ls : Array Slot), va_P D vwCl [WCB k b0 o0 c61].flatten H → va_D A [WCB k b0 o0 c61].flatten → va_S A s.heap H locs → lv_has ls 17 [(0, .ref (b0 o0)), (1, .int i52), (2, .long i53), (4, .long i54), (6, .int i55), (7, .int i56), (8, .long i57), (10, .long i58), (12, .int i59), (13, .int i60)] → f_L_areCountersSound_L95 N i56 c61 K127 n i59 i60 = some out → W p l e rm_L_areCountersSound s m args below meth c H locs 0 0 (Q_L_areCountersSound below D k A args s b0 o0 s0 out) (F0 m 95 ls []) := by
  have hx := X.1.1
  have hb := X.1.2.1
  have hml := X.1.2.2.1
  have hown := X.1.2.2.2.1
  have hts := X.1.2.2.2.2
  intro n
  induction n with
  | zero =>
    intro i59 i60 H locs ls hP hD hS hl hf
    rw [f_L_areCountersSound_L95] at hf
    cases hf
  | succ n ih =>
    intro i59 i60 H locs ls hP hD hS hl hf
    rw [f_L_areCountersSound_L95] at hf
    refine lv_iload hx hb dL_areCountersSound_95 (lv_at hl 9 rfl) ?_
    refine lv_aload_n hx hb dL_areCountersSound_97 rfl (lv_at hl 0 rfl) ?_
    refine lv_iconst (v := 3) hx hb dL_areCountersSound_98 (by decide) ?_
    obtain ⟨r62, hg_r62, hf⟩ := ofbind hf
    refine kcV (bs := [WCB k b0 o0 c61]) (br := []) (bc := [WCB k b0 o0 c61]) (bc' := [WCB k b0 o0 c61]) X hP hD hS (c_W_form l D k t b0 o0 c61 3 N r62 hg_r62) mv_L_14 hl [] [0] 7 ⟨rfl, rfl⟩ ⟨Nat.le_of_ble_eq_true rfl, Nat.le_of_ble_eq_true rfl⟩ rfl rfl rfl rfl rfl rfl rfl (Nat.le_of_ble_eq_true rfl) dL_areCountersSound_99 (fun H locs hP hD hS => ?_)
    have hP : va_P D vwCl [WCB k b0 o0 c61].flatten _ := hP
    have hD : va_D A [WCB k b0 o0 c61].flatten := hD
    refine lv_icmp_ge (tgt := 127) hx hb dL_areCountersSound_102 (by decide) (fun hc => ?_) (fun hc => ?_)
    · have hf := ofpos hf hc
      exact hK127 i59 i60 _ _ _ hP hD hS (lv_sub hl [0, 1, 2, 3, 4, 5, 6, 7, 8] rfl) hf
    · have hf := ofneg hf hc
      refine lv_iload hx hb dL_areCountersSound_105 (lv_at hl 8 rfl) ?_
      refine lv_aload_n hx hb dL_areCountersSound_107 rfl (lv_at hl 0 rfl) ?_
      refine lv_iload hx hb dL_areCountersSound_108 (lv_at hl 5 rfl) ?_
      obtain ⟨r63, hg_r63, hf⟩ := ofbind hf
      refine kcV (bs := [WCB k b0 o0 c61]) (br := []) (bc := [WCB k b0 o0 c61]) (bc' := [WCB k b0 o0 c61]) X hP hD hS (c_W_placesAbove l D k t b0 o0 c61 i56 N r63 hg_r63) mv_L_52 hl [] [0] 7 ⟨rfl, rfl⟩ ⟨Nat.le_of_ble_eq_true rfl, Nat.le_of_ble_eq_true rfl⟩ rfl rfl rfl rfl rfl rfl rfl (Nat.le_of_ble_eq_true rfl) dL_areCountersSound_110 (fun H locs hP hD hS => ?_)
      have hP : va_P D vwCl [WCB k b0 o0 c61].flatten _ := hP
      have hD : va_D A [WCB k b0 o0 c61].flatten := hD
      refine lv_iload hx hb dL_areCountersSound_113 (lv_at hl 9 rfl) ?_
      refine lv_ishr hx hb dL_areCountersSound_115 ?_
      refine lv_iconst (v := 1) hx hb dL_areCountersSound_116 (by decide) ?_
      refine lv_iand hx hb dL_areCountersSound_117 ?_
      refine lv_iadd hx hb dL_areCountersSound_118 ?_
      refine lv_istore (lv' := [(12, .int (i59 + ((r63 >>> (i60 &&& 31)) &&& 1))), (0, .ref (b0 o0)), (1, .int i52), (2, .long i53), (4, .long i54), (6, .int i55), (7, .int i56), (8, .long i57), (10, .long i58), (13, .int i60)]) hx hb dL_areCountersSound_119 hl (by decide) rfl (fun ls hl => ?_)
      refine lv_iinc (v := i60 + 1) (lv' := [(13, .int (i60 + 1)), (12, .int (i59 + ((r63 >>> (i60 &&& 31)) &&& 1))), (0, .ref (b0 o0)), (1, .int i52), (2, .long i53), (4, .long i54), (6, .int i55), (7, .int i56), (8, .long i57), (10, .long i58)]) hx hb dL_areCountersSound_121 hl (k := 9) rfl rfl (by decide) rfl (fun ls hl => ?_)
      refine lv_goto (tgt := 95) hx hb dL_areCountersSound_124 (by decide) ?_
      exact ih (i59 + ((r63 >>> (i60 &&& 31)) &&& 1)) (i60 + 1) _ _ _ hP hD hS (lv_sub hl [2, 3, 4, 5, 6, 7, 8, 9, 1, 0] rfl) hf
set_option maxRecDepth 100000 in
set_option maxHeartbeats 8000000 in
theorem w_L_areCountersSound_J284 {p : Program} {l : Launch} {e : Env} {s : State} {m : MethodId} {below : List Frame} {meth : Method} {c : Code} {args : Array Value} {A : Nat → Prop} {D : va_G} {k : Nat → ClassId} {t : Nat → Nat} (X : BX l D k t p s m args meth c cL_areCountersSound 17 RL (some .boolean) A) (b0 : Nat → Nat) (o0 : Nat) (s0 : CBS) (N : Nat) (j106 : Int32) (j107 : Int64) (j108 : Int64) (j109 : Int32) (j110 : Int32) (j111 : Int64) (j112 : Int64) (t113 : Int32) (c114 : CBS) (out : Int32 × CBS) (B15 : Int64 → Int32 → CBS → Option (Int32 × CBS)) (hB15 : ∀ (i28' : Int64) (i30' : Int32) (c31' : CBS) (H : Heap) (locs : List Loc) (ls : Array Slot), va_P D vwCl [WCB k b0 o0 c31'].flatten H → va_D A [WCB k b0 o0 c31'].flatten → va_S A s.heap H locs → lv_has ls 17 [(0, .ref (b0 o0)), (1, .int j106), (2, .long j107), (4, .long i28'), (6, .int j109), (7, .int i30')] → B15 i28' i30' c31' = some out → W p l e rm_L_areCountersSound s m args below meth c H locs 0 0 (Q_L_areCountersSound below D k A args s b0 o0 s0 out) (F0 m 15 ls [])) : ∀ (H : Heap) (locs : List Loc) (ls : Array Slot), va_P D vwCl [WCB k b0 o0 c114].flatten H → va_D A [WCB k b0 o0 c114].flatten → va_S A s.heap H locs → lv_has ls 17 [(0, .ref (b0 o0)), (1, .int j106), (2, .long j107), (4, .long j108), (6, .int j109), (7, .int j110), (13, .long j111), (15, .long j112)] → f_L_areCountersSound_J284 j108 j110 j111 j112 t113 c114 B15 = some out → W p l e rm_L_areCountersSound s m args below meth c H locs 0 0 (Q_L_areCountersSound below D k A args s b0 o0 s0 out) (F0 m 284 ls [.int t113]) := by
  have hx := X.1.1
  have hb := X.1.2.1
  have hml := X.1.2.2.1
  have hown := X.1.2.2.2.1
  have hts := X.1.2.2.2.2
  intro H locs ls hP hD hS hl hf
  rw [f_L_areCountersSound_J284] at hf
  refine lv_lload hx hb dL_areCountersSound_284 (lv_at hl 6 rfl) ?_
  refine lv_lload hx hb dL_areCountersSound_286 (lv_at hl 7 rfl) ?_
  refine W.lcmp hx hb dL_areCountersSound_288 ?_
  refine lv_if_ne (tgt := 296) hx hb dL_areCountersSound_289 (by decide) (fun hc => ?_) (fun hc => ?_)
  · have hc := fun z => hc (lgq.mpr z)
    have hf := ofneg hf hc
    refine lv_iconst (v := 0) hx hb dL_areCountersSound_296 (by decide) ?_
    refine lv_icmp_eq (tgt := 302) hx hb dL_areCountersSound_297 (by decide) (fun hc => ?_) (fun hc => ?_)
    · have hf := ofpos hf hc
      refine lv_iinc (v := j110 + 1) (lv' := [(7, .int (j110 + 1)), (0, .ref (b0 o0)), (1, .int j106), (2, .long j107), (4, .long j108), (6, .int j109), (13, .long j111), (15, .long j112)]) hx hb dL_areCountersSound_302 hl (k := 5) rfl rfl (by decide) rfl (fun ls hl => ?_)
      refine lv_goto (tgt := 15) hx hb dL_areCountersSound_305 (by decide) ?_
      exact hB15 j108 (j110 + 1) c114 _ _ _ hP hD hS (lv_sub hl [1, 2, 3, 4, 5, 0] rfl) hf
    · have hf := ofneg hf hc
      refine lv_iconst (v := 0) hx hb dL_areCountersSound_300 (by decide) ?_
      have hf := Option.some.inj hf
      subst hf
      exact kzret (v := 0) X hP hD hS rfl dL_areCountersSound_301
  · have hc := lgq.mp hc
    have hf := ofpos hf hc
    refine lv_iconst (v := 1) hx hb dL_areCountersSound_292 (by decide) ?_
    refine lv_goto (tgt := 297) hx hb dL_areCountersSound_293 (by decide) ?_
    refine lv_icmp_eq (tgt := 302) hx hb dL_areCountersSound_297 (by decide) (fun hc => ?_) (fun hc => ?_)
    · have hf := ofpos hf hc
      refine lv_iinc (v := j110 + 1) (lv' := [(7, .int (j110 + 1)), (0, .ref (b0 o0)), (1, .int j106), (2, .long j107), (4, .long j108), (6, .int j109), (13, .long j111), (15, .long j112)]) hx hb dL_areCountersSound_302 hl (k := 5) rfl rfl (by decide) rfl (fun ls hl => ?_)
      refine lv_goto (tgt := 15) hx hb dL_areCountersSound_305 (by decide) ?_
      exact hB15 j108 (j110 + 1) c114 _ _ _ hP hD hS (lv_sub hl [1, 2, 3, 4, 5, 0] rfl) hf
    · have hf := ofneg hf hc
      refine lv_iconst (v := 0) hx hb dL_areCountersSound_300 (by decide) ?_
      have hf := Option.some.inj hf
      subst hf
      exact kzret (v := 0) X hP hD hS rfl dL_areCountersSound_301
set_option maxRecDepth 100000 in
set_option maxHeartbeats 8000000 in
theorem w_L_areCountersSound_J268 {p : Program} {l : Launch} {e : Env} {s : State} {m : MethodId} {below : List Frame} {meth : Method} {c : Code} {args : Array Value} {A : Nat → Prop} {D : va_G} {k : Nat → ClassId} {t : Nat → Nat} (X : BX l D k t p s m args meth c cL_areCountersSound 17 RL (some .boolean) A) (b0 : Nat → Nat) (o0 : Nat) (s0 : CBS) (N : Nat) (j98 : Int32) (j99 : Int64) (j100 : Int64) (j101 : Int32) (j102 : Int32) (j103 : Int64) (j104 : Int64) (c105 : CBS) (out : Int32 × CBS) (B15 : Int64 → Int32 → CBS → Option (Int32 × CBS)) (hB15 : ∀ (i28' : Int64) (i30' : Int32) (c31' : CBS) (H : Heap) (locs : List Loc) (ls : Array Slot), va_P D vwCl [WCB k b0 o0 c31'].flatten H → va_D A [WCB k b0 o0 c31'].flatten → va_S A s.heap H locs → lv_has ls 17 [(0, .ref (b0 o0)), (1, .int j98), (2, .long j99), (4, .long i28'), (6, .int j101), (7, .int i30')] → B15 i28' i30' c31' = some out → W p l e rm_L_areCountersSound s m args below meth c H locs 0 0 (Q_L_areCountersSound below D k A args s b0 o0 s0 out) (F0 m 15 ls [])) : ∀ (H : Heap) (locs : List Loc) (ls : Array Slot), va_P D vwCl [WCB k b0 o0 c105].flatten H → va_D A [WCB k b0 o0 c105].flatten → va_S A s.heap H locs → lv_has ls 17 [(0, .ref (b0 o0)), (1, .int j98), (2, .long j99), (4, .long j100), (6, .int j101), (7, .int j102), (13, .long j103), (15, .long j104)] → f_L_areCountersSound_J268 j100 j101 j102 j103 j104 c105 B15 = some out → W p l e rm_L_areCountersSound s m args below meth c H locs 0 0 (Q_L_areCountersSound below D k A args s b0 o0 s0 out) (F0 m 268 ls []) := by
  have hx := X.1.1
  have hb := X.1.2.1
  have hml := X.1.2.2.1
  have hown := X.1.2.2.2.1
  have hts := X.1.2.2.2.2
  intro H locs ls hP hD hS hl hf
  rw [f_L_areCountersSound_J268] at hf
  refine lv_iload hx hb dL_areCountersSound_268 (lv_at hl 4 rfl) ?_
  refine lv_iload hx hb dL_areCountersSound_270 (lv_at hl 5 rfl) ?_
  refine lv_ishr hx hb dL_areCountersSound_272 ?_
  refine lv_iconst (v := 1) hx hb dL_areCountersSound_273 (by decide) ?_
  refine lv_iand hx hb dL_areCountersSound_274 ?_
  refine lv_iconst (v := 1) hx hb dL_areCountersSound_275 (by decide) ?_
  refine lv_icmp_ne (tgt := 283) hx hb dL_areCountersSound_276 (by decide) (fun hc => ?_) (fun hc => ?_)
  · have hf := ofneg hf hc
    refine lv_iconst (v := 0) hx hb dL_areCountersSound_283 (by decide) ?_
    exact w_L_areCountersSound_J284 X b0 o0 s0 N j98 j99 j100 j101 j102 j103 j104 0 c105 out _ hB15 _ _ _ hP hD hS (lv_sub hl [0, 1, 2, 3, 4, 5, 6, 7] rfl) hf
  · have hf := ofpos hf hc
    refine lv_iconst (v := 1) hx hb dL_areCountersSound_279 (by decide) ?_
    refine lv_goto (tgt := 284) hx hb dL_areCountersSound_280 (by decide) ?_
    exact w_L_areCountersSound_J284 X b0 o0 s0 N j98 j99 j100 j101 j102 j103 j104 1 c105 out _ hB15 _ _ _ hP hD hS (lv_sub hl [0, 1, 2, 3, 4, 5, 6, 7] rfl) hf
set_option maxRecDepth 100000 in
set_option maxHeartbeats 8000000 in
theorem w_L_areCountersSound_J250 {p : Program} {l : Launch} {e : Env} {s : State} {m : MethodId} {below : List Frame} {meth : Method} {c : Code} {args : Array Value} {A : Nat → Prop} {D : va_G} {k : Nat → ClassId} {t : Nat → Nat} (X : BX l D k t p s m args meth c cL_areCountersSound 17 RL (some .boolean) A) (b0 : Nat → Nat) (o0 : Nat) (s0 : CBS) (N : Nat) (j89 : Int32) (j90 : Int64) (j91 : Int64) (j92 : Int32) (j93 : Int32) (j94 : Int64) (j95 : Int64) (c96 : CBS) (out : Int32 × CBS) (B15 : Int64 → Int32 → CBS → Option (Int32 × CBS)) (hB15 : ∀ (i28' : Int64) (i30' : Int32) (c31' : CBS) (H : Heap) (locs : List Loc) (ls : Array Slot), va_P D vwCl [WCB k b0 o0 c31'].flatten H → va_D A [WCB k b0 o0 c31'].flatten → va_S A s.heap H locs → lv_has ls 17 [(0, .ref (b0 o0)), (1, .int j89), (2, .long j90), (4, .long i28'), (6, .int j92), (7, .int i30')] → B15 i28' i30' c31' = some out → W p l e rm_L_areCountersSound s m args below meth c H locs 0 0 (Q_L_areCountersSound below D k A args s b0 o0 s0 out) (F0 m 15 ls [])) : ∀ (H : Heap) (locs : List Loc) (ls : Array Slot), va_P D vwCl [WCB k b0 o0 c96].flatten H → va_D A [WCB k b0 o0 c96].flatten → va_S A s.heap H locs → lv_has ls 17 [(0, .ref (b0 o0)), (1, .int j89), (2, .long j90), (4, .long j91), (6, .int j92), (7, .int j93), (13, .long j94), (15, .long j95)] → f_L_areCountersSound_J250 N j89 j91 j92 j93 j94 j95 c96 B15 = some out → W p l e rm_L_areCountersSound s m args below meth c H locs 0 0 (Q_L_areCountersSound below D k A args s b0 o0 s0 out) (F0 m 250 ls []) := by
  have hx := X.1.1
  have hb := X.1.2.1
  have hml := X.1.2.2.1
  have hown := X.1.2.2.2.1
  have hts := X.1.2.2.2.2
  intro H locs ls hP hD hS hl hf
  rw [f_L_areCountersSound_J250] at hf
  refine lv_aload_n hx hb dL_areCountersSound_250 rfl (lv_at hl 0 rfl) ?_
  refine lv_iload_n hx hb dL_areCountersSound_251 rfl (lv_at hl 1 rfl) ?_
  refine lv_iload hx hb dL_areCountersSound_252 (lv_at hl 5 rfl) ?_
  obtain ⟨r97, hg_r97, hf⟩ := ofbind hf
  refine kcV (bs := [WCB k b0 o0 c96]) (br := []) (bc := [WCB k b0 o0 c96]) (bc' := [WCB k b0 o0 c96]) X hP hD hS (c_W_isMarked l D k t b0 o0 c96 j89 j93 N r97 hg_r97) mv_L_62 hl [] [0] 7 ⟨rfl, rfl⟩ ⟨Nat.le_of_ble_eq_true rfl, Nat.le_of_ble_eq_true rfl⟩ rfl rfl rfl rfl rfl rfl rfl (Nat.le_of_ble_eq_true rfl) dL_areCountersSound_254 (fun H locs hP hD hS => ?_)
  have hP : va_P D vwCl [WCB k b0 o0 c96].flatten _ := hP
  have hD : va_D A [WCB k b0 o0 c96].flatten := hD
  refine lv_iconst (v := 1) hx hb dL_areCountersSound_257 (by decide) ?_
  refine lv_icmp_ne (tgt := 268) hx hb dL_areCountersSound_258 (by decide) (fun hc => ?_) (fun hc => ?_)
  · have hf := ofneg hf hc
    exact w_L_areCountersSound_J268 X b0 o0 s0 N j89 j90 j91 j92 j93 j94 j95 c96 out _ hB15 _ _ _ hP hD hS (lv_sub hl [0, 1, 2, 3, 4, 5, 6, 7] rfl) hf
  · have hf := ofpos hf hc
    refine lv_lload hx hb dL_areCountersSound_261 (lv_at hl 6 rfl) ?_
    refine lv_lconst (v := 1) hx hb dL_areCountersSound_263 (by decide) ?_
    refine W.lcmp hx hb dL_areCountersSound_264 ?_
    refine lv_if_lt (tgt := 300) hx hb dL_areCountersSound_265 (by decide) (fun hc => ?_) (fun hc => ?_)
    · have hc := lgl.mp hc
      have hf := ofpos hf hc
      refine lv_iconst (v := 0) hx hb dL_areCountersSound_300 (by decide) ?_
      have hf := Option.some.inj hf
      subst hf
      exact kzret (v := 0) X hP hD hS rfl dL_areCountersSound_301
    · have hc := fun z => hc (lgl.mpr z)
      have hf := ofneg hf hc
      exact w_L_areCountersSound_J268 X b0 o0 s0 N j89 j90 j91 j92 j93 j94 j95 c96 out _ hB15 _ _ _ hP hD hS (lv_sub hl [0, 1, 2, 3, 4, 5, 6, 7] rfl) hf
set_option maxRecDepth 100000 in
set_option maxHeartbeats 8000000 in
theorem w_L_areCountersSound_J217 {p : Program} {l : Launch} {e : Env} {s : State} {m : MethodId} {below : List Frame} {meth : Method} {c : Code} {args : Array Value} {A : Nat → Prop} {D : va_G} {k : Nat → ClassId} {t : Nat → Nat} (X : BX l D k t p s m args meth c cL_areCountersSound 17 RL (some .boolean) A) (b0 : Nat → Nat) (o0 : Nat) (s0 : CBS) (N : Nat) (j79 : Int32) (j80 : Int64) (j81 : Int64) (j82 : Int32) (j83 : Int32) (j84 : Int64) (j85 : Int64) (j86 : Int64) (c87 : CBS) (out : Int32 × CBS) (B15 : Int64 → Int32 → CBS → Option (Int32 × CBS)) (hB15 : ∀ (i28' : Int64) (i30' : Int32) (c31' : CBS) (H : Heap) (locs : List Loc) (ls : Array Slot), va_P D vwCl [WCB k b0 o0 c31'].flatten H → va_D A [WCB k b0 o0 c31'].flatten → va_S A s.heap H locs → lv_has ls 17 [(0, .ref (b0 o0)), (1, .int j79), (2, .long j80), (4, .long i28'), (6, .int j82), (7, .int i30')] → B15 i28' i30' c31' = some out → W p l e rm_L_areCountersSound s m args below meth c H locs 0 0 (Q_L_areCountersSound below D k A args s b0 o0 s0 out) (F0 m 15 ls [])) : ∀ (H : Heap) (locs : List Loc) (ls : Array Slot), va_P D vwCl [WCB k b0 o0 c87].flatten H → va_D A [WCB k b0 o0 c87].flatten → va_S A s.heap H locs → lv_has ls 17 [(0, .ref (b0 o0)), (1, .int j79), (2, .long j80), (4, .long j81), (6, .int j82), (7, .int j83), (10, .long j84), (13, .long j85), (15, .long j86)] → f_L_areCountersSound_J217 N j79 j81 j82 j83 j84 j85 j86 c87 B15 = some out → W p l e rm_L_areCountersSound s m args below meth c H locs 0 0 (Q_L_areCountersSound below D k A args s b0 o0 s0 out) (F0 m 217 ls []) := by
  have hx := X.1.1
  have hb := X.1.2.1
  have hml := X.1.2.2.1
  have hown := X.1.2.2.2.1
  have hts := X.1.2.2.2.2
  intro H locs ls hP hD hS hl hf
  rw [f_L_areCountersSound_J217] at hf
  refine lv_lload hx hb dL_areCountersSound_217 (lv_at hl 7 rfl) ?_
  refine lv_lload hx hb dL_areCountersSound_219 (lv_at hl 6 rfl) ?_
  refine W.lcmp hx hb dL_areCountersSound_221 ?_
  refine lv_if_gt (tgt := 300) hx hb dL_areCountersSound_222 (by decide) (fun hc => ?_) (fun hc => ?_)
  · have hc := lgg.mp hc
    have hf := ofpos hf hc
    refine lv_iconst (v := 0) hx hb dL_areCountersSound_300 (by decide) ?_
    have hf := Option.some.inj hf
    subst hf
    exact kzret (v := 0) X hP hD hS rfl dL_areCountersSound_301
  · have hc := fun z => hc (lgg.mpr z)
    have hf := ofneg hf hc
    refine lv_lload hx hb dL_areCountersSound_225 (lv_at hl 8 rfl) ?_
    refine lv_lload hx hb dL_areCountersSound_227 (lv_at hl 6 rfl) ?_
    refine W.lcmp hx hb dL_areCountersSound_229 ?_
    refine lv_if_lt (tgt := 300) hx hb dL_areCountersSound_230 (by decide) (fun hc => ?_) (fun hc => ?_)
    · have hc := lgl.mp hc
      have hf := ofpos hf hc
      refine lv_iconst (v := 0) hx hb dL_areCountersSound_300 (by decide) ?_
      have hf := Option.some.inj hf
      subst hf
      exact kzret (v := 0) X hP hD hS rfl dL_areCountersSound_301
    · have hc := fun z => hc (lgl.mpr z)
      have hf := ofneg hf hc
      refine lv_aload_n hx hb dL_areCountersSound_233 rfl (lv_at hl 0 rfl) ?_
      refine lv_iload_n hx hb dL_areCountersSound_234 rfl (lv_at hl 1 rfl) ?_
      refine lv_iload hx hb dL_areCountersSound_235 (lv_at hl 5 rfl) ?_
      obtain ⟨r88, hg_r88, hf⟩ := ofbind hf
      refine kcV (bs := [WCB k b0 o0 c87]) (br := []) (bc := [WCB k b0 o0 c87]) (bc' := [WCB k b0 o0 c87]) X hP hD hS (c_W_isMarked l D k t b0 o0 c87 j79 j83 N r88 hg_r88) mv_L_62 hl [] [0] 7 ⟨rfl, rfl⟩ ⟨Nat.le_of_ble_eq_true rfl, Nat.le_of_ble_eq_true rfl⟩ rfl rfl rfl rfl rfl rfl rfl (Nat.le_of_ble_eq_true rfl) dL_areCountersSound_237 (fun H locs hP hD hS => ?_)
      have hP : va_P D vwCl [WCB k b0 o0 c87].flatten _ := hP
      have hD : va_D A [WCB k b0 o0 c87].flatten := hD
      refine lv_if_ne (tgt := 250) hx hb dL_areCountersSound_240 (by decide) (fun hc => ?_) (fun hc => ?_)
      · have hf := ofneg hf hc
        exact w_L_areCountersSound_J250 X b0 o0 s0 N j79 j80 j81 j82 j83 j85 j86 c87 out _ hB15 _ _ _ hP hD hS (lv_sub hl [0, 1, 2, 3, 4, 5, 7, 8] rfl) hf
      · have hf := ofpos hf hc
        refine lv_lload hx hb dL_areCountersSound_243 (lv_at hl 8 rfl) ?_
        refine lv_lconst (v := 0) hx hb dL_areCountersSound_245 (by decide) ?_
        refine W.lcmp hx hb dL_areCountersSound_246 ?_
        refine lv_if_ne (tgt := 300) hx hb dL_areCountersSound_247 (by decide) (fun hc => ?_) (fun hc => ?_)
        · have hc := fun z => hc (lgq.mpr z)
          have hf := ofneg hf hc
          refine lv_iconst (v := 0) hx hb dL_areCountersSound_300 (by decide) ?_
          have hf := Option.some.inj hf
          subst hf
          exact kzret (v := 0) X hP hD hS rfl dL_areCountersSound_301
        · have hc := lgq.mp hc
          have hf := ofpos hf hc
          exact w_L_areCountersSound_J250 X b0 o0 s0 N j79 j80 j81 j82 j83 j85 j86 c87 out _ hB15 _ _ _ hP hD hS (lv_sub hl [0, 1, 2, 3, 4, 5, 7, 8] rfl) hf
set_option maxRecDepth 100000 in
set_option maxHeartbeats 8000000 in
theorem w_L_areCountersSound_J198 {p : Program} {l : Launch} {e : Env} {s : State} {m : MethodId} {below : List Frame} {meth : Method} {c : Code} {args : Array Value} {A : Nat → Prop} {D : va_G} {k : Nat → ClassId} {t : Nat → Nat} (X : BX l D k t p s m args meth c cL_areCountersSound 17 RL (some .boolean) A) (b0 : Nat → Nat) (o0 : Nat) (s0 : CBS) (N : Nat) (j70 : Int32) (j71 : Int64) (j72 : Int64) (j73 : Int32) (j74 : Int32) (j75 : Int64) (j76 : Int64) (j77 : Int64) (c78 : CBS) (out : Int32 × CBS) (B15 : Int64 → Int32 → CBS → Option (Int32 × CBS)) (hB15 : ∀ (i28' : Int64) (i30' : Int32) (c31' : CBS) (H : Heap) (locs : List Loc) (ls : Array Slot), va_P D vwCl [WCB k b0 o0 c31'].flatten H → va_D A [WCB k b0 o0 c31'].flatten → va_S A s.heap H locs → lv_has ls 17 [(0, .ref (b0 o0)), (1, .int j70), (2, .long j71), (4, .long i28'), (6, .int j73), (7, .int i30')] → B15 i28' i30' c31' = some out → W p l e rm_L_areCountersSound s m args below meth c H locs 0 0 (Q_L_areCountersSound below D k A args s b0 o0 s0 out) (F0 m 15 ls [])) : ∀ (H : Heap) (locs : List Loc) (ls : Array Slot), va_P D vwCl [WCB k b0 o0 c78].flatten H → va_D A [WCB k b0 o0 c78].flatten → va_S A s.heap H locs → lv_has ls 17 [(0, .ref (b0 o0)), (1, .int j70), (2, .long j71), (4, .long j72), (6, .int j73), (7, .int j74), (10, .long j75), (13, .long j76), (15, .long j77)] → f_L_areCountersSound_J198 N j70 j72 j73 j74 j75 j76 j77 c78 B15 = some out → W p l e rm_L_areCountersSound s m args below meth c H locs 0 0 (Q_L_areCountersSound below D k A args s b0 o0 s0 out) (F0 m 198 ls []) := by
  have hx := X.1.1
  have hb := X.1.2.1
  have hml := X.1.2.2.1
  have hown := X.1.2.2.2.1
  have hts := X.1.2.2.2.2
  intro H locs ls hP hD hS hl hf
  rw [f_L_areCountersSound_J198] at hf
  refine lv_lload hx hb dL_areCountersSound_198 (lv_at hl 6 rfl) ?_
  refine lv_lconst (v := 0) hx hb dL_areCountersSound_200 (by decide) ?_
  refine W.lcmp hx hb dL_areCountersSound_201 ?_
  refine lv_if_ne (tgt := 217) hx hb dL_areCountersSound_202 (by decide) (fun hc => ?_) (fun hc => ?_)
  · have hc := fun z => hc (lgq.mpr z)
    have hf := ofneg hf hc
    exact w_L_areCountersSound_J217 X b0 o0 s0 N j70 j71 j72 j73 j74 j75 j76 j77 c78 out _ hB15 _ _ _ hP hD hS (lv_sub hl [0, 1, 2, 3, 4, 5, 6, 7, 8] rfl) hf
  · have hc := lgq.mp hc
    have hf := ofpos hf hc
    refine lv_aload_n hx hb dL_areCountersSound_205 rfl (lv_at hl 0 rfl) ?_
    refine lv_iload_n hx hb dL_areCountersSound_206 rfl (lv_at hl 1 rfl) ?_
    refine lv_iload hx hb dL_areCountersSound_207 (lv_at hl 5 rfl) ?_
    obtain ⟨r115, hg_r115, hf⟩ := ofbind hf
    refine kcV (bs := [WCB k b0 o0 c78]) (br := []) (bc := [WCB k b0 o0 c78]) (bc' := [WCB k b0 o0 c78]) X hP hD hS (c_W_isMarked l D k t b0 o0 c78 j70 j74 N r115 hg_r115) mv_L_62 hl [] [0] 7 ⟨rfl, rfl⟩ ⟨Nat.le_of_ble_eq_true rfl, Nat.le_of_ble_eq_true rfl⟩ rfl rfl rfl rfl rfl rfl rfl (Nat.le_of_ble_eq_true rfl) dL_areCountersSound_209 (fun H locs hP hD hS => ?_)
    have hP : va_P D vwCl [WCB k b0 o0 c78].flatten _ := hP
    have hD : va_D A [WCB k b0 o0 c78].flatten := hD
    refine lv_if_eq (tgt := 217) hx hb dL_areCountersSound_212 (by decide) (fun hc => ?_) (fun hc => ?_)
    · have hf := ofpos hf hc
      exact w_L_areCountersSound_J217 X b0 o0 s0 N j70 j71 j72 j73 j74 j75 j76 j77 c78 out _ hB15 _ _ _ hP hD hS (lv_sub hl [0, 1, 2, 3, 4, 5, 6, 7, 8] rfl) hf
    · have hf := ofneg hf hc
      refine lv_iconst (v := 0) hx hb dL_areCountersSound_215 (by decide) ?_
      have hf := Option.some.inj hf
      subst hf
      exact kzret (v := 0) X hP hD hS rfl dL_areCountersSound_216
set_option maxRecDepth 100000 in
set_option maxHeartbeats 8000000 in
theorem w_L_areCountersSound_L15 {p : Program} {l : Launch} {e : Env} {s : State} {m : MethodId} {below : List Frame} {meth : Method} {c : Code} {args : Array Value} {A : Nat → Prop} {D : va_G} {k : Nat → ClassId} {t : Nat → Nat} (X : BX l D k t p s m args meth c cL_areCountersSound 17 RL (some .boolean) A) (b0 : Nat → Nat) (o0 : Nat) (s0 : CBS) (N : Nat) (i26 : Int32) (i27 : Int64) (i29 : Int32) (out : Int32 × CBS) (K308 : Int64 → Int32 → CBS → Option (Int32 × CBS)) (hK308 : ∀ (i28' : Int64) (i30' : Int32) (c31' : CBS) (H : Heap) (locs : List Loc) (ls : Array Slot), va_P D vwCl [WCB k b0 o0 c31'].flatten H → va_D A [WCB k b0 o0 c31'].flatten → va_S A s.heap H locs → lv_has ls 17 [(0, .ref (b0 o0)), (1, .int i26), (2, .long i27), (4, .long i28')] → K308 i28' i30' c31' = some out → W p l e rm_L_areCountersSound s m args below meth c H locs 0 0 (Q_L_areCountersSound below D k A args s b0 o0 s0 out) (F0 m 308 ls [])) : ∀ (n : Nat) (i28 : Int64) (i30 : Int32) (c31 : CBS) (H : Heap) (locs : List Loc) (ls : Array Slot), va_P D vwCl [WCB k b0 o0 c31].flatten H → va_D A [WCB k b0 o0 c31].flatten → va_S A s.heap H locs → lv_has ls 17 [(0, .ref (b0 o0)), (1, .int i26), (2, .long i27), (4, .long i28), (6, .int i29), (7, .int i30)] → f_L_areCountersSound_L15 N i26 i29 K308 n i28 i30 c31 = some out → W p l e rm_L_areCountersSound s m args below meth c H locs 0 0 (Q_L_areCountersSound below D k A args s b0 o0 s0 out) (F0 m 15 ls []) := by
  have hx := X.1.1
  have hb := X.1.2.1
  have hml := X.1.2.2.1
  have hown := X.1.2.2.2.1
  have hts := X.1.2.2.2.2
  intro n
  induction n with
  | zero =>
    intro i28 i30 c31 H locs ls hP hD hS hl hf
    rw [f_L_areCountersSound_L15] at hf
    cases hf
  | succ n ih =>
    intro i28 i30 c31 H locs ls hP hD hS hl hf
    rw [f_L_areCountersSound_L15] at hf
    refine lv_iload hx hb dL_areCountersSound_15 (lv_at hl 5 rfl) ?_
    refine lv_aload_n hx hb dL_areCountersSound_17 rfl (lv_at hl 0 rfl) ?_
    refine lv_iconst (v := 0) hx hb dL_areCountersSound_18 (by decide) ?_
    obtain ⟨r32, hg_r32, hf⟩ := ofbind hf
    refine kcV (bs := [WCB k b0 o0 c31]) (br := []) (bc := [WCB k b0 o0 c31]) (bc' := [WCB k b0 o0 c31]) X hP hD hS (c_W_form l D k t b0 o0 c31 0 N r32 hg_r32) mv_L_14 hl [] [0] 7 ⟨rfl, rfl⟩ ⟨Nat.le_of_ble_eq_true rfl, Nat.le_of_ble_eq_true rfl⟩ rfl rfl rfl rfl rfl rfl rfl (Nat.le_of_ble_eq_true rfl) dL_areCountersSound_19 (fun H locs hP hD hS => ?_)
    have hP : va_P D vwCl [WCB k b0 o0 c31].flatten _ := hP
    have hD : va_D A [WCB k b0 o0 c31].flatten := hD
    refine lv_icmp_ge (tgt := 308) hx hb dL_areCountersSound_22 (by decide) (fun hc => ?_) (fun hc => ?_)
    · have hf := ofpos hf hc
      exact hK308 i28 i30 c31 _ _ _ hP hD hS (lv_sub hl [0, 1, 2, 3] rfl) hf
    · have hf := ofneg hf hc
      refine lv_lconst (v := 0) hx hb dL_areCountersSound_25 (by decide) ?_
      refine lv_lstore (lv' := [(8, .long 0), (0, .ref (b0 o0)), (1, .int i26), (2, .long i27), (4, .long i28), (6, .int i29), (7, .int i30)]) hx hb dL_areCountersSound_26 hl (by decide) rfl (fun ls hl => ?_)
      refine lv_iconst (v := 0) hx hb dL_areCountersSound_28 (by decide) ?_
      refine lv_istore (lv' := [(10, .int 0), (8, .long 0), (0, .ref (b0 o0)), (1, .int i26), (2, .long i27), (4, .long i28), (6, .int i29), (7, .int i30)]) hx hb dL_areCountersSound_29 hl (by decide) rfl (fun ls hl => ?_)
      refine w_L_areCountersSound_L31 X b0 o0 s0 N i26 i27 i28 i29 i30 c31 out _ ?_ N 0 0 _ _ _ hP hD hS (lv_sub hl [2, 3, 4, 5, 6, 7, 1, 0] rfl) hf
      · intro i47 i48 H locs ls hP hD hS hl hf
        refine lv_lload hx hb dL_areCountersSound_79 (lv_at hl 6 rfl) ?_
        refine lv_aload_n hx hb dL_areCountersSound_81 rfl (lv_at hl 0 rfl) ?_
        refine lv_iconst (v := 1) hx hb dL_areCountersSound_82 (by decide) ?_
        obtain ⟨r49, hg_r49, hf⟩ := ofbind hf
        refine kcV (bs := [WCB k b0 o0 c31]) (br := []) (bc := [WCB k b0 o0 c31]) (bc' := [WCB k b0 o0 c31]) X hP hD hS (c_W_form l D k t b0 o0 c31 1 N r49 hg_r49) mv_L_14 hl [] [0] 7 ⟨rfl, rfl⟩ ⟨Nat.le_of_ble_eq_true rfl, Nat.le_of_ble_eq_true rfl⟩ rfl rfl rfl rfl rfl rfl rfl (Nat.le_of_ble_eq_true rfl) dL_areCountersSound_83 (fun H locs hP hD hS => ?_)
        have hP : va_P D vwCl [WCB k b0 o0 c31].flatten _ := hP
        have hD : va_D A [WCB k b0 o0 c31].flatten := hD
        refine lv_lshr (v := i47 >>> (r49.toInt64 &&& 63)) hx hb dL_areCountersSound_86 rfl ?_
        refine lv_lstore (lv' := [(10, .long (i47 >>> (r49.toInt64 &&& 63))), (0, .ref (b0 o0)), (1, .int i26), (2, .long i27), (4, .long i28), (6, .int i29), (7, .int i30), (8, .long i47)]) hx hb dL_areCountersSound_87 hl (by decide) rfl (fun ls hl => ?_)
        refine lv_iconst (v := 0) hx hb dL_areCountersSound_89 (by decide) ?_
        refine lv_istore (lv' := [(12, .int 0), (10, .long (i47 >>> (r49.toInt64 &&& 63))), (0, .ref (b0 o0)), (1, .int i26), (2, .long i27), (4, .long i28), (6, .int i29), (7, .int i30), (8, .long i47)]) hx hb dL_areCountersSound_90 hl (by decide) rfl (fun ls hl => ?_)
        refine lv_iconst (v := 0) hx hb dL_areCountersSound_92 (by decide) ?_
        refine lv_istore (lv' := [(13, .int 0), (12, .int 0), (10, .long (i47 >>> (r49.toInt64 &&& 63))), (0, .ref (b0 o0)), (1, .int i26), (2, .long i27), (4, .long i28), (6, .int i29), (7, .int i30), (8, .long i47)]) hx hb dL_areCountersSound_93 hl (by decide) rfl (fun ls hl => ?_)
        refine w_L_areCountersSound_L95 X b0 o0 s0 N i26 i27 i28 i29 i30 i47 (i47 >>> (r49.toInt64 &&& 63)) c31 out _ ?_ N 0 0 _ _ _ hP hD hS (lv_sub hl [3, 4, 5, 6, 7, 8, 9, 2, 1, 0] rfl) hf
        · intro i64 i65 H locs ls hP hD hS hl hf
          refine lv_lload hx hb dL_areCountersSound_127 (lv_at hl 3 rfl) ?_
          refine lv_iload hx hb dL_areCountersSound_129 (lv_at hl 8 rfl) ?_
          refine lv_i2l (v := i64.toInt64) hx hb dL_areCountersSound_131 rfl ?_
          refine lv_lload hx hb dL_areCountersSound_132 (lv_at hl 7 rfl) ?_
          refine lv_lmul hx hb dL_areCountersSound_134 ?_
          refine lv_ladd hx hb dL_areCountersSound_135 ?_
          refine lv_lstore (lv' := [(4, .long (i28 + (i64.toInt64 * (i47 >>> (r49.toInt64 &&& 63))))), (0, .ref (b0 o0)), (1, .int i26), (2, .long i27), (6, .int i29), (7, .int i30), (8, .long i47), (10, .long (i47 >>> (r49.toInt64 &&& 63))), (12, .int i64)]) hx hb dL_areCountersSound_136 hl (by decide) rfl (fun ls hl => ?_)
          refine lv_aload_n hx hb dL_areCountersSound_138 rfl (lv_at hl 1 rfl) ?_
          refine lv_iload_n hx hb dL_areCountersSound_139 rfl (lv_at hl 2 rfl) ?_
          refine lv_iload hx hb dL_areCountersSound_140 (lv_at hl 5 rfl) ?_
          refine lv_iconst (v := 0) hx hb dL_areCountersSound_142 (by decide) ?_
          obtain ⟨r66, hg_r66, hf⟩ := ofbind hf
          refine kcV (bs := [WCB k b0 o0 c31]) (br := []) (bc := [WCB k b0 o0 c31]) (bc' := [WCB k b0 o0 r66.2]) X hP hD hS (c_W_overflow l D k t b0 o0 c31 i26 i30 0 N r66 hg_r66) mv_L_55 hl [] [0] 7 ⟨rfl, rfl⟩ ⟨Nat.le_of_ble_eq_true rfl, Nat.le_of_ble_eq_true rfl⟩ rfl rfl rfl rfl rfl rfl rfl (Nat.le_of_ble_eq_true rfl) dL_areCountersSound_143 (fun H locs hP hD hS => ?_)
          have hP : va_P D vwCl [WCB k b0 o0 r66.2].flatten _ := hP
          have hD : va_D A [WCB k b0 o0 r66.2].flatten := hD
          refine lv_lstore (lv' := [(13, .long r66.1), (4, .long (i28 + (i64.toInt64 * (i47 >>> (r49.toInt64 &&& 63))))), (0, .ref (b0 o0)), (1, .int i26), (2, .long i27), (6, .int i29), (7, .int i30), (8, .long i47), (10, .long (i47 >>> (r49.toInt64 &&& 63))), (12, .int i64)]) hx hb dL_areCountersSound_146 hl (by decide) rfl (fun ls hl => ?_)
          refine lv_aload_n hx hb dL_areCountersSound_148 rfl (lv_at hl 2 rfl) ?_
          refine lv_iload_n hx hb dL_areCountersSound_149 rfl (lv_at hl 3 rfl) ?_
          refine lv_iload hx hb dL_areCountersSound_150 (lv_at hl 6 rfl) ?_
          refine lv_iconst (v := 1) hx hb dL_areCountersSound_152 (by decide) ?_
          obtain ⟨r67, hg_r67, hf⟩ := ofbind hf
          refine kcV (bs := [WCB k b0 o0 r66.2]) (br := []) (bc := [WCB k b0 o0 r66.2]) (bc' := [WCB k b0 o0 r67.2]) X hP hD hS (c_W_overflow l D k t b0 o0 r66.2 i26 i30 1 N r67 hg_r67) mv_L_55 hl [] [0] 7 ⟨rfl, rfl⟩ ⟨Nat.le_of_ble_eq_true rfl, Nat.le_of_ble_eq_true rfl⟩ rfl rfl rfl rfl rfl rfl rfl (Nat.le_of_ble_eq_true rfl) dL_areCountersSound_153 (fun H locs hP hD hS => ?_)
          have hP : va_P D vwCl [WCB k b0 o0 r67.2].flatten _ := hP
          have hD : va_D A [WCB k b0 o0 r67.2].flatten := hD
          refine lv_lstore (lv' := [(15, .long r67.1), (13, .long r66.1), (4, .long (i28 + (i64.toInt64 * (i47 >>> (r49.toInt64 &&& 63))))), (0, .ref (b0 o0)), (1, .int i26), (2, .long i27), (6, .int i29), (7, .int i30), (8, .long i47), (10, .long (i47 >>> (r49.toInt64 &&& 63))), (12, .int i64)]) hx hb dL_areCountersSound_156 hl (by decide) rfl (fun ls hl => ?_)
          refine lv_aload_n hx hb dL_areCountersSound_158 rfl (lv_at hl 3 rfl) ?_
          refine lv_iload_n hx hb dL_areCountersSound_159 rfl (lv_at hl 4 rfl) ?_
          refine lv_iload hx hb dL_areCountersSound_160 (lv_at hl 7 rfl) ?_
          obtain ⟨r68, hg_r68, hf⟩ := ofbind hf
          refine kcV (bs := [WCB k b0 o0 r67.2]) (br := []) (bc := [WCB k b0 o0 r67.2]) (bc' := [WCB k b0 o0 r67.2]) X hP hD hS (c_W_rest l D k t b0 o0 r67.2 i26 i30 N r68 hg_r68) mv_L_58 hl [] [0] 7 ⟨rfl, rfl⟩ ⟨Nat.le_of_ble_eq_true rfl, Nat.le_of_ble_eq_true rfl⟩ rfl rfl rfl rfl rfl rfl rfl (Nat.le_of_ble_eq_true rfl) dL_areCountersSound_162 (fun H locs hP hD hS => ?_)
          have hP : va_P D vwCl [WCB k b0 o0 r67.2].flatten _ := hP
          have hD : va_D A [WCB k b0 o0 r67.2].flatten := hD
          refine lv_lload hx hb dL_areCountersSound_165 (lv_at hl 8 rfl) ?_
          refine lv_lload hx hb dL_areCountersSound_167 (lv_at hl 9 rfl) ?_
          refine lv_aload_n hx hb dL_areCountersSound_169 rfl (lv_at hl 3 rfl) ?_
          refine lv_iconst (v := 1) hx hb dL_areCountersSound_170 (by decide) ?_
          obtain ⟨r69, hg_r69, hf⟩ := ofbind hf
          refine kcV (bs := [WCB k b0 o0 r67.2]) (br := []) (bc := [WCB k b0 o0 r67.2]) (bc' := [WCB k b0 o0 r67.2]) X hP hD hS (c_W_form l D k t b0 o0 r67.2 1 N r69 hg_r69) mv_L_14 hl [] [0] 7 ⟨rfl, rfl⟩ ⟨Nat.le_of_ble_eq_true rfl, Nat.le_of_ble_eq_true rfl⟩ rfl rfl rfl rfl rfl rfl rfl (Nat.le_of_ble_eq_true rfl) dL_areCountersSound_171 (fun H locs hP hD hS => ?_)
          have hP : va_P D vwCl [WCB k b0 o0 r67.2].flatten _ := hP
          have hD : va_D A [WCB k b0 o0 r67.2].flatten := hD
          refine lv_lshl (v := (i47 >>> (r49.toInt64 &&& 63)) <<< (r69.toInt64 &&& 63)) hx hb dL_areCountersSound_174 rfl ?_
          refine lv_lsub hx hb dL_areCountersSound_175 ?_
          refine lv_l2i (v := (i47 - ((i47 >>> (r49.toInt64 &&& 63)) <<< (r69.toInt64 &&& 63))).toInt32) hx hb dL_areCountersSound_176 rfl ?_
          refine lv_icmp_ne (tgt := 215) hx hb dL_areCountersSound_177 (by decide) (fun hc => ?_) (fun hc => ?_)
          · have hf := ofneg hf hc
            refine lv_iconst (v := 0) hx hb dL_areCountersSound_215 (by decide) ?_
            have hf := Option.some.inj hf
            subst hf
            exact kzret (v := 0) X hP hD hS rfl dL_areCountersSound_216
          · have hf := ofpos hf hc
            refine lv_lload hx hb dL_areCountersSound_180 (lv_at hl 9 rfl) ?_
            refine lv_lconst (v := 0) hx hb dL_areCountersSound_182 (by decide) ?_
            refine W.lcmp hx hb dL_areCountersSound_183 ?_
            refine lv_if_le (tgt := 198) hx hb dL_areCountersSound_184 (by decide) (fun hc => ?_) (fun hc => ?_)
            · have hc := lgm.mp hc
              have hf := ofpos hf hc
              exact w_L_areCountersSound_J198 X b0 o0 s0 N i26 i27 (i28 + (i64.toInt64 * (i47 >>> (r49.toInt64 &&& 63)))) i29 i30 (i47 >>> (r49.toInt64 &&& 63)) r66.1 r67.1 r67.2 out _ ih _ _ _ hP hD hS (lv_sub hl [3, 4, 5, 2, 6, 7, 9, 1, 0] rfl) hf
            · have hc := fun z => hc (lgm.mpr z)
              have hf := ofneg hf hc
              refine lv_aload_n hx hb dL_areCountersSound_187 rfl (lv_at hl 3 rfl) ?_
              refine lv_iload_n hx hb dL_areCountersSound_188 rfl (lv_at hl 4 rfl) ?_
              refine lv_iload hx hb dL_areCountersSound_189 (lv_at hl 7 rfl) ?_
              obtain ⟨r116, hg_r116, hf⟩ := ofbind hf
              refine kcV (bs := [WCB k b0 o0 r67.2]) (br := []) (bc := [WCB k b0 o0 r67.2]) (bc' := [WCB k b0 o0 r67.2]) X hP hD hS (c_W_isMarked l D k t b0 o0 r67.2 i26 i30 N r116 hg_r116) mv_L_62 hl [] [0] 7 ⟨rfl, rfl⟩ ⟨Nat.le_of_ble_eq_true rfl, Nat.le_of_ble_eq_true rfl⟩ rfl rfl rfl rfl rfl rfl rfl (Nat.le_of_ble_eq_true rfl) dL_areCountersSound_191 (fun H locs hP hD hS => ?_)
              have hP : va_P D vwCl [WCB k b0 o0 r67.2].flatten _ := hP
              have hD : va_D A [WCB k b0 o0 r67.2].flatten := hD
              refine lv_iconst (v := 1) hx hb dL_areCountersSound_194 (by decide) ?_
              refine lv_icmp_ne (tgt := 215) hx hb dL_areCountersSound_195 (by decide) (fun hc => ?_) (fun hc => ?_)
              · have hf := ofneg hf hc
                refine lv_iconst (v := 0) hx hb dL_areCountersSound_215 (by decide) ?_
                have hf := Option.some.inj hf
                subst hf
                exact kzret (v := 0) X hP hD hS rfl dL_areCountersSound_216
              · have hf := ofpos hf hc
                exact w_L_areCountersSound_J198 X b0 o0 s0 N i26 i27 (i28 + (i64.toInt64 * (i47 >>> (r49.toInt64 &&& 63)))) i29 i30 (i47 >>> (r49.toInt64 &&& 63)) r66.1 r67.1 r67.2 out _ ih _ _ _ hP hD hS (lv_sub hl [3, 4, 5, 2, 6, 7, 9, 1, 0] rfl) hf
set_option maxRecDepth 100000 in
set_option maxHeartbeats 8000000 in
theorem w_L_areCountersSound_L311 {p : Program} {l : Launch} {e : Env} {s : State} {m : MethodId} {below : List Frame} {meth : Method} {c : Code} {args : Array Value} {A : Nat → Prop} {D : va_G} {k : Nat → ClassId} {t : Nat → Nat} (X : BX l D k t p s m args meth c cL_areCountersSound 17 RL (some .boolean) A) (b0 : Nat → Nat) (o0 : Nat) (s0 : CBS) (N : Nat) (i122 : Int32) (i124 : Int64) (c126 : CBS) (out : Int32 × CBS) (K337 : Int64 → Int32 → Option (Int32 × CBS)) (hK337 : ∀ (i123' : Int64) (i125' : Int32) (H : Heap) (locs : List Loc) (ls : Array Slot), va_P D vwCl [WCB k b0 o0 c126].flatten H → va_D A [WCB k b0 o0 c126].flatten → va_S A s.heap H locs → lv_has ls 17 [(0, .ref (b0 o0)), (1, .int i122), (2, .long i123'), (4, .long i124)] → K337 i123' i125' = some out → W p l e rm_L_areCountersSound s m args below meth c H locs 0 0 (Q_L_areCountersSound below D k A args s b0 o0 s0 out) (F0 m 337 ls [])) : ∀ (n : Nat) (i123 : Int64) (i125 : Int32) (H : Heap) (locs : List Loc) (ls : Array Slot), va_P D vwCl [WCB k b0 o0 c126].flatten H → va_D A [WCB k b0 o0 c126].flatten → va_S A s.heap H locs → lv_has ls 17 [(0, .ref (b0 o0)), (1, .int i122), (2, .long i123), (4, .long i124), (7, .int i125)] → f_L_areCountersSound_L311 N i122 c126 K337 n i123 i125 = some out → W p l e rm_L_areCountersSound s m args below meth c H locs 0 0 (Q_L_areCountersSound below D k A args s b0 o0 s0 out) (F0 m 311 ls []) := by
  have hx := X.1.1
  have hb := X.1.2.1
  have hml := X.1.2.2.1
  have hown := X.1.2.2.2.1
  have hts := X.1.2.2.2.2
  intro n
  induction n with
  | zero =>
    intro i123 i125 H locs ls hP hD hS hl hf
    rw [f_L_areCountersSound_L311] at hf
    cases hf
  | succ n ih =>
    intro i123 i125 H locs ls hP hD hS hl hf
    rw [f_L_areCountersSound_L311] at hf
    refine lv_iload hx hb dL_areCountersSound_311 (lv_at hl 4 rfl) ?_
    refine lv_aload_n hx hb dL_areCountersSound_313 rfl (lv_at hl 0 rfl) ?_
    refine lv_iconst (v := 3) hx hb dL_areCountersSound_314 (by decide) ?_
    obtain ⟨r127, hg_r127, hf⟩ := ofbind hf
    refine kcV (bs := [WCB k b0 o0 c126]) (br := []) (bc := [WCB k b0 o0 c126]) (bc' := [WCB k b0 o0 c126]) X hP hD hS (c_W_form l D k t b0 o0 c126 3 N r127 hg_r127) mv_L_14 hl [] [0] 7 ⟨rfl, rfl⟩ ⟨Nat.le_of_ble_eq_true rfl, Nat.le_of_ble_eq_true rfl⟩ rfl rfl rfl rfl rfl rfl rfl (Nat.le_of_ble_eq_true rfl) dL_areCountersSound_315 (fun H locs hP hD hS => ?_)
    have hP : va_P D vwCl [WCB k b0 o0 c126].flatten _ := hP
    have hD : va_D A [WCB k b0 o0 c126].flatten := hD
    refine lv_icmp_ge (tgt := 337) hx hb dL_areCountersSound_318 (by decide) (fun hc => ?_) (fun hc => ?_)
    · have hf := ofpos hf hc
      exact hK337 i123 i125 _ _ _ hP hD hS (lv_sub hl [0, 1, 2, 3] rfl) hf
    · have hf := ofneg hf hc
      refine lv_lload_n hx hb dL_areCountersSound_321 rfl (lv_at hl 2 rfl) ?_
      refine lv_aload_n hx hb dL_areCountersSound_322 rfl (lv_at hl 0 rfl) ?_
      refine lv_iload_n hx hb dL_areCountersSound_323 rfl (lv_at hl 1 rfl) ?_
      refine lv_iload hx hb dL_areCountersSound_324 (lv_at hl 4 rfl) ?_
      obtain ⟨r128, hg_r128, hf⟩ := ofbind hf
      refine kcV (bs := [WCB k b0 o0 c126]) (br := []) (bc := [WCB k b0 o0 c126]) (bc' := [WCB k b0 o0 c126]) X hP hD hS (c_W_above l D k t b0 o0 c126 i122 i125 N r128 hg_r128) mv_L_65 hl [] [0] 7 ⟨rfl, rfl⟩ ⟨Nat.le_of_ble_eq_true rfl, Nat.le_of_ble_eq_true rfl⟩ rfl rfl rfl rfl rfl rfl rfl (Nat.le_of_ble_eq_true rfl) dL_areCountersSound_326 (fun H locs hP hD hS => ?_)
      have hP : va_P D vwCl [WCB k b0 o0 c126].flatten _ := hP
      have hD : va_D A [WCB k b0 o0 c126].flatten := hD
      refine lv_ladd hx hb dL_areCountersSound_329 ?_
      refine lv_lstore_n (lv' := [(2, .long (i123 + r128)), (0, .ref (b0 o0)), (1, .int i122), (4, .long i124), (7, .int i125)]) hx hb dL_areCountersSound_330 rfl hl (by decide) rfl (fun ls hl => ?_)
      refine lv_iinc (v := i125 + 1) (lv' := [(7, .int (i125 + 1)), (2, .long (i123 + r128)), (0, .ref (b0 o0)), (1, .int i122), (4, .long i124)]) hx hb dL_areCountersSound_331 hl (k := 4) rfl rfl (by decide) rfl (fun ls hl => ?_)
      refine lv_goto (tgt := 311) hx hb dL_areCountersSound_334 (by decide) ?_
      exact ih (i123 + r128) (i125 + 1) _ _ _ hP hD hS (lv_sub hl [2, 3, 1, 4, 0] rfl) hf
set_option maxRecDepth 100000 in
set_option maxHeartbeats 8000000 in
theorem c_L_areCountersSound (l : Launch) (D : va_G) (k : Nat → ClassId) (t : Nat → Nat) (b0 : Nat → Nat) (o0 : Nat) (s0 : CBS) (x1 : Int32) (N : Nat) (out : Int32 × CBS) (hf : f_L_areCountersSound N x1 s0 = some out) : CT l D k t yL_areCountersSound cL_areCountersSound 17 (some .boolean) rm_L_areCountersSound [.ref (b0 o0), .int x1] [WCB k b0 o0 s0].flatten (some (.int out.1)) [WCB k b0 o0 out.2].flatten := by
  refine kofW (by decide) (Nat.le_of_ble_eq_true rfl) ?_
  intro p e s m below meth c A ls X hP hD hS hl
  have hx := X.1.1
  have hb := X.1.2.1
  have hml := X.1.2.2.1
  have hown := X.1.2.2.2.1
  have hts := X.1.2.2.2.2
  have hl : lv_has ls 17 [(0, .ref (b0 o0)), (1, .int x1)] := hl
  rw [f_L_areCountersSound] at hf
  refine lv_lconst (v := 0) hx hb dL_areCountersSound_0 (by decide) ?_
  refine lv_lstore_n (lv' := [(2, .long 0), (0, .ref (b0 o0)), (1, .int x1)]) hx hb dL_areCountersSound_1 rfl hl (by decide) rfl (fun ls hl => ?_)
  refine lv_lconst (v := 0) hx hb dL_areCountersSound_2 (by decide) ?_
  refine lv_lstore (lv' := [(4, .long 0), (2, .long 0), (0, .ref (b0 o0)), (1, .int x1)]) hx hb dL_areCountersSound_3 hl (by decide) rfl (fun ls hl => ?_)
  refine lv_aload_n hx hb dL_areCountersSound_5 rfl (lv_at hl 2 rfl) ?_
  refine lv_iload_n hx hb dL_areCountersSound_6 rfl (lv_at hl 3 rfl) ?_
  obtain ⟨r1, hg_r1, hf⟩ := ofbind hf
  refine kcV (bs := [WCB k b0 o0 s0]) (br := []) (bc := [WCB k b0 o0 s0]) (bc' := [WCB k b0 o0 r1.2]) X hP hD hS (c_W_certainOverflows l D k t b0 o0 s0 x1 N r1 hg_r1) mv_L_46 hl [] [0] 7 ⟨rfl, rfl⟩ ⟨Nat.le_of_ble_eq_true rfl, Nat.le_of_ble_eq_true rfl⟩ rfl rfl rfl rfl rfl rfl rfl (Nat.le_of_ble_eq_true rfl) dL_areCountersSound_7 (fun H locs hP hD hS => ?_)
  have hP : va_P D vwCl [WCB k b0 o0 r1.2].flatten _ := hP
  have hD : va_D A [WCB k b0 o0 r1.2].flatten := hD
  refine lv_istore (lv' := [(6, .int r1.1), (4, .long 0), (2, .long 0), (0, .ref (b0 o0)), (1, .int x1)]) hx hb dL_areCountersSound_10 hl (by decide) rfl (fun ls hl => ?_)
  refine lv_iconst (v := 0) hx hb dL_areCountersSound_12 (by decide) ?_
  refine lv_istore (lv' := [(7, .int 0), (6, .int r1.1), (4, .long 0), (2, .long 0), (0, .ref (b0 o0)), (1, .int x1)]) hx hb dL_areCountersSound_13 hl (by decide) rfl (fun ls hl => ?_)
  refine w_L_areCountersSound_L15 X b0 o0 s0 N x1 0 r1.1 out _ ?_ N 0 0 r1.2 _ _ _ hP hD hS (lv_sub hl [4, 5, 3, 2, 1, 0] rfl) hf
  · intro i117 i118 c119 H locs ls hP hD hS hl hf
    refine lv_iconst (v := 0) hx hb dL_areCountersSound_308 (by decide) ?_
    refine lv_istore (lv' := [(7, .int 0), (0, .ref (b0 o0)), (1, .int x1), (2, .long 0), (4, .long i117)]) hx hb dL_areCountersSound_309 hl (by decide) rfl (fun ls hl => ?_)
    refine w_L_areCountersSound_L311 X b0 o0 s0 N x1 i117 c119 out _ ?_ N 0 0 _ _ _ hP hD hS (lv_sub hl [1, 2, 3, 4, 0] rfl) hf
    · intro i129 i130 H locs ls hP hD hS hl hf
      refine lv_lload_n hx hb dL_areCountersSound_337 rfl (lv_at hl 2 rfl) ?_
      refine lv_lload hx hb dL_areCountersSound_338 (lv_at hl 3 rfl) ?_
      refine W.lcmp hx hb dL_areCountersSound_340 ?_
      refine lv_if_ne (tgt := 391) hx hb dL_areCountersSound_341 (by decide) (fun hc => ?_) (fun hc => ?_)
      · have hc := fun z => hc (lgq.mpr z)
        have hf := ofneg hf hc
        refine lv_iconst (v := 0) hx hb dL_areCountersSound_391 (by decide) ?_
        have hf := Option.some.inj hf
        subst hf
        exact kzret (v := 0) X hP hD hS rfl dL_areCountersSound_392
      · have hc := lgq.mp hc
        have hf := ofpos hf hc
        refine lv_aload_n hx hb dL_areCountersSound_344 rfl (lv_at hl 0 rfl) ?_
        refine lv_iload_n hx hb dL_areCountersSound_345 rfl (lv_at hl 1 rfl) ?_
        refine lv_iconst (v := 3) hx hb dL_areCountersSound_346 (by decide) ?_
        obtain ⟨r131, hg_r131, hf⟩ := ofbind hf
        refine kcV (bs := [WCB k b0 o0 c119]) (br := []) (bc := [WCB k b0 o0 c119]) (bc' := [WCB k b0 o0 r131.2]) X hP hD hS (c_W_total l D k t b0 o0 c119 x1 3 N r131 hg_r131) mv_L_40 hl [] [0] 7 ⟨rfl, rfl⟩ ⟨Nat.le_of_ble_eq_true rfl, Nat.le_of_ble_eq_true rfl⟩ rfl rfl rfl rfl rfl rfl rfl (Nat.le_of_ble_eq_true rfl) dL_areCountersSound_347 (fun H locs hP hD hS => ?_)
        have hP : va_P D vwCl [WCB k b0 o0 r131.2].flatten _ := hP
        have hD : va_D A [WCB k b0 o0 r131.2].flatten := hD
        refine lv_lload_n hx hb dL_areCountersSound_350 rfl (lv_at hl 2 rfl) ?_
        refine W.lcmp hx hb dL_areCountersSound_351 ?_
        refine lv_if_ne (tgt := 391) hx hb dL_areCountersSound_352 (by decide) (fun hc => ?_) (fun hc => ?_)
        · have hc := fun z => hc (lgq.mpr z)
          have hf := ofneg hf hc
          refine lv_iconst (v := 0) hx hb dL_areCountersSound_391 (by decide) ?_
          have hf := Option.some.inj hf
          subst hf
          exact kzret (v := 0) X hP hD hS rfl dL_areCountersSound_392
        · have hc := lgq.mp hc
          have hf := ofpos hf hc
          refine lv_aload_n hx hb dL_areCountersSound_355 rfl (lv_at hl 0 rfl) ?_
          refine lv_iload_n hx hb dL_areCountersSound_356 rfl (lv_at hl 1 rfl) ?_
          refine lv_aload_n hx hb dL_areCountersSound_357 rfl (lv_at hl 0 rfl) ?_
          refine lv_iconst (v := 3) hx hb dL_areCountersSound_358 (by decide) ?_
          obtain ⟨r132, hg_r132, hf⟩ := ofbind hf
          refine kcV (bs := [WCB k b0 o0 r131.2]) (br := []) (bc := [WCB k b0 o0 r131.2]) (bc' := [WCB k b0 o0 r131.2]) X hP hD hS (c_W_form l D k t b0 o0 r131.2 3 N r132 hg_r132) mv_L_14 hl [] [0] 7 ⟨rfl, rfl⟩ ⟨Nat.le_of_ble_eq_true rfl, Nat.le_of_ble_eq_true rfl⟩ rfl rfl rfl rfl rfl rfl rfl (Nat.le_of_ble_eq_true rfl) dL_areCountersSound_359 (fun H locs hP hD hS => ?_)
          have hP : va_P D vwCl [WCB k b0 o0 r131.2].flatten _ := hP
          have hD : va_D A [WCB k b0 o0 r131.2].flatten := hD
          obtain ⟨r133, hg_r133, hf⟩ := ofbind hf
          refine kcV (bs := [WCB k b0 o0 r131.2]) (br := []) (bc := [WCB k b0 o0 r131.2]) (bc' := [WCB k b0 o0 r131.2]) X hP hD hS (c_W_above l D k t b0 o0 r131.2 x1 r132 N r133 hg_r133) mv_L_65 hl [] [0] 7 ⟨rfl, rfl⟩ ⟨Nat.le_of_ble_eq_true rfl, Nat.le_of_ble_eq_true rfl⟩ rfl rfl rfl rfl rfl rfl rfl (Nat.le_of_ble_eq_true rfl) dL_areCountersSound_362 (fun H locs hP hD hS => ?_)
          have hP : va_P D vwCl [WCB k b0 o0 r131.2].flatten _ := hP
          have hD : va_D A [WCB k b0 o0 r131.2].flatten := hD
          refine lv_ldc2 (v := (-2)) hx hb hown (hts _ kc_L_68) dL_areCountersSound_365 ?_
          refine W.lcmp hx hb dL_areCountersSound_368 ?_
          refine lv_if_ne (tgt := 391) hx hb dL_areCountersSound_369 (by decide) (fun hc => ?_) (fun hc => ?_)
          · have hc := fun z => hc (lgq.mpr z)
            have hf := ofneg hf hc
            refine lv_iconst (v := 0) hx hb dL_areCountersSound_391 (by decide) ?_
            have hf := Option.some.inj hf
            subst hf
            exact kzret (v := 0) X hP hD hS rfl dL_areCountersSound_392
          · have hc := lgq.mp hc
            have hf := ofpos hf hc
            refine lv_aload_n hx hb dL_areCountersSound_372 rfl (lv_at hl 0 rfl) ?_
            refine lv_iload_n hx hb dL_areCountersSound_373 rfl (lv_at hl 1 rfl) ?_
            refine lv_aload_n hx hb dL_areCountersSound_374 rfl (lv_at hl 0 rfl) ?_
            refine lv_iconst (v := 0) hx hb dL_areCountersSound_375 (by decide) ?_
            obtain ⟨r134, hg_r134, hf⟩ := ofbind hf
            refine kcV (bs := [WCB k b0 o0 r131.2]) (br := []) (bc := [WCB k b0 o0 r131.2]) (bc' := [WCB k b0 o0 r131.2]) X hP hD hS (c_W_form l D k t b0 o0 r131.2 0 N r134 hg_r134) mv_L_14 hl [] [0] 7 ⟨rfl, rfl⟩ ⟨Nat.le_of_ble_eq_true rfl, Nat.le_of_ble_eq_true rfl⟩ rfl rfl rfl rfl rfl rfl rfl (Nat.le_of_ble_eq_true rfl) dL_areCountersSound_376 (fun H locs hP hD hS => ?_)
            have hP : va_P D vwCl [WCB k b0 o0 r131.2].flatten _ := hP
            have hD : va_D A [WCB k b0 o0 r131.2].flatten := hD
            obtain ⟨r135, hg_r135, hf⟩ := ofbind hf
            refine kcV (bs := [WCB k b0 o0 r131.2]) (br := []) (bc := [WCB k b0 o0 r131.2]) (bc' := [WCB k b0 o0 r131.2]) X hP hD hS (c_W_rest l D k t b0 o0 r131.2 x1 r134 N r135 hg_r135) mv_L_58 hl [] [0] 7 ⟨rfl, rfl⟩ ⟨Nat.le_of_ble_eq_true rfl, Nat.le_of_ble_eq_true rfl⟩ rfl rfl rfl rfl rfl rfl rfl (Nat.le_of_ble_eq_true rfl) dL_areCountersSound_379 (fun H locs hP hD hS => ?_)
            have hP : va_P D vwCl [WCB k b0 o0 r131.2].flatten _ := hP
            have hD : va_D A [WCB k b0 o0 r131.2].flatten := hD
            refine lv_bipush (v := (-2)) hx hb dL_areCountersSound_382 (by decide) ?_
            refine lv_icmp_ne (tgt := 391) hx hb dL_areCountersSound_384 (by decide) (fun hc => ?_) (fun hc => ?_)
            · have hf := ofneg hf hc
              refine lv_iconst (v := 0) hx hb dL_areCountersSound_391 (by decide) ?_
              have hf := Option.some.inj hf
              subst hf
              exact kzret (v := 0) X hP hD hS rfl dL_areCountersSound_392
            · have hf := ofpos hf hc
              refine lv_iconst (v := 1) hx hb dL_areCountersSound_387 (by decide) ?_
              refine lv_goto (tgt := 392) hx hb dL_areCountersSound_388 (by decide) ?_
              have hf := Option.some.inj hf
              subst hf
              exact kzret (v := 1) X hP hD hS rfl dL_areCountersSound_392
