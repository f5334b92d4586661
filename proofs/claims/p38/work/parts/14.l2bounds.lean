/-! L_areBoundsSound: private static boolean areBoundsSound(CounterBraid, int, int); -/
abbrev rm_L_areBoundsSound : Room := ({ frames := 8, cells := 0, slots := 0, locals := 186 } : Room)
def f_L_areBoundsSound_J333 (j118 : Int64) (j119 : Int64) (j120 : Int64) (j121 : Int64) (j122 : Int32) (j123 : Int64) (j124 : Int64) (t125 : Int32) (c126 : CBS) (B39 : Int64 → Int64 → Int64 → Int64 → Int32 → Int32 → CBS → Option (Int32 × CBS)) : Option (Int32 × CBS) := if (j124 - j123) ≤ j121 then B39 j118 j119 j120 j121 t125 (j122 + 1) c126 else B39 j118 j119 j120 (j124 - j123) t125 (j122 + 1) c126
def f_L_areBoundsSound_J154 (N : Nat) (j85 : Int32) (j90 : Int64) (j91 : Int64) (j92 : Int64) (j93 : Int64) (j94 : Int32) (j95 : Int32) (j96 : Int64) (j97 : Int64) (j98 : Int64) (j99 : Int32) (j100 : Int32) (t101 : Int32) (t102 : Int32) (c103 : CBS) (B39 : Int64 → Int64 → Int64 → Int64 → Int32 → Int32 → CBS → Option (Int32 × CBS)) : Option (Int32 × CBS) := if t101 = t102 then (f_W_estimate N j85 j95 c103).bind (fun r104 => if r104.1 = ((j97 + j98) / 2) then (f_W_boundAfter N j85 j95 0 j99 r104.2).bind (fun r105 => if j97 < r105.1 then some (0, r105.2) else (f_W_boundAfter N j85 j95 1 j99 r105.2).bind (fun r106 => if r106.1 < j98 then some (0, r106.2) else (f_W_boundAfter N j85 j95 0 j100 r106.2).bind (fun r107 => if r107.1 < j97 then some (0, r107.2) else (f_W_boundAfter N j85 j95 1 j100 r107.2).bind (fun r108 => if r108.1 ≤ j98 then (f_W_boundAfter N j85 j95 1 0 r108.2).bind (fun r109 => (f_W_leastPlace N j85 j95 r109.2).bind (fun r110 => if r109.1 = r110.1 then (f_W_boundAfter N j85 j95 0 0 r110.2).bind (fun r111 => if r111.1 = 0 then (f_W_leastPlace N j85 j95 r111.2).bind (fun r112 => if j98 ≤ r112.1 then if (j98 - j97) ≤ j93 then f_L_areBoundsSound_J333 (j90 + j96) (j91 + j97) (j92 + j98) j93 j95 j97 j98 j94 r112.2 B39 else f_L_areBoundsSound_J333 (j90 + j96) (j91 + j97) (j92 + j98) j93 j95 j97 j98 j95 r112.2 B39 else some (0, r112.2)) else some (0, r111.2)) else some (0, r110.2))) else some (0, r108.2))))) else some (0, r104.2)) else some (0, c103)
def f_L_areBoundsSound_J141 (N : Nat) (j67 : Int32) (j72 : Int64) (j73 : Int64) (j74 : Int64) (j75 : Int64) (j76 : Int32) (j77 : Int32) (j78 : Int64) (j79 : Int64) (j80 : Int64) (j81 : Int32) (j82 : Int32) (t83 : Int32) (c84 : CBS) (B39 : Int64 → Int64 → Int64 → Int64 → Int32 → Int32 → CBS → Option (Int32 × CBS)) : Option (Int32 × CBS) := if j79 = j80 then f_L_areBoundsSound_J154 N j67 j72 j73 j74 j75 j76 j77 j78 j79 j80 j81 j82 t83 1 c84 B39 else f_L_areBoundsSound_J154 N j67 j72 j73 j74 j75 j76 j77 j78 j79 j80 j81 j82 t83 0 c84 B39
def f_L_areBoundsSound_J101 (N : Nat) (j50 : Int32) (j52 : Int32) (j55 : Int64) (j56 : Int64) (j57 : Int64) (j58 : Int64) (j59 : Int32) (j60 : Int32) (j61 : Int64) (j62 : Int64) (j63 : Int64) (j64 : Int32) (t65 : Int32) (c66 : CBS) (B39 : Int64 → Int64 → Int64 → Int64 → Int32 → Int32 → CBS → Option (Int32 × CBS)) : Option (Int32 × CBS) := if j62 < 0 then some (0, c66) else if j61 < j62 then some (0, c66) else if j63 < j61 then some (0, c66) else if ((j52 >>> (j60 &&& 31)) &&& 1) = 1 then f_L_areBoundsSound_J141 N j50 j55 j56 j57 j58 j59 j60 j61 j62 j63 j64 t65 1 c66 B39 else f_L_areBoundsSound_J141 N j50 j55 j56 j57 j58 j59 j60 j61 j62 j63 j64 t65 0 c66 B39
def f_L_areBoundsSound_J87 (N : Nat) (j34 : Int32) (j35 : Int32) (j36 : Int32) (j38 : Int32) (j39 : Int64) (j40 : Int64) (j41 : Int64) (j42 : Int64) (j43 : Int32) (j44 : Int32) (j45 : Int64) (j46 : Int64) (j47 : Int64) (t48 : Int32) (c49 : CBS) (B39 : Int64 → Int64 → Int64 → Int64 → Int32 → Int32 → CBS → Option (Int32 × CBS)) : Option (Int32 × CBS) := if j35 ≤ j38 then f_L_areBoundsSound_J101 N j34 j36 j39 j40 j41 j42 j43 j44 j45 j46 j47 t48 j38 c49 B39 else f_L_areBoundsSound_J101 N j34 j36 j39 j40 j41 j42 j43 j44 j45 j46 j47 t48 j35 c49 B39
def f_L_areBoundsSound_L39 (N : Nat) (i19 : Int32) (i20 : Int32) (i21 : Int32) (i22 : Int32) (i23 : Int32) (K364 : Int64 → Int64 → Int64 → Int64 → Int32 → Int32 → CBS → Option (Int32 × CBS)) : Nat → Int64 → Int64 → Int64 → Int64 → Int32 → Int32 → CBS → Option (Int32 × CBS)
  | 0, _, _, _, _, _, _, _ => none
  | n + 1, i24, i25, i26, i27, i28, i29, c30 => if i22 ≤ i29 then K364 i24 i25 i26 i27 i28 i29 c30 else (f_W_truth N i19 i29 c30).bind (fun r31 => (f_W_bound N i19 i29 0 c30).bind (fun r32 => (f_W_bound N i19 i29 1 r32.2).bind (fun r33 => if i23 ≤ i20 then f_L_areBoundsSound_J87 N i19 i20 i21 i23 i24 i25 i26 i27 i28 i29 r31 r32.1 r33.1 i23 r33.2 (f_L_areBoundsSound_L39 N i19 i20 i21 i22 i23 K364 n) else f_L_areBoundsSound_J87 N i19 i20 i21 i23 i24 i25 i26 i27 i28 i29 r31 r32.1 r33.1 i20 r33.2 (f_L_areBoundsSound_L39 N i19 i20 i21 i22 i23 K364 n))))
def f_L_areBoundsSound_L443 (N : Nat) (i143 : Int32) (i144 : Int32) (i145 : Int32) (K502 : Int32 → CBS → Option (Int32 × CBS)) : Nat → Int32 → CBS → Option (Int32 × CBS)
  | 0, _, _ => none
  | n + 1, i146, c147 => if i144 ≤ i146 then K502 i146 c147 else (f_W_boundAfter N i143 i146 1 i145 c147).bind (fun r148 => (f_W_bound N i143 i146 1 r148.2).bind (fun r149 => if r148.1 = r149.1 then (f_W_boundAfter N i143 i146 0 i145 r149.2).bind (fun r150 => (f_W_bound N i143 i146 0 r150.2).bind (fun r151 => if r150.1 = r151.1 then f_L_areBoundsSound_L443 N i143 i144 i145 K502 n (i146 + 1) r151.2 else some (0, r151.2))) else some (0, r149.2)))
def f_L_areBoundsSound (N : Nat) (x1 : Int32) (x2 : Int32) (v0_all : CBS) : Option (Int32 × CBS) := (f_W_certain N x1 v0_all).bind (fun r1 => (f_W_form N 6 r1.2).bind (fun r2 => (f_W_form N 5 r1.2).bind (fun r3 => f_L_areBoundsSound_L39 N x1 x2 r1.1 r2 r3 (fun i127 i128 i129 i130 i131 i132 c133 => if (r1.1 >>> (r2 &&& 31)) = 0 then (f_W_widest N x1 c133).bind (fun r134 => if r134.1 = i131 then (f_W_total N x1 0 r134.2).bind (fun r135 => if r135.1 = i127 then (f_W_total N x1 1 r135.2).bind (fun r136 => if r136.1 = i128 then (f_W_total N x1 2 r136.2).bind (fun r137 => if r137.1 = i129 then (f_W_lastRound N x1 r137.2).bind (fun r138 => if r138.1 < 0 then some (0, r138.2) else if r138.1 ≤ r3 then f_L_areBoundsSound_L443 N x1 r2 r138.1 (fun i152 c153 => some (1, c153)) N 0 r138.2 else some (0, r138.2)) else some (0, r137.2)) else some (0, r136.2)) else some (0, r135.2)) else some (0, r134.2)) else some (0, c133)) N 0 0 0 0 (-1) 0 r1.2)))
abbrev Q_L_areBoundsSound (below : List Frame) (D : va_G) (k : Nat → ClassId) (A : Nat → Prop) (args : Array Value) (s : State) (b0 : Nat → Nat) (o0 : Nat) (s0 : CBS) (out : Int32 × CBS) : State → Prop := MQ below (QW D k A (some (.int out.1)) [WCB k b0 o0 out.2].flatten) args s 0 0 A
set_option maxRecDepth 100000 in
set_option maxHeartbeats 8000000 in
theorem w_L_areBoundsSound_J333 {p : Program} {l : Launch} {e : Env} {s : State} {m : MethodId} {below : List Frame} {meth : Method} {c : Code} {args : Array Value} {A : Nat → Prop} {D : va_G} {k : Nat → ClassId} {t : Nat → Nat} (X : BX l D k t p s m args meth c cL_areBoundsSound 24 RL (some .boolean) A) (b0 : Nat → Nat) (o0 : Nat) (s0 : CBS) (N : Nat) (j113 : Int32) (j114 : Int32) (j115 : Int32) (j116 : Int32) (j117 : Int32) (j118 : Int64) (j119 : Int64) (j120 : Int64) (j121 : Int64) (j122 : Int32) (j123 : Int64) (j124 : Int64) (t125 : Int32) (c126 : CBS) (out : Int32 × CBS) (B39 : Int64 → Int64 → Int64 → Int64 → Int32 → Int32 → CBS → Option (Int32 × CBS)) (hB39 : ∀ (i24' : Int64) (i25' : Int64) (i26' : Int64) (i27' : Int64) (i28' : Int32) (i29' : Int32) (c30' : CBS) (H : Heap) (locs : List Loc) (ls : Array Slot), va_P D vwCl [WCB k b0 o0 c30'].flatten H → va_D A [WCB k b0 o0 c30'].flatten → va_S A s.heap H locs → lv_has ls 24 [(0, .ref (b0 o0)), (1, .int j113), (2, .int j114), (3, .int j115), (4, .int j116), (5, .int j117), (6, .long i24'), (8, .long i25'), (10, .long i26'), (12, .long i27'), (14, .int i28'), (15, .int i29')] → B39 i24' i25' i26' i27' i28' i29' c30' = some out → W p l e rm_L_areBoundsSound s m args below meth c H locs 0 0 (Q_L_areBoundsSound below D k A args s b0 o0 s0 out) (F0 m 39 ls [])) : ∀ (H : Heap) (locs : List Loc) (ls : Array Slot), va_P D vwCl [WCB k b0 o0 c126].flatten H → va_D A [WCB k b0 o0 c126].flatten → va_S A s.heap H locs → lv_has ls 24 [(0, .ref (b0 o0)), (1, .int j113), (2, .int j114), (3, .int j115), (4, .int j116), (5, .int j117), (6, .long j118), (8, .long j119), (10, .long j120), (12, .long j121), (15, .int j122), (18, .long j123), (20, .long j124)] → f_L_areBoundsSound_J333 j118 j119 j120 j121 j122 j123 j124 t125 c126 B39 = some out → W p l e rm_L_areBoundsSound s m args below meth c H locs 0 0 (Q_L_areBoundsSound below D k A args s b0 o0 s0 out) (F0 m 333 ls [.int t125]) := by
  have hx := X.1.1
  have hb := X.1.2.1
  have hml := X.1.2.2.1
  have hown := X.1.2.2.2.1
  have hts := X.1.2.2.2.2
  intro H locs ls hP hD hS hl hf
  rw [f_L_areBoundsSound_J333] at hf
  refine lv_istore (lv' := [(14, .int t125), (0, .ref (b0 o0)), (1, .int j113), (2, .int j114), (3, .int j115), (4, .int j116), (5, .int j117), (6, .long j118), (8, .long j119), (10, .long j120), (12, .long j121), (15, .int j122), (18, .long j123), (20, .long j124)]) hx hb dL_areBoundsSound_333 hl (by decide) rfl (fun ls hl => ?_)
  refine lv_lload hx hb dL_areBoundsSound_335 (lv_at hl 13 rfl) ?_
  refine lv_lload hx hb dL_areBoundsSound_337 (lv_at hl 12 rfl) ?_
  refine lv_lsub hx hb dL_areBoundsSound_339 ?_
  refine lv_lload hx hb dL_areBoundsSound_340 (lv_at hl 10 rfl) ?_
  refine W.lcmp hx hb dL_areBoundsSound_342 ?_
  refine lv_if_le (tgt := 354) hx hb dL_areBoundsSound_343 (by decide) (fun hc => ?_) (fun hc => ?_)
  · have hc := lgm.mp hc
    have hf := ofpos hf hc
    refine lv_lload hx hb dL_areBoundsSound_354 (lv_at hl 10 rfl) ?_
    refine lv_lstore (lv' := [(12, .long j121), (14, .int t125), (0, .ref (b0 o0)), (1, .int j113), (2, .int j114), (3, .int j115), (4, .int j116), (5, .int j117), (6, .long j118), (8, .long j119), (10, .long j120), (15, .int j122), (18, .long j123), (20, .long j124)]) hx hb dL_areBoundsSound_356 hl (by decide) rfl (fun ls hl => ?_)
    refine lv_iinc (v := j122 + 1) (lv' := [(15, .int (j122 + 1)), (12, .long j121), (14, .int t125), (0, .ref (b0 o0)), (1, .int j113), (2, .int j114), (3, .int j115), (4, .int j116), (5, .int j117), (6, .long j118), (8, .long j119), (10, .long j120), (18, .long j123), (20, .long j124)]) hx hb dL_areBoundsSound_358 hl (k := 11) rfl rfl (by decide) rfl (fun ls hl => ?_)
    refine lv_goto (tgt := 39) hx hb dL_areBoundsSound_361 (by decide) ?_
    exact hB39 j118 j119 j120 j121 t125 (j122 + 1) c126 _ _ _ hP hD hS (lv_sub hl [3, 4, 5, 6, 7, 8, 9, 10, 11, 1, 2, 0] rfl) hf
  · have hc := fun z => hc (lgm.mpr z)
    have hf := ofneg hf hc
    refine lv_lload hx hb dL_areBoundsSound_346 (lv_at hl 13 rfl) ?_
    refine lv_lload hx hb dL_areBoundsSound_348 (lv_at hl 12 rfl) ?_
    refine lv_lsub hx hb dL_areBoundsSound_350 ?_
    refine lv_goto (tgt := 356) hx hb dL_areBoundsSound_351 (by decide) ?_
    refine lv_lstore (lv' := [(12, .long (j124 - j123)), (14, .int t125), (0, .ref (b0 o0)), (1, .int j113), (2, .int j114), (3, .int j115), (4, .int j116), (5, .int j117), (6, .long j118), (8, .long j119), (10, .long j120), (15, .int j122), (18, .long j123), (20, .long j124)]) hx hb dL_areBoundsSound_356 hl (by decide) rfl (fun ls hl => ?_)
    refine lv_iinc (v := j122 + 1) (lv' := [(15, .int (j122 + 1)), (12, .long (j124 - j123)), (14, .int t125), (0, .ref (b0 o0)), (1, .int j113), (2, .int j114), (3, .int j115), (4, .int j116), (5, .int j117), (6, .long j118), (8, .long j119), (10, .long j120), (18, .long j123), (20, .long j124)]) hx hb dL_areBoundsSound_358 hl (k := 11) rfl rfl (by decide) rfl (fun ls hl => ?_)
    refine lv_goto (tgt := 39) hx hb dL_areBoundsSound_361 (by decide) ?_
    exact hB39 j118 j119 j120 (j124 - j123) t125 (j122 + 1) c126 _ _ _ hP hD hS (lv_sub hl [3, 4, 5, 6, 7, 8, 9, 10, 11, 1, 2, 0] rfl) hf
set_option maxRecDepth 100000 in
set_option maxHeartbeats 8000000 in
theorem w_L_areBoundsSound_J154 {p : Program} {l : Launch} {e : Env} {s : State} {m : MethodId} {below : List Frame} {meth : Method} {c : Code} {args : Array Value} {A : Nat → Prop} {D : va_G} {k : Nat → ClassId} {t : Nat → Nat} (X : BX l D k t p s m args meth c cL_areBoundsSound 24 RL (some .boolean) A) (b0 : Nat → Nat) (o0 : Nat) (s0 : CBS) (N : Nat) (j85 : Int32) (j86 : Int32) (j87 : Int32) (j88 : Int32) (j89 : Int32) (j90 : Int64) (j91 : Int64) (j92 : Int64) (j93 : Int64) (j94 : Int32) (j95 : Int32) (j96 : Int64) (j97 : Int64) (j98 : Int64) (j99 : Int32) (j100 : Int32) (t101 : Int32) (t102 : Int32) (c103 : CBS) (out : Int32 × CBS) (B39 : Int64 → Int64 → Int64 → Int64 → Int32 → Int32 → CBS → Option (Int32 × CBS)) (hB39 : ∀ (i24' : Int64) (i25' : Int64) (i26' : Int64) (i27' : Int64) (i28' : Int32) (i29' : Int32) (c30' : CBS) (H : Heap) (locs : List Loc) (ls : Array Slot), va_P D vwCl [WCB k b0 o0 c30'].flatten H → va_D A [WCB k b0 o0 c30'].flatten → va_S A s.heap H locs → lv_has ls 24 [(0, .ref (b0 o0)), (1, .int j85), (2, .int j86), (3, .int j87), (4, .int j88), (5, .int j89), (6, .long i24'), (8, .long i25'), (10, .long i26'), (12, .long i27'), (14, .int i28'), (15, .int i29')] → B39 i24' i25' i26' i27' i28' i29' c30' = some out → W p l e rm_L_areBoundsSound s m args below meth c H locs 0 0 (Q_L_areBoundsSound below D k A args s b0 o0 s0 out) (F0 m 39 ls [])) : ∀ (H : Heap) (locs : List Loc) (ls : Array Slot), va_P D vwCl [WCB k b0 o0 c103].flatten H → va_D A [WCB k b0 o0 c103].flatten → va_S A s.heap H locs → lv_has ls 24 [(0, .ref (b0 o0)), (1, .int j85), (2, .int j86), (3, .int j87), (4, .int j88), (5, .int j89), (6, .long j90), (8, .long j91), (10, .long j92), (12, .long j93), (14, .int j94), (15, .int j95), (16, .long j96), (18, .long j97), (20, .long j98), (22, .int j99), (23, .int j100)] → f_L_areBoundsSound_J154 N j85 j90 j91 j92 j93 j94 j95 j96 j97 j98 j99 j100 t101 t102 c103 B39 = some out → W p l e rm_L_areBoundsSound s m args below meth c H locs 0 0 (Q_L_areBoundsSound below D k A args s b0 o0 s0 out) (F0 m 154 ls [.int t102, .int t101]) := by
  have hx := X.1.1
  have hb := X.1.2.1
  have hml := X.1.2.2.1
  have hown := X.1.2.2.2.1
  have hts := X.1.2.2.2.2
  intro H locs ls hP hD hS hl hf
  rw [f_L_areBoundsSound_J154] at hf
  refine lv_icmp_ne (tgt := 177) hx hb dL_areBoundsSound_154 (by decide) (fun hc => ?_) (fun hc => ?_)
  · have hf := ofneg hf hc
    refine lv_iconst (v := 0) hx hb dL_areBoundsSound_177 (by decide) ?_
    have hf := Option.some.inj hf
    subst hf
    exact kzret (v := 0) X hP hD hS rfl dL_areBoundsSound_178
  · have hf := ofpos hf hc
    refine lv_aload_n hx hb dL_areBoundsSound_157 rfl (lv_at hl 0 rfl) ?_
    refine lv_iload_n hx hb dL_areBoundsSound_158 rfl (lv_at hl 1 rfl) ?_
    refine lv_iload hx hb dL_areBoundsSound_159 (lv_at hl 11 rfl) ?_
    obtain ⟨r104, hg_r104, hf⟩ := ofbind hf
    refine kcV (bs := [WCB k b0 o0 c103]) (br := []) (bc := [WCB k b0 o0 c103]) (bc' := [WCB k b0 o0 r104.2]) X hP hD hS (c_W_estimate l D k t b0 o0 c103 j85 j95 N r104 hg_r104) mv_L_25 hl [] [0] 7 ⟨rfl, rfl⟩ ⟨Nat.le_of_ble_eq_true rfl, Nat.le_of_ble_eq_true rfl⟩ rfl rfl rfl rfl rfl rfl rfl (Nat.le_of_ble_eq_true rfl) dL_areBoundsSound_161 (fun H locs hP hD hS => ?_)
    have hP : va_P D vwCl [WCB k b0 o0 r104.2].flatten _ := hP
    have hD : va_D A [WCB k b0 o0 r104.2].flatten := hD
    refine lv_lload hx hb dL_areBoundsSound_164 (lv_at hl 13 rfl) ?_
    refine lv_lload hx hb dL_areBoundsSound_166 (lv_at hl 14 rfl) ?_
    refine lv_ladd hx hb dL_areBoundsSound_168 ?_
    refine lv_ldc2 (v := 2) hx hb hown (hts _ kc_L_28) dL_areBoundsSound_169 ?_
    refine lv_ldiv hx hb dL_areBoundsSound_172 (by decide) ?_
    refine W.lcmp hx hb dL_areBoundsSound_173 ?_
    refine lv_if_eq (tgt := 179) hx hb dL_areBoundsSound_174 (by decide) (fun hc => ?_) (fun hc => ?_)
    · have hc := lgq.mp hc
      have hf := ofpos hf hc
      refine lv_aload_n hx hb dL_areBoundsSound_179 rfl (lv_at hl 0 rfl) ?_
      refine lv_iload_n hx hb dL_areBoundsSound_180 rfl (lv_at hl 1 rfl) ?_
      refine lv_iload hx hb dL_areBoundsSound_181 (lv_at hl 11 rfl) ?_
      refine lv_iconst (v := 0) hx hb dL_areBoundsSound_183 (by decide) ?_
      refine lv_iload hx hb dL_areBoundsSound_184 (lv_at hl 15 rfl) ?_
      obtain ⟨r105, hg_r105, hf⟩ := ofbind hf
      refine kcV (bs := [WCB k b0 o0 r104.2]) (br := []) (bc := [WCB k b0 o0 r104.2]) (bc' := [WCB k b0 o0 r105.2]) X hP hD hS (c_W_boundAfter l D k t b0 o0 r104.2 j85 j95 0 j99 N r105 hg_r105) mv_L_30 hl [] [0] 7 ⟨rfl, rfl⟩ ⟨Nat.le_of_ble_eq_true rfl, Nat.le_of_ble_eq_true rfl⟩ rfl rfl rfl rfl rfl rfl rfl (Nat.le_of_ble_eq_true rfl) dL_areBoundsSound_186 (fun H locs hP hD hS => ?_)
      have hP : va_P D vwCl [WCB k b0 o0 r105.2].flatten _ := hP
      have hD : va_D A [WCB k b0 o0 r105.2].flatten := hD
      refine lv_lload hx hb dL_areBoundsSound_189 (lv_at hl 13 rfl) ?_
      refine W.lcmp hx hb dL_areBoundsSound_191 ?_
      refine lv_if_gt (tgt := 243) hx hb dL_areBoundsSound_192 (by decide) (fun hc => ?_) (fun hc => ?_)
      · have hc := lgg.mp hc
        have hf := ofpos hf hc
        refine lv_iconst (v := 0) hx hb dL_areBoundsSound_243 (by decide) ?_
        have hf := Option.some.inj hf
        subst hf
        exact kzret (v := 0) X hP hD hS rfl dL_areBoundsSound_244
      · have hc := fun z => hc (lgg.mpr z)
        have hf := ofneg hf hc
        refine lv_aload_n hx hb dL_areBoundsSound_195 rfl (lv_at hl 0 rfl) ?_
        refine lv_iload_n hx hb dL_areBoundsSound_196 rfl (lv_at hl 1 rfl) ?_
        refine lv_iload hx hb dL_areBoundsSound_197 (lv_at hl 11 rfl) ?_
        refine lv_iconst (v := 1) hx hb dL_areBoundsSound_199 (by decide) ?_
        refine lv_iload hx hb dL_areBoundsSound_200 (lv_at hl 15 rfl) ?_
        obtain ⟨r106, hg_r106, hf⟩ := ofbind hf
        refine kcV (bs := [WCB k b0 o0 r105.2]) (br := []) (bc := [WCB k b0 o0 r105.2]) (bc' := [WCB k b0 o0 r106.2]) X hP hD hS (c_W_boundAfter l D k t b0 o0 r105.2 j85 j95 1 j99 N r106 hg_r106) mv_L_30 hl [] [0] 7 ⟨rfl, rfl⟩ ⟨Nat.le_of_ble_eq_true rfl, Nat.le_of_ble_eq_true rfl⟩ rfl rfl rfl rfl rfl rfl rfl (Nat.le_of_ble_eq_true rfl) dL_areBoundsSound_202 (fun H locs hP hD hS => ?_)
        have hP : va_P D vwCl [WCB k b0 o0 r106.2].flatten _ := hP
        have hD : va_D A [WCB k b0 o0 r106.2].flatten := hD
        refine lv_lload hx hb dL_areBoundsSound_205 (lv_at hl 14 rfl) ?_
        refine W.lcmp hx hb dL_areBoundsSound_207 ?_
        refine lv_if_lt (tgt := 243) hx hb dL_areBoundsSound_208 (by decide) (fun hc => ?_) (fun hc => ?_)
        · have hc := lgl.mp hc
          have hf := ofpos hf hc
          refine lv_iconst (v := 0) hx hb dL_areBoundsSound_243 (by decide) ?_
          have hf := Option.some.inj hf
          subst hf
          exact kzret (v := 0) X hP hD hS rfl dL_areBoundsSound_244
        · have hc := fun z => hc (lgl.mpr z)
          have hf := ofneg hf hc
          refine lv_aload_n hx hb dL_areBoundsSound_211 rfl (lv_at hl 0 rfl) ?_
          refine lv_iload_n hx hb dL_areBoundsSound_212 rfl (lv_at hl 1 rfl) ?_
          refine lv_iload hx hb dL_areBoundsSound_213 (lv_at hl 11 rfl) ?_
          refine lv_iconst (v := 0) hx hb dL_areBoundsSound_215 (by decide) ?_
          refine lv_iload hx hb dL_areBoundsSound_216 (lv_at hl 16 rfl) ?_
          obtain ⟨r107, hg_r107, hf⟩ := ofbind hf
          refine kcV (bs := [WCB k b0 o0 r106.2]) (br := []) (bc := [WCB k b0 o0 r106.2]) (bc' := [WCB k b0 o0 r107.2]) X hP hD hS (c_W_boundAfter l D k t b0 o0 r106.2 j85 j95 0 j100 N r107 hg_r107) mv_L_30 hl [] [0] 7 ⟨rfl, rfl⟩ ⟨Nat.le_of_ble_eq_true rfl, Nat.le_of_ble_eq_true rfl⟩ rfl rfl rfl rfl rfl rfl rfl (Nat.le_of_ble_eq_true rfl) dL_areBoundsSound_218 (fun H locs hP hD hS => ?_)
          have hP : va_P D vwCl [WCB k b0 o0 r107.2].flatten _ := hP
          have hD : va_D A [WCB k b0 o0 r107.2].flatten := hD
          refine lv_lload hx hb dL_areBoundsSound_221 (lv_at hl 13 rfl) ?_
          refine W.lcmp hx hb dL_areBoundsSound_223 ?_
          refine lv_if_lt (tgt := 243) hx hb dL_areBoundsSound_224 (by decide) (fun hc => ?_) (fun hc => ?_)
          · have hc := lgl.mp hc
            have hf := ofpos hf hc
            refine lv_iconst (v := 0) hx hb dL_areBoundsSound_243 (by decide) ?_
            have hf := Option.some.inj hf
            subst hf
            exact kzret (v := 0) X hP hD hS rfl dL_areBoundsSound_244
          · have hc := fun z => hc (lgl.mpr z)
            have hf := ofneg hf hc
            refine lv_aload_n hx hb dL_areBoundsSound_227 rfl (lv_at hl 0 rfl) ?_
            refine lv_iload_n hx hb dL_areBoundsSound_228 rfl (lv_at hl 1 rfl) ?_
            refine lv_iload hx hb dL_areBoundsSound_229 (lv_at hl 11 rfl) ?_
            refine lv_iconst (v := 1) hx hb dL_areBoundsSound_231 (by decide) ?_
            refine lv_iload hx hb dL_areBoundsSound_232 (lv_at hl 16 rfl) ?_
            obtain ⟨r108, hg_r108, hf⟩ := ofbind hf
            refine kcV (bs := [WCB k b0 o0 r107.2]) (br := []) (bc := [WCB k b0 o0 r107.2]) (bc' := [WCB k b0 o0 r108.2]) X hP hD hS (c_W_boundAfter l D k t b0 o0 r107.2 j85 j95 1 j100 N r108 hg_r108) mv_L_30 hl [] [0] 7 ⟨rfl, rfl⟩ ⟨Nat.le_of_ble_eq_true rfl, Nat.le_of_ble_eq_true rfl⟩ rfl rfl rfl rfl rfl rfl rfl (Nat.le_of_ble_eq_true rfl) dL_areBoundsSound_234 (fun H locs hP hD hS => ?_)
            have hP : va_P D vwCl [WCB k b0 o0 r108.2].flatten _ := hP
            have hD : va_D A [WCB k b0 o0 r108.2].flatten := hD
            refine lv_lload hx hb dL_areBoundsSound_237 (lv_at hl 14 rfl) ?_
            refine W.lcmp hx hb dL_areBoundsSound_239 ?_
            refine lv_if_le (tgt := 245) hx hb dL_areBoundsSound_240 (by decide) (fun hc => ?_) (fun hc => ?_)
            · have hc := lgm.mp hc
              have hf := ofpos hf hc
              refine lv_aload_n hx hb dL_areBoundsSound_245 rfl (lv_at hl 0 rfl) ?_
              refine lv_iload_n hx hb dL_areBoundsSound_246 rfl (lv_at hl 1 rfl) ?_
              refine lv_iload hx hb dL_areBoundsSound_247 (lv_at hl 11 rfl) ?_
              refine lv_iconst (v := 1) hx hb dL_areBoundsSound_249 (by decide) ?_
              refine lv_iconst (v := 0) hx hb dL_areBoundsSound_250 (by decide) ?_
              obtain ⟨r109, hg_r109, hf⟩ := ofbind hf
              refine kcV (bs := [WCB k b0 o0 r108.2]) (br := []) (bc := [WCB k b0 o0 r108.2]) (bc' := [WCB k b0 o0 r109.2]) X hP hD hS (c_W_boundAfter l D k t b0 o0 r108.2 j85 j95 1 0 N r109 hg_r109) mv_L_30 hl [] [0] 7 ⟨rfl, rfl⟩ ⟨Nat.le_of_ble_eq_true rfl, Nat.le_of_ble_eq_true rfl⟩ rfl rfl rfl rfl rfl rfl rfl (Nat.le_of_ble_eq_true rfl) dL_areBoundsSound_251 (fun H locs hP hD hS => ?_)
              have hP : va_P D vwCl [WCB k b0 o0 r109.2].flatten _ := hP
              have hD : va_D A [WCB k b0 o0 r109.2].flatten := hD
              refine lv_aload_n hx hb dL_areBoundsSound_254 rfl (lv_at hl 0 rfl) ?_
              refine lv_iload_n hx hb dL_areBoundsSound_255 rfl (lv_at hl 1 rfl) ?_
              refine lv_iload hx hb dL_areBoundsSound_256 (lv_at hl 11 rfl) ?_
              obtain ⟨r110, hg_r110, hf⟩ := ofbind hf
              refine kcV (bs := [WCB k b0 o0 r109.2]) (br := []) (bc := [WCB k b0 o0 r109.2]) (bc' := [WCB k b0 o0 r110.2]) X hP hD hS (c_W_leastPlace l D k t b0 o0 r109.2 j85 j95 N r110 hg_r110) mv_L_34 hl [] [0] 7 ⟨rfl, rfl⟩ ⟨Nat.le_of_ble_eq_true rfl, Nat.le_of_ble_eq_true rfl⟩ rfl rfl rfl rfl rfl rfl rfl (Nat.le_of_ble_eq_true rfl) dL_areBoundsSound_258 (fun H locs hP hD hS => ?_)
              have hP : va_P D vwCl [WCB k b0 o0 r110.2].flatten _ := hP
              have hD : va_D A [WCB k b0 o0 r110.2].flatten := hD
              refine W.lcmp hx hb dL_areBoundsSound_261 ?_
              refine lv_if_ne (tgt := 292) hx hb dL_areBoundsSound_262 (by decide) (fun hc => ?_) (fun hc => ?_)
              · have hc := fun z => hc (lgq.mpr z)
                have hf := ofneg hf hc
                refine lv_iconst (v := 0) hx hb dL_areBoundsSound_292 (by decide) ?_
                have hf := Option.some.inj hf
                subst hf
                exact kzret (v := 0) X hP hD hS rfl dL_areBoundsSound_293
              · have hc := lgq.mp hc
                have hf := ofpos hf hc
                refine lv_aload_n hx hb dL_areBoundsSound_265 rfl (lv_at hl 0 rfl) ?_
                refine lv_iload_n hx hb dL_areBoundsSound_266 rfl (lv_at hl 1 rfl) ?_
                refine lv_iload hx hb dL_areBoundsSound_267 (lv_at hl 11 rfl) ?_
                refine lv_iconst (v := 0) hx hb dL_areBoundsSound_269 (by decide) ?_
                refine lv_iconst (v := 0) hx hb dL_areBoundsSound_270 (by decide) ?_
                obtain ⟨r111, hg_r111, hf⟩ := ofbind hf
                refine kcV (bs := [WCB k b0 o0 r110.2]) (br := []) (bc := [WCB k b0 o0 r110.2]) (bc' := [WCB k b0 o0 r111.2]) X hP hD hS (c_W_boundAfter l D k t b0 o0 r110.2 j85 j95 0 0 N r111 hg_r111) mv_L_30 hl [] [0] 7 ⟨rfl, rfl⟩ ⟨Nat.le_of_ble_eq_true rfl, Nat.le_of_ble_eq_true rfl⟩ rfl rfl rfl rfl rfl rfl rfl (Nat.le_of_ble_eq_true rfl) dL_areBoundsSound_271 (fun H locs hP hD hS => ?_)
                have hP : va_P D vwCl [WCB k b0 o0 r111.2].flatten _ := hP
                have hD : va_D A [WCB k b0 o0 r111.2].flatten := hD
                refine lv_lconst (v := 0) hx hb dL_areBoundsSound_274 (by decide) ?_
                refine W.lcmp hx hb dL_areBoundsSound_275 ?_
                refine lv_if_ne (tgt := 292) hx hb dL_areBoundsSound_276 (by decide) (fun hc => ?_) (fun hc => ?_)
                · have hc := fun z => hc (lgq.mpr z)
                  have hf := ofneg hf hc
                  refine lv_iconst (v := 0) hx hb dL_areBoundsSound_292 (by decide) ?_
                  have hf := Option.some.inj hf
                  subst hf
                  exact kzret (v := 0) X hP hD hS rfl dL_areBoundsSound_293
                · have hc := lgq.mp hc
                  have hf := ofpos hf hc
                  refine lv_aload_n hx hb dL_areBoundsSound_279 rfl (lv_at hl 0 rfl) ?_
                  refine lv_iload_n hx hb dL_areBoundsSound_280 rfl (lv_at hl 1 rfl) ?_
                  refine lv_iload hx hb dL_areBoundsSound_281 (lv_at hl 11 rfl) ?_
                  obtain ⟨r112, hg_r112, hf⟩ := ofbind hf
                  refine kcV (bs := [WCB k b0 o0 r111.2]) (br := []) (bc := [WCB k b0 o0 r111.2]) (bc' := [WCB k b0 o0 r112.2]) X hP hD hS (c_W_leastPlace l D k t b0 o0 r111.2 j85 j95 N r112 hg_r112) mv_L_34 hl [] [0] 7 ⟨rfl, rfl⟩ ⟨Nat.le_of_ble_eq_true rfl, Nat.le_of_ble_eq_true rfl⟩ rfl rfl rfl rfl rfl rfl rfl (Nat.le_of_ble_eq_true rfl) dL_areBoundsSound_283 (fun H locs hP hD hS => ?_)
                  have hP : va_P D vwCl [WCB k b0 o0 r112.2].flatten _ := hP
                  have hD : va_D A [WCB k b0 o0 r112.2].flatten := hD
                  refine lv_lload hx hb dL_areBoundsSound_286 (lv_at hl 14 rfl) ?_
                  refine W.lcmp hx hb dL_areBoundsSound_288 ?_
                  refine lv_if_ge (tgt := 294) hx hb dL_areBoundsSound_289 (by decide) (fun hc => ?_) (fun hc => ?_)
                  · have hc := lge.mp hc
                    have hf := ofpos hf hc
                    refine lv_lload hx hb dL_areBoundsSound_294 (lv_at hl 6 rfl) ?_
                    refine lv_lload hx hb dL_areBoundsSound_296 (lv_at hl 12 rfl) ?_
                    refine lv_ladd hx hb dL_areBoundsSound_298 ?_
                    refine lv_lstore (lv' := [(6, .long (j90 + j96)), (0, .ref (b0 o0)), (1, .int j85), (2, .int j86), (3, .int j87), (4, .int j88), (5, .int j89), (8, .long j91), (10, .long j92), (12, .long j93), (14, .int j94), (15, .int j95), (16, .long j96), (18, .long j97), (20, .long j98), (22, .int j99), (23, .int j100)]) hx hb dL_areBoundsSound_299 hl (by decide) rfl (fun ls hl => ?_)
                    refine lv_lload hx hb dL_areBoundsSound_301 (lv_at hl 7 rfl) ?_
                    refine lv_lload hx hb dL_areBoundsSound_303 (lv_at hl 13 rfl) ?_
                    refine lv_ladd hx hb dL_areBoundsSound_305 ?_
                    refine lv_lstore (lv' := [(8, .long (j91 + j97)), (6, .long (j90 + j96)), (0, .ref (b0 o0)), (1, .int j85), (2, .int j86), (3, .int j87), (4, .int j88), (5, .int j89), (10, .long j92), (12, .long j93), (14, .int j94), (15, .int j95), (16, .long j96), (18, .long j97), (20, .long j98), (22, .int j99), (23, .int j100)]) hx hb dL_areBoundsSound_306 hl (by decide) rfl (fun ls hl => ?_)
                    refine lv_lload hx hb dL_areBoundsSound_308 (lv_at hl 8 rfl) ?_
                    refine lv_lload hx hb dL_areBoundsSound_310 (lv_at hl 14 rfl) ?_
                    refine lv_ladd hx hb dL_areBoundsSound_312 ?_
                    refine lv_lstore (lv' := [(10, .long (j92 + j98)), (8, .long (j91 + j97)), (6, .long (j90 + j96)), (0, .ref (b0 o0)), (1, .int j85), (2, .int j86), (3, .int j87), (4, .int j88), (5, .int j89), (12, .long j93), (14, .int j94), (15, .int j95), (16, .long j96), (18, .long j97), (20, .long j98), (22, .int j99), (23, .int j100)]) hx hb dL_areBoundsSound_313 hl (by decide) rfl (fun ls hl => ?_)
                    refine lv_lload hx hb dL_areBoundsSound_315 (lv_at hl 14 rfl) ?_
                    refine lv_lload hx hb dL_areBoundsSound_317 (lv_at hl 13 rfl) ?_
                    refine lv_lsub hx hb dL_areBoundsSound_319 ?_
                    refine lv_lload hx hb dL_areBoundsSound_320 (lv_at hl 9 rfl) ?_
                    refine W.lcmp hx hb dL_areBoundsSound_322 ?_
                    refine lv_if_le (tgt := 331) hx hb dL_areBoundsSound_323 (by decide) (fun hc => ?_) (fun hc => ?_)
                    · have hc := lgm.mp hc
                      have hf := ofpos hf hc
                      refine lv_iload hx hb dL_areBoundsSound_331 (lv_at hl 10 rfl) ?_
                      exact w_L_areBoundsSound_J333 X b0 o0 s0 N j85 j86 j87 j88 j89 (j90 + j96) (j91 + j97) (j92 + j98) j93 j95 j97 j98 j94 r112.2 out _ hB39 _ _ _ hP hD hS (lv_sub hl [3, 4, 5, 6, 7, 8, 2, 1, 0, 9, 11, 13, 14] rfl) hf
                    · have hc := fun z => hc (lgm.mpr z)
                      have hf := ofneg hf hc
                      refine lv_iload hx hb dL_areBoundsSound_326 (lv_at hl 11 rfl) ?_
                      refine lv_goto (tgt := 333) hx hb dL_areBoundsSound_328 (by decide) ?_
                      exact w_L_areBoundsSound_J333 X b0 o0 s0 N j85 j86 j87 j88 j89 (j90 + j96) (j91 + j97) (j92 + j98) j93 j95 j97 j98 j95 r112.2 out _ hB39 _ _ _ hP hD hS (lv_sub hl [3, 4, 5, 6, 7, 8, 2, 1, 0, 9, 11, 13, 14] rfl) hf
                  · have hc := fun z => hc (lge.mpr z)
                    have hf := ofneg hf hc
                    refine lv_iconst (v := 0) hx hb dL_areBoundsSound_292 (by decide) ?_
                    have hf := Option.some.inj hf
                    subst hf
                    exact kzret (v := 0) X hP hD hS rfl dL_areBoundsSound_293
            · have hc := fun z => hc (lgm.mpr z)
              have hf := ofneg hf hc
              refine lv_iconst (v := 0) hx hb dL_areBoundsSound_243 (by decide) ?_
              have hf := Option.some.inj hf
              subst hf
              exact kzret (v := 0) X hP hD hS rfl dL_areBoundsSound_244
    · have hc := fun z => hc (lgq.mpr z)
      have hf := ofneg hf hc
      refine lv_iconst (v := 0) hx hb dL_areBoundsSound_177 (by decide) ?_
      have hf := Option.some.inj hf
      subst hf
      exact kzret (v := 0) X hP hD hS rfl dL_areBoundsSound_178
set_option maxRecDepth 100000 in
set_option maxHeartbeats 8000000 in
theorem w_L_areBoundsSound_J141 {p : Program} {l : Launch} {e : Env} {s : State} {m : MethodId} {below : List Frame} {meth : Method} {c : Code} {args : Array Value} {A : Nat → Prop} {D : va_G} {k : Nat → ClassId} {t : Nat → Nat} (X : BX l D k t p s m args meth c cL_areBoundsSound 24 RL (some .boolean) A) (b0 : Nat → Nat) (o0 : Nat) (s0 : CBS) (N : Nat) (j67 : Int32) (j68 : Int32) (j69 : Int32) (j70 : Int32) (j71 : Int32) (j72 : Int64) (j73 : Int64) (j74 : Int64) (j75 : Int64) (j76 : Int32) (j77 : Int32) (j78 : Int64) (j79 : Int64) (j80 : Int64) (j81 : Int32) (j82 : Int32) (t83 : Int32) (c84 : CBS) (out : Int32 × CBS) (B39 : Int64 → Int64 → Int64 → Int64 → Int32 → Int32 → CBS → Option (Int32 × CBS)) (hB39 : ∀ (i24' : Int64) (i25' : Int64) (i26' : Int64) (i27' : Int64) (i28' : Int32) (i29' : Int32) (c30' : CBS) (H : Heap) (locs : List Loc) (ls : Array Slot), va_P D vwCl [WCB k b0 o0 c30'].flatten H → va_D A [WCB k b0 o0 c30'].flatten → va_S A s.heap H locs → lv_has ls 24 [(0, .ref (b0 o0)), (1, .int j67), (2, .int j68), (3, .int j69), (4, .int j70), (5, .int j71), (6, .long i24'), (8, .long i25'), (10, .long i26'), (12, .long i27'), (14, .int i28'), (15, .int i29')] → B39 i24' i25' i26' i27' i28' i29' c30' = some out → W p l e rm_L_areBoundsSound s m args below meth c H locs 0 0 (Q_L_areBoundsSound below D k A args s b0 o0 s0 out) (F0 m 39 ls [])) : ∀ (H : Heap) (locs : List Loc) (ls : Array Slot), va_P D vwCl [WCB k b0 o0 c84].flatten H → va_D A [WCB k b0 o0 c84].flatten → va_S A s.heap H locs → lv_has ls 24 [(0, .ref (b0 o0)), (1, .int j67), (2, .int j68), (3, .int j69), (4, .int j70), (5, .int j71), (6, .long j72), (8, .long j73), (10, .long j74), (12, .long j75), (14, .int j76), (15, .int j77), (16, .long j78), (18, .long j79), (20, .long j80), (22, .int j81), (23, .int j82)] → f_L_areBoundsSound_J141 N j67 j72 j73 j74 j75 j76 j77 j78 j79 j80 j81 j82 t83 c84 B39 = some out → W p l e rm_L_areBoundsSound s m args below meth c H locs 0 0 (Q_L_areBoundsSound below D k A args s b0 o0 s0 out) (F0 m 141 ls [.int t83]) := by
  have hx := X.1.1
  have hb := X.1.2.1
  have hml := X.1.2.2.1
  have hown := X.1.2.2.2.1
  have hts := X.1.2.2.2.2
  intro H locs ls hP hD hS hl hf
  rw [f_L_areBoundsSound_J141] at hf
  refine lv_lload hx hb dL_areBoundsSound_141 (lv_at hl 13 rfl) ?_
  refine lv_lload hx hb dL_areBoundsSound_143 (lv_at hl 14 rfl) ?_
  refine W.lcmp hx hb dL_areBoundsSound_145 ?_
  refine lv_if_ne (tgt := 153) hx hb dL_areBoundsSound_146 (by decide) (fun hc => ?_) (fun hc => ?_)
  · have hc := fun z => hc (lgq.mpr z)
    have hf := ofneg hf hc
    refine lv_iconst (v := 0) hx hb dL_areBoundsSound_153 (by decide) ?_
    exact w_L_areBoundsSound_J154 X b0 o0 s0 N j67 j68 j69 j70 j71 j72 j73 j74 j75 j76 j77 j78 j79 j80 j81 j82 t83 0 c84 out _ hB39 _ _ _ hP hD hS (lv_sub hl [0, 1, 2, 3, 4, 5, 6, 7, 8, 9, 10, 11, 12, 13, 14, 15, 16] rfl) hf
  · have hc := lgq.mp hc
    have hf := ofpos hf hc
    refine lv_iconst (v := 1) hx hb dL_areBoundsSound_149 (by decide) ?_
    refine lv_goto (tgt := 154) hx hb dL_areBoundsSound_150 (by decide) ?_
    exact w_L_areBoundsSound_J154 X b0 o0 s0 N j67 j68 j69 j70 j71 j72 j73 j74 j75 j76 j77 j78 j79 j80 j81 j82 t83 1 c84 out _ hB39 _ _ _ hP hD hS (lv_sub hl [0, 1, 2, 3, 4, 5, 6, 7, 8, 9, 10, 11, 12, 13, 14, 15, 16] rfl) hf
set_option maxRecDepth 100000 in
set_option maxHeartbeats 8000000 in
theorem w_L_areBoundsSound_J101 {p : Program} {l : Launch} {e : Env} {s : State} {m : MethodId} {below : List Frame} {meth : Method} {c : Code} {args : Array Value} {A : Nat → Prop} {D : va_G} {k : Nat → ClassId} {t : Nat → Nat} (X : BX l D k t p s m args meth c cL_areBoundsSound 24 RL (some .boolean) A) (b0 : Nat → Nat) (o0 : Nat) (s0 : CBS) (N : Nat) (j50 : Int32) (j51 : Int32) (j52 : Int32) (j53 : Int32) (j54 : Int32) (j55 : Int64) (j56 : Int64) (j57 : Int64) (j58 : Int64) (j59 : Int32) (j60 : Int32) (j61 : Int64) (j62 : Int64) (j63 : Int64) (j64 : Int32) (t65 : Int32) (c66 : CBS) (out : Int32 × CBS) (B39 : Int64 → Int64 → Int64 → Int64 → Int32 → Int32 → CBS → Option (Int32 × CBS)) (hB39 : ∀ (i24' : Int64) (i25' : Int64) (i26' : Int64) (i27' : Int64) (i28' : Int32) (i29' : Int32) (c30' : CBS) (H : Heap) (locs : List Loc) (ls : Array Slot), va_P D vwCl [WCB k b0 o0 c30'].flatten H → va_D A [WCB k b0 o0 c30'].flatten → va_S A s.heap H locs → lv_has ls 24 [(0, .ref (b0 o0)), (1, .int j50), (2, .int j51), (3, .int j52), (4, .int j53), (5, .int j54), (6, .long i24'), (8, .long i25'), (10, .long i26'), (12, .long i27'), (14, .int i28'), (15, .int i29')] → B39 i24' i25' i26' i27' i28' i29' c30' = some out → W p l e rm_L_areBoundsSound s m args below meth c H locs 0 0 (Q_L_areBoundsSound below D k A args s b0 o0 s0 out) (F0 m 39 ls [])) : ∀ (H : Heap) (locs : List Loc) (ls : Array Slot), va_P D vwCl [WCB k b0 o0 c66].flatten H → va_D A [WCB k b0 o0 c66].flatten → va_S A s.heap H locs → lv_has ls 24 [(0, .ref (b0 o0)), (1, .int j50), (2, .int j51), (3, .int j52), (4, .int j53), (5, .int j54), (6, .long j55), (8, .long j56), (10, .long j57), (12, .long j58), (14, .int j59), (15, .int j60), (16, .long j61), (18, .long j62), (20, .long j63), (22, .int j64)] → f_L_areBoundsSound_J101 N j50 j52 j55 j56 j57 j58 j59 j60 j61 j62 j63 j64 t65 c66 B39 = some out → W p l e rm_L_areBoundsSound s m args below meth c H locs 0 0 (Q_L_areBoundsSound below D k A args s b0 o0 s0 out) (F0 m 101 ls [.int t65]) := by
  have hx := X.1.1
  have hb := X.1.2.1
  have hml := X.1.2.2.1
  have hown := X.1.2.2.2.1
  have hts := X.1.2.2.2.2
  intro H locs ls hP hD hS hl hf
  rw [f_L_areBoundsSound_J101] at hf
  refine lv_istore (lv' := [(23, .int t65), (0, .ref (b0 o0)), (1, .int j50), (2, .int j51), (3, .int j52), (4, .int j53), (5, .int j54), (6, .long j55), (8, .long j56), (10, .long j57), (12, .long j58), (14, .int j59), (15, .int j60), (16, .long j61), (18, .long j62), (20, .long j63), (22, .int j64)]) hx hb dL_areBoundsSound_101 hl (by decide) rfl (fun ls hl => ?_)
  refine lv_lload hx hb dL_areBoundsSound_103 (lv_at hl 14 rfl) ?_
  refine lv_lconst (v := 0) hx hb dL_areBoundsSound_105 (by decide) ?_
  refine W.lcmp hx hb dL_areBoundsSound_106 ?_
  refine lv_if_lt (tgt := 177) hx hb dL_areBoundsSound_107 (by decide) (fun hc => ?_) (fun hc => ?_)
  · have hc := lgl.mp hc
    have hf := ofpos hf hc
    refine lv_iconst (v := 0) hx hb dL_areBoundsSound_177 (by decide) ?_
    have hf := Option.some.inj hf
    subst hf
    exact kzret (v := 0) X hP hD hS rfl dL_areBoundsSound_178
  · have hc := fun z => hc (lgl.mpr z)
    have hf := ofneg hf hc
    refine lv_lload hx hb dL_areBoundsSound_110 (lv_at hl 14 rfl) ?_
    refine lv_lload hx hb dL_areBoundsSound_112 (lv_at hl 13 rfl) ?_
    refine W.lcmp hx hb dL_areBoundsSound_114 ?_
    refine lv_if_gt (tgt := 177) hx hb dL_areBoundsSound_115 (by decide) (fun hc => ?_) (fun hc => ?_)
    · have hc := lgg.mp hc
      have hf := ofpos hf hc
      refine lv_iconst (v := 0) hx hb dL_areBoundsSound_177 (by decide) ?_
      have hf := Option.some.inj hf
      subst hf
      exact kzret (v := 0) X hP hD hS rfl dL_areBoundsSound_178
    · have hc := fun z => hc (lgg.mpr z)
      have hf := ofneg hf hc
      refine lv_lload hx hb dL_areBoundsSound_118 (lv_at hl 15 rfl) ?_
      refine lv_lload hx hb dL_areBoundsSound_120 (lv_at hl 13 rfl) ?_
      refine W.lcmp hx hb dL_areBoundsSound_122 ?_
      refine lv_if_lt (tgt := 177) hx hb dL_areBoundsSound_123 (by decide) (fun hc => ?_) (fun hc => ?_)
      · have hc := lgl.mp hc
        have hf := ofpos hf hc
        refine lv_iconst (v := 0) hx hb dL_areBoundsSound_177 (by decide) ?_
        have hf := Option.some.inj hf
        subst hf
        exact kzret (v := 0) X hP hD hS rfl dL_areBoundsSound_178
      · have hc := fun z => hc (lgl.mpr z)
        have hf := ofneg hf hc
        refine lv_iload_n hx hb dL_areBoundsSound_126 rfl (lv_at hl 4 rfl) ?_
        refine lv_iload hx hb dL_areBoundsSound_127 (lv_at hl 12 rfl) ?_
        refine lv_ishr hx hb dL_areBoundsSound_129 ?_
        refine lv_iconst (v := 1) hx hb dL_areBoundsSound_130 (by decide) ?_
        refine lv_iand hx hb dL_areBoundsSound_131 ?_
        refine lv_iconst (v := 1) hx hb dL_areBoundsSound_132 (by decide) ?_
        refine lv_icmp_ne (tgt := 140) hx hb dL_areBoundsSound_133 (by decide) (fun hc => ?_) (fun hc => ?_)
        · have hf := ofneg hf hc
          refine lv_iconst (v := 0) hx hb dL_areBoundsSound_140 (by decide) ?_
          exact w_L_areBoundsSound_J141 X b0 o0 s0 N j50 j51 j52 j53 j54 j55 j56 j57 j58 j59 j60 j61 j62 j63 j64 t65 0 c66 out _ hB39 _ _ _ hP hD hS (lv_sub hl [1, 2, 3, 4, 5, 6, 7, 8, 9, 10, 11, 12, 13, 14, 15, 16, 0] rfl) hf
        · have hf := ofpos hf hc
          refine lv_iconst (v := 1) hx hb dL_areBoundsSound_136 (by decide) ?_
          refine lv_goto (tgt := 141) hx hb dL_areBoundsSound_137 (by decide) ?_
          exact w_L_areBoundsSound_J141 X b0 o0 s0 N j50 j51 j52 j53 j54 j55 j56 j57 j58 j59 j60 j61 j62 j63 j64 t65 1 c66 out _ hB39 _ _ _ hP hD hS (lv_sub hl [1, 2, 3, 4, 5, 6, 7, 8, 9, 10, 11, 12, 13, 14, 15, 16, 0] rfl) hf
set_option maxRecDepth 100000 in
set_option maxHeartbeats 8000000 in
theorem w_L_areBoundsSound_J87 {p : Program} {l : Launch} {e : Env} {s : State} {m : MethodId} {below : List Frame} {meth : Method} {c : Code} {args : Array Value} {A : Nat → Prop} {D : va_G} {k : Nat → ClassId} {t : Nat → Nat} (X : BX l D k t p s m args meth c cL_areBoundsSound 24 RL (some .boolean) A) (b0 : Nat → Nat) (o0 : Nat) (s0 : CBS) (N : Nat) (j34 : Int32) (j35 : Int32) (j36 : Int32) (j37 : Int32) (j38 : Int32) (j39 : Int64) (j40 : Int64) (j41 : Int64) (j42 : Int64) (j43 : Int32) (j44 : Int32) (j45 : Int64) (j46 : Int64) (j47 : Int64) (t48 : Int32) (c49 : CBS) (out : Int32 × CBS) (B39 : Int64 → Int64 → Int64 → Int64 → Int32 → Int32 → CBS → Option (Int32 × CBS)) (hB39 : ∀ (i24' : Int64) (i25' : Int64) (i26' : Int64) (i27' : Int64) (i28' : Int32) (i29' : Int32) (c30' : CBS) (H : Heap) (locs : List Loc) (ls : Array Slot), va_P D vwCl [WCB k b0 o0 c30'].flatten H → va_D A [WCB k b0 o0 c30'].flatten → va_S A s.heap H locs → lv_has ls 24 [(0, .ref (b0 o0)), (1, .int j34), (2, .int j35), (3, .int j36), (4, .int j37), (5, .int j38), (6, .long i24'), (8, .long i25'), (10, .long i26'), (12, .long i27'), (14, .int i28'), (15, .int i29')] → B39 i24' i25' i26' i27' i28' i29' c30' = some out → W p l e rm_L_areBoundsSound s m args below meth c H locs 0 0 (Q_L_areBoundsSound below D k A args s b0 o0 s0 out) (F0 m 39 ls [])) : ∀ (H : Heap) (locs : List Loc) (ls : Array Slot), va_P D vwCl [WCB k b0 o0 c49].flatten H → va_D A [WCB k b0 o0 c49].flatten → va_S A s.heap H locs → lv_has ls 24 [(0, .ref (b0 o0)), (1, .int j34), (2, .int j35), (3, .int j36), (4, .int j37), (5, .int j38), (6, .long j39), (8, .long j40), (10, .long j41), (12, .long j42), (14, .int j43), (15, .int j44), (16, .long j45), (18, .long j46), (20, .long j47)] → f_L_areBoundsSound_J87 N j34 j35 j36 j38 j39 j40 j41 j42 j43 j44 j45 j46 j47 t48 c49 B39 = some out → W p l e rm_L_areBoundsSound s m args below meth c H locs 0 0 (Q_L_areBoundsSound below D k A args s b0 o0 s0 out) (F0 m 87 ls [.int t48]) := by
  have hx := X.1.1
  have hb := X.1.2.1
  have hml := X.1.2.2.1
  have hown := X.1.2.2.2.1
  have hts := X.1.2.2.2.2
  intro H locs ls hP hD hS hl hf
  rw [f_L_areBoundsSound_J87] at hf
  refine lv_istore (lv' := [(22, .int t48), (0, .ref (b0 o0)), (1, .int j34), (2, .int j35), (3, .int j36), (4, .int j37), (5, .int j38), (6, .long j39), (8, .long j40), (10, .long j41), (12, .long j42), (14, .int j43), (15, .int j44), (16, .long j45), (18, .long j46), (20, .long j47)]) hx hb dL_areBoundsSound_87 hl (by decide) rfl (fun ls hl => ?_)
  refine lv_iload_n hx hb dL_areBoundsSound_89 rfl (lv_at hl 3 rfl) ?_
  refine lv_iload hx hb dL_areBoundsSound_90 (lv_at hl 6 rfl) ?_
  refine lv_icmp_le (tgt := 99) hx hb dL_areBoundsSound_92 (by decide) (fun hc => ?_) (fun hc => ?_)
  · have hf := ofpos hf hc
    refine lv_iload hx hb dL_areBoundsSound_99 (lv_at hl 6 rfl) ?_
    exact w_L_areBoundsSound_J101 X b0 o0 s0 N j34 j35 j36 j37 j38 j39 j40 j41 j42 j43 j44 j45 j46 j47 t48 j38 c49 out _ hB39 _ _ _ hP hD hS (lv_sub hl [1, 2, 3, 4, 5, 6, 7, 8, 9, 10, 11, 12, 13, 14, 15, 0] rfl) hf
  · have hf := ofneg hf hc
    refine lv_iload_n hx hb dL_areBoundsSound_95 rfl (lv_at hl 3 rfl) ?_
    refine lv_goto (tgt := 101) hx hb dL_areBoundsSound_96 (by decide) ?_
    exact w_L_areBoundsSound_J101 X b0 o0 s0 N j34 j35 j36 j37 j38 j39 j40 j41 j42 j43 j44 j45 j46 j47 t48 j35 c49 out _ hB39 _ _ _ hP hD hS (lv_sub hl [1, 2, 3, 4, 5, 6, 7, 8, 9, 10, 11, 12, 13, 14, 15, 0] rfl) hf
set_option maxRecDepth 100000 in
set_option maxHeartbeats 8000000 in
theorem w_L_areBoundsSound_L39 {p : Program} {l : Launch} {e : Env} {s : State} {m : MethodId} {below : List Frame} {meth : Method} {c : Code} {args : Array Value} {A : Nat → Prop} {D : va_G} {k : Nat → ClassId} {t : Nat → Nat} (X : BX l D k t p s m args meth c cL_areBoundsSound 24 RL (some .boolean) A) (b0 : Nat → Nat) (o0 : Nat) (s0 : CBS) (N : Nat) (i19 : Int32) (i20 : Int32) (i21 : Int32) (i22 : Int32) (i23 : Int32) (out : Int32 × CBS) (K364 : Int64 → Int64 → Int64 → Int64 → Int32 → Int32 → CBS → Option (Int32 × CBS)) (hK364 : ∀ (i24' : Int64) (i25' : Int64) (i26' : Int64) (i27' : Int64) (i28' : Int32) (i29' : Int32) (c30' : CBS) (H : Heap) (locs : List Loc) (ls : Array Slot), va_P D vwCl [WCB k b0 o0 c30'].flatten H → va_D A [WCB k b0 o0 c30'].flatten → va_S A s.heap H locs → lv_has ls 24 [(0, .ref (b0 o0)), (1, .int i19), (3, .int i21), (4, .int i22), (5, .int i23), (6, .long i24'), (8, .long i25'), (10, .long i26'), (14, .int i28')] → K364 i24' i25' i26' i27' i28' i29' c30' = some out → W p l e rm_L_areBoundsSound s m args below meth c H locs 0 0 (Q_L_areBoundsSound below D k A args s b0 o0 s0 out) (F0 m 364 ls [])) : ∀ (n : Nat) (i24 : Int64) (i25 : Int64) (i26 : Int64) (i27 : Int64) (i28 : Int32) (i29 : Int32) (c30 : CBS) (H : Heap) (locs : List Loc) (ls : Array Slot), va_P D vwCl [WCB k b0 o0 c30].flatten H → va_D A [WCB k b0 o0 c30].flatten → va_S A s.heap H locs → lv_has ls 24 [(0, .ref (b0 o0)), (1, .int i19), (2, .int i20), (3, .int i21), (4, .int i22), (5, .int i23), (6, .long i24), (8, .long i25), (10, .long i26), (12, .long i27), (14, .int i28), (15, .int i29)] → f_L_areBoundsSound_L39 N i19 i20 i21 i22 i23 K364 n i24 i25 i26 i27 i28 i29 c30 = some out → W p l e rm_L_areBoundsSound s m args below meth c H locs 0 0 (Q_L_areBoundsSound below D k A args s b0 o0 s0 out) (F0 m 39 ls []) := by
  have hx := X.1.1
  have hb := X.1.2.1
  have hml := X.1.2.2.1
  have hown := X.1.2.2.2.1
  have hts := X.1.2.2.2.2
  intro n
  induction n with
  | zero =>
    intro i24 i25 i26 i27 i28 i29 c30 H locs ls hP hD hS hl hf
    rw [f_L_areBoundsSound_L39] at hf
    cases hf
  | succ n ih =>
    intro i24 i25 i26 i27 i28 i29 c30 H locs ls hP hD hS hl hf
    rw [f_L_areBoundsSound_L39] at hf
    refine lv_iload hx hb dL_areBoundsSound_39 (lv_at hl 11 rfl) ?_
    refine lv_iload hx hb dL_areBoundsSound_41 (lv_at hl 4 rfl) ?_
    refine lv_icmp_ge (tgt := 364) hx hb dL_areBoundsSound_43 (by decide) (fun hc => ?_) (fun hc => ?_)
    · have hf := ofpos hf hc
      exact hK364 i24 i25 i26 i27 i28 i29 c30 _ _ _ hP hD hS (lv_sub hl [0, 1, 3, 4, 5, 6, 7, 8, 10] rfl) hf
    · have hf := ofneg hf hc
      refine lv_aload_n hx hb dL_areBoundsSound_46 rfl (lv_at hl 0 rfl) ?_
      refine lv_iload_n hx hb dL_areBoundsSound_47 rfl (lv_at hl 1 rfl) ?_
      refine lv_iload hx hb dL_areBoundsSound_48 (lv_at hl 11 rfl) ?_
      obtain ⟨r31, hg_r31, hf⟩ := ofbind hf
      refine kcV (bs := [WCB k b0 o0 c30]) (br := []) (bc := [WCB k b0 o0 c30]) (bc' := [WCB k b0 o0 c30]) X hP hD hS (c_W_truth l D k t b0 o0 c30 i19 i29 N r31 hg_r31) mv_L_17 hl [] [0] 7 ⟨rfl, rfl⟩ ⟨Nat.le_of_ble_eq_true rfl, Nat.le_of_ble_eq_true rfl⟩ rfl rfl rfl rfl rfl rfl rfl (Nat.le_of_ble_eq_true rfl) dL_areBoundsSound_50 (fun H locs hP hD hS => ?_)
      have hP : va_P D vwCl [WCB k b0 o0 c30].flatten _ := hP
      have hD : va_D A [WCB k b0 o0 c30].flatten := hD
      refine lv_lstore (lv' := [(16, .long r31), (0, .ref (b0 o0)), (1, .int i19), (2, .int i20), (3, .int i21), (4, .int i22), (5, .int i23), (6, .long i24), (8, .long i25), (10, .long i26), (12, .long i27), (14, .int i28), (15, .int i29)]) hx hb dL_areBoundsSound_53 hl (by decide) rfl (fun ls hl => ?_)
      refine lv_aload_n hx hb dL_areBoundsSound_55 rfl (lv_at hl 1 rfl) ?_
      refine lv_iload_n hx hb dL_areBoundsSound_56 rfl (lv_at hl 2 rfl) ?_
      refine lv_iload hx hb dL_areBoundsSound_57 (lv_at hl 12 rfl) ?_
      refine lv_iconst (v := 0) hx hb dL_areBoundsSound_59 (by decide) ?_
      obtain ⟨r32, hg_r32, hf⟩ := ofbind hf
      refine kcV (bs := [WCB k b0 o0 c30]) (br := []) (bc := [WCB k b0 o0 c30]) (bc' := [WCB k b0 o0 r32.2]) X hP hD hS (c_W_bound l D k t b0 o0 c30 i19 i29 0 N r32 hg_r32) mv_L_21 hl [] [0] 7 ⟨rfl, rfl⟩ ⟨Nat.le_of_ble_eq_true rfl, Nat.le_of_ble_eq_true rfl⟩ rfl rfl rfl rfl rfl rfl rfl (Nat.le_of_ble_eq_true rfl) dL_areBoundsSound_60 (fun H locs hP hD hS => ?_)
      have hP : va_P D vwCl [WCB k b0 o0 r32.2].flatten _ := hP
      have hD : va_D A [WCB k b0 o0 r32.2].flatten := hD
      refine lv_lstore (lv' := [(18, .long r32.1), (16, .long r31), (0, .ref (b0 o0)), (1, .int i19), (2, .int i20), (3, .int i21), (4, .int i22), (5, .int i23), (6, .long i24), (8, .long i25), (10, .long i26), (12, .long i27), (14, .int i28), (15, .int i29)]) hx hb dL_areBoundsSound_63 hl (by decide) rfl (fun ls hl => ?_)
      refine lv_aload_n hx hb dL_areBoundsSound_65 rfl (lv_at hl 2 rfl) ?_
      refine lv_iload_n hx hb dL_areBoundsSound_66 rfl (lv_at hl 3 rfl) ?_
      refine lv_iload hx hb dL_areBoundsSound_67 (lv_at hl 13 rfl) ?_
      refine lv_iconst (v := 1) hx hb dL_areBoundsSound_69 (by decide) ?_
      obtain ⟨r33, hg_r33, hf⟩ := ofbind hf
      refine kcV (bs := [WCB k b0 o0 r32.2]) (br := []) (bc := [WCB k b0 o0 r32.2]) (bc' := [WCB k b0 o0 r33.2]) X hP hD hS (c_W_bound l D k t b0 o0 r32.2 i19 i29 1 N r33 hg_r33) mv_L_21 hl [] [0] 7 ⟨rfl, rfl⟩ ⟨Nat.le_of_ble_eq_true rfl, Nat.le_of_ble_eq_true rfl⟩ rfl rfl rfl rfl rfl rfl rfl (Nat.le_of_ble_eq_true rfl) dL_areBoundsSound_70 (fun H locs hP hD hS => ?_)
      have hP : va_P D vwCl [WCB k b0 o0 r33.2].flatten _ := hP
      have hD : va_D A [WCB k b0 o0 r33.2].flatten := hD
      refine lv_lstore (lv' := [(20, .long r33.1), (18, .long r32.1), (16, .long r31), (0, .ref (b0 o0)), (1, .int i19), (2, .int i20), (3, .int i21), (4, .int i22), (5, .int i23), (6, .long i24), (8, .long i25), (10, .long i26), (12, .long i27), (14, .int i28), (15, .int i29)]) hx hb dL_areBoundsSound_73 hl (by decide) rfl (fun ls hl => ?_)
      refine lv_iload_n hx hb dL_areBoundsSound_75 rfl (lv_at hl 5 rfl) ?_
      refine lv_iload hx hb dL_areBoundsSound_76 (lv_at hl 8 rfl) ?_
      refine lv_icmp_ge (tgt := 85) hx hb dL_areBoundsSound_78 (by decide) (fun hc => ?_) (fun hc => ?_)
      · have hf := ofpos hf hc
        refine lv_iload hx hb dL_areBoundsSound_85 (lv_at hl 8 rfl) ?_
        exact w_L_areBoundsSound_J87 X b0 o0 s0 N i19 i20 i21 i22 i23 i24 i25 i26 i27 i28 i29 r31 r32.1 r33.1 i23 r33.2 out _ ih _ _ _ hP hD hS (lv_sub hl [3, 4, 5, 6, 7, 8, 9, 10, 11, 12, 13, 14, 2, 1, 0] rfl) hf
      · have hf := ofneg hf hc
        refine lv_iload_n hx hb dL_areBoundsSound_81 rfl (lv_at hl 5 rfl) ?_
        refine lv_goto (tgt := 87) hx hb dL_areBoundsSound_82 (by decide) ?_
        exact w_L_areBoundsSound_J87 X b0 o0 s0 N i19 i20 i21 i22 i23 i24 i25 i26 i27 i28 i29 r31 r32.1 r33.1 i20 r33.2 out _ ih _ _ _ hP hD hS (lv_sub hl [3, 4, 5, 6, 7, 8, 9, 10, 11, 12, 13, 14, 2, 1, 0] rfl) hf
set_option maxRecDepth 100000 in
set_option maxHeartbeats 8000000 in
theorem w_L_areBoundsSound_L443 {p : Program} {l : Launch} {e : Env} {s : State} {m : MethodId} {below : List Frame} {meth : Method} {c : Code} {args : Array Value} {A : Nat → Prop} {D : va_G} {k : Nat → ClassId} {t : Nat → Nat} (X : BX l D k t p s m args meth c cL_areBoundsSound 24 RL (some .boolean) A) (b0 : Nat → Nat) (o0 : Nat) (s0 : CBS) (N : Nat) (i143 : Int32) (i144 : Int32) (i145 : Int32) (out : Int32 × CBS) (K502 : Int32 → CBS → Option (Int32 × CBS)) (hK502 : ∀ (i146' : Int32) (c147' : CBS) (H : Heap) (locs : List Loc) (ls : Array Slot), va_P D vwCl [WCB k b0 o0 c147'].flatten H → va_D A [WCB k b0 o0 c147'].flatten → va_S A s.heap H locs → lv_has ls 24 [] → K502 i146' c147' = some out → W p l e rm_L_areBoundsSound s m args below meth c H locs 0 0 (Q_L_areBoundsSound below D k A args s b0 o0 s0 out) (F0 m 502 ls [])) : ∀ (n : Nat) (i146 : Int32) (c147 : CBS) (H : Heap) (locs : List Loc) (ls : Array Slot), va_P D vwCl [WCB k b0 o0 c147].flatten H → va_D A [WCB k b0 o0 c147].flatten → va_S A s.heap H locs → lv_has ls 24 [(0, .ref (b0 o0)), (1, .int i143), (4, .int i144), (15, .int i145), (16, .int i146)] → f_L_areBoundsSound_L443 N i143 i144 i145 K502 n i146 c147 = some out → W p l e rm_L_areBoundsSound s m args below meth c H locs 0 0 (Q_L_areBoundsSound below D k A args s b0 o0 s0 out) (F0 m 443 ls []) := by
  have hx := X.1.1
  have hb := X.1.2.1
  have hml := X.1.2.2.1
  have hown := X.1.2.2.2.1
  have hts := X.1.2.2.2.2
  intro n
  induction n with
  | zero =>
    intro i146 c147 H locs ls hP hD hS hl hf
    rw [f_L_areBoundsSound_L443] at hf
    cases hf
  | succ n ih =>
    intro i146 c147 H locs ls hP hD hS hl hf
    rw [f_L_areBoundsSound_L443] at hf
    refine lv_iload hx hb dL_areBoundsSound_443 (lv_at hl 4 rfl) ?_
    refine lv_iload hx hb dL_areBoundsSound_445 (lv_at hl 2 rfl) ?_
    refine lv_icmp_ge (tgt := 502) hx hb dL_areBoundsSound_447 (by decide) (fun hc => ?_) (fun hc => ?_)
    · have hf := ofpos hf hc
      exact hK502 i146 c147 _ _ _ hP hD hS (lv_sub hl [] rfl) hf
    · have hf := ofneg hf hc
      refine lv_aload_n hx hb dL_areBoundsSound_450 rfl (lv_at hl 0 rfl) ?_
      refine lv_iload_n hx hb dL_areBoundsSound_451 rfl (lv_at hl 1 rfl) ?_
      refine lv_iload hx hb dL_areBoundsSound_452 (lv_at hl 4 rfl) ?_
      refine lv_iconst (v := 1) hx hb dL_areBoundsSound_454 (by decide) ?_
      refine lv_iload hx hb dL_areBoundsSound_455 (lv_at hl 3 rfl) ?_
      obtain ⟨r148, hg_r148, hf⟩ := ofbind hf
      refine kcV (bs := [WCB k b0 o0 c147]) (br := []) (bc := [WCB k b0 o0 c147]) (bc' := [WCB k b0 o0 r148.2]) X hP hD hS (c_W_boundAfter l D k t b0 o0 c147 i143 i146 1 i145 N r148 hg_r148) mv_L_30 hl [] [0] 7 ⟨rfl, rfl⟩ ⟨Nat.le_of_ble_eq_true rfl, Nat.le_of_ble_eq_true rfl⟩ rfl rfl rfl rfl rfl rfl rfl (Nat.le_of_ble_eq_true rfl) dL_areBoundsSound_457 (fun H locs hP hD hS => ?_)
      have hP : va_P D vwCl [WCB k b0 o0 r148.2].flatten _ := hP
      have hD : va_D A [WCB k b0 o0 r148.2].flatten := hD
      refine lv_aload_n hx hb dL_areBoundsSound_460 rfl (lv_at hl 0 rfl) ?_
      refine lv_iload_n hx hb dL_areBoundsSound_461 rfl (lv_at hl 1 rfl) ?_
      refine lv_iload hx hb dL_areBoundsSound_462 (lv_at hl 4 rfl) ?_
      refine lv_iconst (v := 1) hx hb dL_areBoundsSound_464 (by decide) ?_
      obtain ⟨r149, hg_r149, hf⟩ := ofbind hf
      refine kcV (bs := [WCB k b0 o0 r148.2]) (br := []) (bc := [WCB k b0 o0 r148.2]) (bc' := [WCB k b0 o0 r149.2]) X hP hD hS (c_W_bound l D k t b0 o0 r148.2 i143 i146 1 N r149 hg_r149) mv_L_21 hl [] [0] 7 ⟨rfl, rfl⟩ ⟨Nat.le_of_ble_eq_true rfl, Nat.le_of_ble_eq_true rfl⟩ rfl rfl rfl rfl rfl rfl rfl (Nat.le_of_ble_eq_true rfl) dL_areBoundsSound_465 (fun H locs hP hD hS => ?_)
      have hP : va_P D vwCl [WCB k b0 o0 r149.2].flatten _ := hP
      have hD : va_D A [WCB k b0 o0 r149.2].flatten := hD
      refine W.lcmp hx hb dL_areBoundsSound_468 ?_
      refine lv_if_ne (tgt := 494) hx hb dL_areBoundsSound_469 (by decide) (fun hc => ?_) (fun hc => ?_)
      · have hc := fun z => hc (lgq.mpr z)
        have hf := ofneg hf hc
        refine lv_iconst (v := 0) hx hb dL_areBoundsSound_494 (by decide) ?_
        have hf := Option.some.inj hf
        subst hf
        exact kzret (v := 0) X hP hD hS rfl dL_areBoundsSound_495
      · have hc := lgq.mp hc
        have hf := ofpos hf hc
        refine lv_aload_n hx hb dL_areBoundsSound_472 rfl (lv_at hl 0 rfl) ?_
        refine lv_iload_n hx hb dL_areBoundsSound_473 rfl (lv_at hl 1 rfl) ?_
        refine lv_iload hx hb dL_areBoundsSound_474 (lv_at hl 4 rfl) ?_
        refine lv_iconst (v := 0) hx hb dL_areBoundsSound_476 (by decide) ?_
        refine lv_iload hx hb dL_areBoundsSound_477 (lv_at hl 3 rfl) ?_
        obtain ⟨r150, hg_r150, hf⟩ := ofbind hf
        refine kcV (bs := [WCB k b0 o0 r149.2]) (br := []) (bc := [WCB k b0 o0 r149.2]) (bc' := [WCB k b0 o0 r150.2]) X hP hD hS (c_W_boundAfter l D k t b0 o0 r149.2 i143 i146 0 i145 N r150 hg_r150) mv_L_30 hl [] [0] 7 ⟨rfl, rfl⟩ ⟨Nat.le_of_ble_eq_true rfl, Nat.le_of_ble_eq_true rfl⟩ rfl rfl rfl rfl rfl rfl rfl (Nat.le_of_ble_eq_true rfl) dL_areBoundsSound_479 (fun H locs hP hD hS => ?_)
        have hP : va_P D vwCl [WCB k b0 o0 r150.2].flatten _ := hP
        have hD : va_D A [WCB k b0 o0 r150.2].flatten := hD
        refine lv_aload_n hx hb dL_areBoundsSound_482 rfl (lv_at hl 0 rfl) ?_
        refine lv_iload_n hx hb dL_areBoundsSound_483 rfl (lv_at hl 1 rfl) ?_
        refine lv_iload hx hb dL_areBoundsSound_484 (lv_at hl 4 rfl) ?_
        refine lv_iconst (v := 0) hx hb dL_areBoundsSound_486 (by decide) ?_
        obtain ⟨r151, hg_r151, hf⟩ := ofbind hf
        refine kcV (bs := [WCB k b0 o0 r150.2]) (br := []) (bc := [WCB k b0 o0 r150.2]) (bc' := [WCB k b0 o0 r151.2]) X hP hD hS (c_W_bound l D k t b0 o0 r150.2 i143 i146 0 N r151 hg_r151) mv_L_21 hl [] [0] 7 ⟨rfl, rfl⟩ ⟨Nat.le_of_ble_eq_true rfl, Nat.le_of_ble_eq_true rfl⟩ rfl rfl rfl rfl rfl rfl rfl (Nat.le_of_ble_eq_true rfl) dL_areBoundsSound_487 (fun H locs hP hD hS => ?_)
        have hP : va_P D vwCl [WCB k b0 o0 r151.2].flatten _ := hP
        have hD : va_D A [WCB k b0 o0 r151.2].flatten := hD
        refine W.lcmp hx hb dL_areBoundsSound_490 ?_
        refine lv_if_eq (tgt := 496) hx hb dL_areBoundsSound_491 (by decide) (fun hc => ?_) (fun hc => ?_)
        · have hc := lgq.mp hc
          have hf := ofpos hf hc
          refine lv_iinc (v := i146 + 1) (lv' := [(16, .int (i146 + 1)), (0, .ref (b0 o0)), (1, .int i143), (4, .int i144), (15, .int i145)]) hx hb dL_areBoundsSound_496 hl (k := 4) rfl rfl (by decide) rfl (fun ls hl => ?_)
          refine lv_goto (tgt := 443) hx hb dL_areBoundsSound_499 (by decide) ?_
          exact ih (i146 + 1) r151.2 _ _ _ hP hD hS (lv_sub hl [1, 2, 3, 4, 0] rfl) hf
        · have hc := fun z => hc (lgq.mpr z)
          have hf := ofneg hf hc
          refine lv_iconst (v := 0) hx hb dL_areBoundsSound_494 (by decide) ?_
          have hf := Option.some.inj hf
          subst hf
          exact kzret (v := 0) X hP hD hS rfl dL_areBoundsSound_495
set_option maxRecDepth 100000 in
set_option maxHeartbeats 8000000 in
theorem c_L_areBoundsSound (l : Launch) (D : va_G) (k : Nat → ClassId) (t : Nat → Nat) (b0 : Nat → Nat) (o0 : Nat) (s0 : CBS) (x1 : Int32) (x2 : Int32) (N : Nat) (out : Int32 × CBS) (hf : f_L_areBoundsSound N x1 x2 s0 = some out) : CT l D k t yL_areBoundsSound cL_areBoundsSound 24 (some .boolean) rm_L_areBoundsSound [.ref (b0 o0), .int x1, .int x2] [WCB k b0 o0 s0].flatten (some (.int out.1)) [WCB k b0 o0 out.2].flatten := by
  refine kofW (by decide) (Nat.le_of_ble_eq_true rfl) ?_
  intro p e s m below meth c A ls X hP hD hS hl
  have hx := X.1.1
  have hb := X.1.2.1
  have hml := X.1.2.2.1
  have hown := X.1.2.2.2.1
  have hts := X.1.2.2.2.2
  have hl : lv_has ls 24 [(0, .ref (b0 o0)), (1, .int x1), (2, .int x2)] := hl
  rw [f_L_areBoundsSound] at hf
  refine lv_aload_n hx hb dL_areBoundsSound_0 rfl (lv_at hl 0 rfl) ?_
  refine lv_iload_n hx hb dL_areBoundsSound_1 rfl (lv_at hl 1 rfl) ?_
  obtain ⟨r1, hg_r1, hf⟩ := ofbind hf
  refine kcV (bs := [WCB k b0 o0 s0]) (br := []) (bc := [WCB k b0 o0 s0]) (bc' := [WCB k b0 o0 r1.2]) X hP hD hS (c_W_certain l D k t b0 o0 s0 x1 N r1 hg_r1) mv_L_8 hl [] [0] 7 ⟨rfl, rfl⟩ ⟨Nat.le_of_ble_eq_true rfl, Nat.le_of_ble_eq_true rfl⟩ rfl rfl rfl rfl rfl rfl rfl (Nat.le_of_ble_eq_true rfl) dL_areBoundsSound_2 (fun H locs hP hD hS => ?_)
  have hP : va_P D vwCl [WCB k b0 o0 r1.2].flatten _ := hP
  have hD : va_D A [WCB k b0 o0 r1.2].flatten := hD
  refine lv_istore_n (lv' := [(3, .int r1.1), (0, .ref (b0 o0)), (1, .int x1), (2, .int x2)]) hx hb dL_areBoundsSound_5 rfl hl (by decide) rfl (fun ls hl => ?_)
  refine lv_aload_n hx hb dL_areBoundsSound_6 rfl (lv_at hl 1 rfl) ?_
  refine lv_bipush (v := 6) hx hb dL_areBoundsSound_7 (by decide) ?_
  obtain ⟨r2, hg_r2, hf⟩ := ofbind hf
  refine kcV (bs := [WCB k b0 o0 r1.2]) (br := []) (bc := [WCB k b0 o0 r1.2]) (bc' := [WCB k b0 o0 r1.2]) X hP hD hS (c_W_form l D k t b0 o0 r1.2 6 N r2 hg_r2) mv_L_14 hl [] [0] 7 ⟨rfl, rfl⟩ ⟨Nat.le_of_ble_eq_true rfl, Nat.le_of_ble_eq_true rfl⟩ rfl rfl rfl rfl rfl rfl rfl (Nat.le_of_ble_eq_true rfl) dL_areBoundsSound_9 (fun H locs hP hD hS => ?_)
  have hP : va_P D vwCl [WCB k b0 o0 r1.2].flatten _ := hP
  have hD : va_D A [WCB k b0 o0 r1.2].flatten := hD
  refine lv_istore (lv' := [(4, .int r2), (3, .int r1.1), (0, .ref (b0 o0)), (1, .int x1), (2, .int x2)]) hx hb dL_areBoundsSound_12 hl (by decide) rfl (fun ls hl => ?_)
  refine lv_aload_n hx hb dL_areBoundsSound_14 rfl (lv_at hl 2 rfl) ?_
  refine lv_iconst (v := 5) hx hb dL_areBoundsSound_15 (by decide) ?_
  obtain ⟨r3, hg_r3, hf⟩ := ofbind hf
  refine kcV (bs := [WCB k b0 o0 r1.2]) (br := []) (bc := [WCB k b0 o0 r1.2]) (bc' := [WCB k b0 o0 r1.2]) X hP hD hS (c_W_form l D k t b0 o0 r1.2 5 N r3 hg_r3) mv_L_14 hl [] [0] 7 ⟨rfl, rfl⟩ ⟨Nat.le_of_ble_eq_true rfl, Nat.le_of_ble_eq_true rfl⟩ rfl rfl rfl rfl rfl rfl rfl (Nat.le_of_ble_eq_true rfl) dL_areBoundsSound_16 (fun H locs hP hD hS => ?_)
  have hP : va_P D vwCl [WCB k b0 o0 r1.2].flatten _ := hP
  have hD : va_D A [WCB k b0 o0 r1.2].flatten := hD
  refine lv_istore (lv' := [(5, .int r3), (4, .int r2), (3, .int r1.1), (0, .ref (b0 o0)), (1, .int x1), (2, .int x2)]) hx hb dL_areBoundsSound_19 hl (by decide) rfl (fun ls hl => ?_)
  refine lv_lconst (v := 0) hx hb dL_areBoundsSound_21 (by decide) ?_
  refine lv_lstore (lv' := [(6, .long 0), (5, .int r3), (4, .int r2), (3, .int r1.1), (0, .ref (b0 o0)), (1, .int x1), (2, .int x2)]) hx hb dL_areBoundsSound_22 hl (by decide) rfl (fun ls hl => ?_)
  refine lv_lconst (v := 0) hx hb dL_areBoundsSound_24 (by decide) ?_
  refine lv_lstore (lv' := [(8, .long 0), (6, .long 0), (5, .int r3), (4, .int r2), (3, .int r1.1), (0, .ref (b0 o0)), (1, .int x1), (2, .int x2)]) hx hb dL_areBoundsSound_25 hl (by decide) rfl (fun ls hl => ?_)
  refine lv_lconst (v := 0) hx hb dL_areBoundsSound_27 (by decide) ?_
  refine lv_lstore (lv' := [(10, .long 0), (8, .long 0), (6, .long 0), (5, .int r3), (4, .int r2), (3, .int r1.1), (0, .ref (b0 o0)), (1, .int x1), (2, .int x2)]) hx hb dL_areBoundsSound_28 hl (by decide) rfl (fun ls hl => ?_)
  refine lv_lconst (v := 0) hx hb dL_areBoundsSound_30 (by decide) ?_
  refine lv_lstore (lv' := [(12, .long 0), (10, .long 0), (8, .long 0), (6, .long 0), (5, .int r3), (4, .int r2), (3, .int r1.1), (0, .ref (b0 o0)), (1, .int x1), (2, .int x2)]) hx hb dL_areBoundsSound_31 hl (by decide) rfl (fun ls hl => ?_)
  refine lv_iconst (v := (-1)) hx hb dL_areBoundsSound_33 (by decide) ?_
  refine lv_istore (lv' := [(14, .int (-1)), (12, .long 0), (10, .long 0), (8, .long 0), (6, .long 0), (5, .int r3), (4, .int r2), (3, .int r1.1), (0, .ref (b0 o0)), (1, .int x1), (2, .int x2)]) hx hb dL_areBoundsSound_34 hl (by decide) rfl (fun ls hl => ?_)
  refine lv_iconst (v := 0) hx hb dL_areBoundsSound_36 (by decide) ?_
  refine lv_istore (lv' := [(15, .int 0), (14, .int (-1)), (12, .long 0), (10, .long 0), (8, .long 0), (6, .long 0), (5, .int r3), (4, .int r2), (3, .int r1.1), (0, .ref (b0 o0)), (1, .int x1), (2, .int x2)]) hx hb dL_areBoundsSound_37 hl (by decide) rfl (fun ls hl => ?_)
  refine w_L_areBoundsSound_L39 X b0 o0 s0 N x1 x2 r1.1 r2 r3 out _ ?_ N 0 0 0 0 (-1) 0 r1.2 _ _ _ hP hD hS (lv_sub hl [9, 10, 11, 8, 7, 6, 5, 4, 3, 2, 1, 0] rfl) hf
  · intro i127 i128 i129 i130 i131 i132 c133 H locs ls hP hD hS hl hf
    refine lv_iload_n hx hb dL_areBoundsSound_364 rfl (lv_at hl 2 rfl) ?_
    refine lv_iload hx hb dL_areBoundsSound_365 (lv_at hl 3 rfl) ?_
    refine lv_ishr hx hb dL_areBoundsSound_367 ?_
    refine lv_if_ne (tgt := 417) hx hb dL_areBoundsSound_368 (by decide) (fun hc => ?_) (fun hc => ?_)
    · have hf := ofneg hf hc
      refine lv_iconst (v := 0) hx hb dL_areBoundsSound_417 (by decide) ?_
      have hf := Option.some.inj hf
      subst hf
      exact kzret (v := 0) X hP hD hS rfl dL_areBoundsSound_418
    · have hf := ofpos hf hc
      refine lv_aload_n hx hb dL_areBoundsSound_371 rfl (lv_at hl 0 rfl) ?_
      refine lv_iload_n hx hb dL_areBoundsSound_372 rfl (lv_at hl 1 rfl) ?_
      obtain ⟨r134, hg_r134, hf⟩ := ofbind hf
      refine kcV (bs := [WCB k b0 o0 c133]) (br := []) (bc := [WCB k b0 o0 c133]) (bc' := [WCB k b0 o0 r134.2]) X hP hD hS (c_W_widest l D k t b0 o0 c133 x1 N r134 hg_r134) mv_L_37 hl [] [0] 7 ⟨rfl, rfl⟩ ⟨Nat.le_of_ble_eq_true rfl, Nat.le_of_ble_eq_true rfl⟩ rfl rfl rfl rfl rfl rfl rfl (Nat.le_of_ble_eq_true rfl) dL_areBoundsSound_373 (fun H locs hP hD hS => ?_)
      have hP : va_P D vwCl [WCB k b0 o0 r134.2].flatten _ := hP
      have hD : va_D A [WCB k b0 o0 r134.2].flatten := hD
      refine lv_iload hx hb dL_areBoundsSound_376 (lv_at hl 8 rfl) ?_
      refine lv_icmp_ne (tgt := 417) hx hb dL_areBoundsSound_378 (by decide) (fun hc => ?_) (fun hc => ?_)
      · have hf := ofneg hf hc
        refine lv_iconst (v := 0) hx hb dL_areBoundsSound_417 (by decide) ?_
        have hf := Option.some.inj hf
        subst hf
        exact kzret (v := 0) X hP hD hS rfl dL_areBoundsSound_418
      · have hf := ofpos hf hc
        refine lv_aload_n hx hb dL_areBoundsSound_381 rfl (lv_at hl 0 rfl) ?_
        refine lv_iload_n hx hb dL_areBoundsSound_382 rfl (lv_at hl 1 rfl) ?_
        refine lv_iconst (v := 0) hx hb dL_areBoundsSound_383 (by decide) ?_
        obtain ⟨r135, hg_r135, hf⟩ := ofbind hf
        refine kcV (bs := [WCB k b0 o0 r134.2]) (br := []) (bc := [WCB k b0 o0 r134.2]) (bc' := [WCB k b0 o0 r135.2]) X hP hD hS (c_W_total l D k t b0 o0 r134.2 x1 0 N r135 hg_r135) mv_L_40 hl [] [0] 7 ⟨rfl, rfl⟩ ⟨Nat.le_of_ble_eq_true rfl, Nat.le_of_ble_eq_true rfl⟩ rfl rfl rfl rfl rfl rfl rfl (Nat.le_of_ble_eq_true rfl) dL_areBoundsSound_384 (fun H locs hP hD hS => ?_)
        have hP : va_P D vwCl [WCB k b0 o0 r135.2].flatten _ := hP
        have hD : va_D A [WCB k b0 o0 r135.2].flatten := hD
        refine lv_lload hx hb dL_areBoundsSound_387 (lv_at hl 5 rfl) ?_
        refine W.lcmp hx hb dL_areBoundsSound_389 ?_
        refine lv_if_ne (tgt := 417) hx hb dL_areBoundsSound_390 (by decide) (fun hc => ?_) (fun hc => ?_)
        · have hc := fun z => hc (lgq.mpr z)
          have hf := ofneg hf hc
          refine lv_iconst (v := 0) hx hb dL_areBoundsSound_417 (by decide) ?_
          have hf := Option.some.inj hf
          subst hf
          exact kzret (v := 0) X hP hD hS rfl dL_areBoundsSound_418
        · have hc := lgq.mp hc
          have hf := ofpos hf hc
          refine lv_aload_n hx hb dL_areBoundsSound_393 rfl (lv_at hl 0 rfl) ?_
          refine lv_iload_n hx hb dL_areBoundsSound_394 rfl (lv_at hl 1 rfl) ?_
          refine lv_iconst (v := 1) hx hb dL_areBoundsSound_395 (by decide) ?_
          obtain ⟨r136, hg_r136, hf⟩ := ofbind hf
          refine kcV (bs := [WCB k b0 o0 r135.2]) (br := []) (bc := [WCB k b0 o0 r135.2]) (bc' := [WCB k b0 o0 r136.2]) X hP hD hS (c_W_total l D k t b0 o0 r135.2 x1 1 N r136 hg_r136) mv_L_40 hl [] [0] 7 ⟨rfl, rfl⟩ ⟨Nat.le_of_ble_eq_true rfl, Nat.le_of_ble_eq_true rfl⟩ rfl rfl rfl rfl rfl rfl rfl (Nat.le_of_ble_eq_true rfl) dL_areBoundsSound_396 (fun H locs hP hD hS => ?_)
          have hP : va_P D vwCl [WCB k b0 o0 r136.2].flatten _ := hP
          have hD : va_D A [WCB k b0 o0 r136.2].flatten := hD
          refine lv_lload hx hb dL_areBoundsSound_399 (lv_at hl 6 rfl) ?_
          refine W.lcmp hx hb dL_areBoundsSound_401 ?_
          refine lv_if_ne (tgt := 417) hx hb dL_areBoundsSound_402 (by decide) (fun hc => ?_) (fun hc => ?_)
          · have hc := fun z => hc (lgq.mpr z)
            have hf := ofneg hf hc
            refine lv_iconst (v := 0) hx hb dL_areBoundsSound_417 (by decide) ?_
            have hf := Option.some.inj hf
            subst hf
            exact kzret (v := 0) X hP hD hS rfl dL_areBoundsSound_418
          · have hc := lgq.mp hc
            have hf := ofpos hf hc
            refine lv_aload_n hx hb dL_areBoundsSound_405 rfl (lv_at hl 0 rfl) ?_
            refine lv_iload_n hx hb dL_areBoundsSound_406 rfl (lv_at hl 1 rfl) ?_
            refine lv_iconst (v := 2) hx hb dL_areBoundsSound_407 (by decide) ?_
            obtain ⟨r137, hg_r137, hf⟩ := ofbind hf
            refine kcV (bs := [WCB k b0 o0 r136.2]) (br := []) (bc := [WCB k b0 o0 r136.2]) (bc' := [WCB k b0 o0 r137.2]) X hP hD hS (c_W_total l D k t b0 o0 r136.2 x1 2 N r137 hg_r137) mv_L_40 hl [] [0] 7 ⟨rfl, rfl⟩ ⟨Nat.le_of_ble_eq_true rfl, Nat.le_of_ble_eq_true rfl⟩ rfl rfl rfl rfl rfl rfl rfl (Nat.le_of_ble_eq_true rfl) dL_areBoundsSound_408 (fun H locs hP hD hS => ?_)
            have hP : va_P D vwCl [WCB k b0 o0 r137.2].flatten _ := hP
            have hD : va_D A [WCB k b0 o0 r137.2].flatten := hD
            refine lv_lload hx hb dL_areBoundsSound_411 (lv_at hl 7 rfl) ?_
            refine W.lcmp hx hb dL_areBoundsSound_413 ?_
            refine lv_if_eq (tgt := 419) hx hb dL_areBoundsSound_414 (by decide) (fun hc => ?_) (fun hc => ?_)
            · have hc := lgq.mp hc
              have hf := ofpos hf hc
              refine lv_aload_n hx hb dL_areBoundsSound_419 rfl (lv_at hl 0 rfl) ?_
              refine lv_iload_n hx hb dL_areBoundsSound_420 rfl (lv_at hl 1 rfl) ?_
              obtain ⟨r138, hg_r138, hf⟩ := ofbind hf
              refine kcV (bs := [WCB k b0 o0 r137.2]) (br := []) (bc := [WCB k b0 o0 r137.2]) (bc' := [WCB k b0 o0 r138.2]) X hP hD hS (c_W_lastRound l D k t b0 o0 r137.2 x1 N r138 hg_r138) mv_L_43 hl [] [0] 7 ⟨rfl, rfl⟩ ⟨Nat.le_of_ble_eq_true rfl, Nat.le_of_ble_eq_true rfl⟩ rfl rfl rfl rfl rfl rfl rfl (Nat.le_of_ble_eq_true rfl) dL_areBoundsSound_421 (fun H locs hP hD hS => ?_)
              have hP : va_P D vwCl [WCB k b0 o0 r138.2].flatten _ := hP
              have hD : va_D A [WCB k b0 o0 r138.2].flatten := hD
              refine lv_istore (lv' := [(15, .int r138.1), (0, .ref (b0 o0)), (1, .int x1), (3, .int r1.1), (4, .int r2), (5, .int r3), (6, .long i127), (8, .long i128), (10, .long i129), (14, .int i131)]) hx hb dL_areBoundsSound_424 hl (by decide) rfl (fun ls hl => ?_)
              refine lv_iload hx hb dL_areBoundsSound_426 (lv_at hl 0 rfl) ?_
              refine lv_if_lt (tgt := 438) hx hb dL_areBoundsSound_428 (by decide) (fun hc => ?_) (fun hc => ?_)
              · have hf := ofpos hf hc
                refine lv_iconst (v := 0) hx hb dL_areBoundsSound_438 (by decide) ?_
                have hf := Option.some.inj hf
                subst hf
                exact kzret (v := 0) X hP hD hS rfl dL_areBoundsSound_439
              · have hf := ofneg hf hc
                refine lv_iload hx hb dL_areBoundsSound_431 (lv_at hl 0 rfl) ?_
                refine lv_iload hx hb dL_areBoundsSound_433 (lv_at hl 5 rfl) ?_
                refine lv_icmp_le (tgt := 440) hx hb dL_areBoundsSound_435 (by decide) (fun hc => ?_) (fun hc => ?_)
                · have hf := ofpos hf hc
                  refine lv_iconst (v := 0) hx hb dL_areBoundsSound_440 (by decide) ?_
                  refine lv_istore (lv' := [(16, .int 0), (15, .int r138.1), (0, .ref (b0 o0)), (1, .int x1), (3, .int r1.1), (4, .int r2), (5, .int r3), (6, .long i127), (8, .long i128), (10, .long i129), (14, .int i131)]) hx hb dL_areBoundsSound_441 hl (by decide) rfl (fun ls hl => ?_)
                  refine w_L_areBoundsSound_L443 X b0 o0 s0 N x1 r2 r138.1 out _ ?_ N 0 r138.2 _ _ _ hP hD hS (lv_sub hl [2, 3, 5, 1, 0] rfl) hf
                  · intro i152 c153 H locs ls hP hD hS hl hf
                    refine lv_iconst (v := 1) hx hb dL_areBoundsSound_502 (by decide) ?_
                    have hf := Option.some.inj hf
                    subst hf
                    exact kzret (v := 1) X hP hD hS rfl dL_areBoundsSound_503
                · have hf := ofneg hf hc
                  refine lv_iconst (v := 0) hx hb dL_areBoundsSound_438 (by decide) ?_
                  have hf := Option.some.inj hf
                  subst hf
                  exact kzret (v := 0) X hP hD hS rfl dL_areBoundsSound_439
            · have hc := fun z => hc (lgq.mpr z)
              have hf := ofneg hf hc
              refine lv_iconst (v := 0) hx hb dL_areBoundsSound_417 (by decide) ?_
              have hf := Option.some.inj hf
              subst hf
              exact kzret (v := 0) X hP hD hS rfl dL_areBoundsSound_418
