/-! the law, from its first call on -/
def f_L_law_L191 (N : Nat) (cv : (Int32 → Int32)) (i28 : Int32) (K296 : Int32 → CBS → CBS → Option Int32) (K269 : Int32 → CBS → CBS → Option Int32) : Nat → Int32 → CBS → CBS → Option Int32
  | 0, _, _, _ => none
  | n + 1, i29, c30, c31 => if i28 ≤ i29 then K296 i29 c30 c31 else if (0 : Int32) ≤ (1 + i29) then (f_L_low (cv (1 + i29)) 1000).bind (fun r32 => (f_W_addFlow N r32 c30).bind (fun r33 => (f_W_addFlow N r32 c31).bind (fun r34 => if r33.1 < 0 then if r33.1 = (-4) then (f_W_flowOf N r32 r33.2).bind (fun r35 => if 0 ≤ r35 then f_L_law_L191 N cv i28 K296 K269 n (i29 + 1) r33.2 r34.2 else none) else none else (f_W_key N r33.1 r33.2).bind (fun r36 => if r36 = r32 then (f_W_flowOf N r32 r33.2).bind (fun r37 => if r37 = r33.1 then (f_W_form N 6 r33.2).bind (fun r38 => if r33.1 = (r38 - 1) then f_L_law_L191 N cv i28 K296 K269 n (i29 + 1) r33.2 r34.2 else K269 i29 r33.2 r34.2) else none) else none)))) else none
def f_L_law_J497 (N : Nat) (j128 : Int32) (j129 : Int32) (j130 : Int32) (c131 : CBS) (c132 : CBS) (B307 : Int32 → CBS → CBS → Option Int32) : Option Int32 := if (j128 - j128 / 4 * 4) = 3 then (f_L_low (j129 >>> (12 &&& 31)) 61).bind (fun r133 => (f_L_areBoundsSound N j130 r133 c131).bind (fun r134 => if r134.1 = 0 then none else (f_L_areCountersSound N j130 r134.2).bind (fun r135 => if r135.1 = 0 then none else B307 (j128 + 1) r135.2 c132))) else B307 (j128 + 1) c131 c132
def f_L_law_J493 (N : Nat) (j115 : Int32) (j116 : Int32) (j117 : Int32) (t118 : Int32) (t119 : Int32) (t120 : Int32) (c121 : CBS) (c122 : CBS) (B307 : Int32 → CBS → CBS → Option Int32) : Option Int32 := (f_W_count N t118 t119 t120 c122).bind (fun r123 => f_L_law_J497 N j115 j116 j117 c121 r123.2 B307)
def f_L_law_J476 (N : Nat) (j103 : Int32) (j104 : Int32) (j105 : Int32) (j106 : Int32) (j107 : Int32) (j108 : Int32) (c109 : CBS) (c110 : CBS) (B307 : Int32 → CBS → CBS → Option Int32) : Option Int32 := if j108 ≤ 0 then f_L_law_J493 N j103 j104 j105 j105 j106 j107 c109 c110 B307 else f_L_law_J493 N j103 j104 j105 j105 j106 j108 c109 c110 B307
def f_L_law_J375 (N : Nat) (j87 : Int32) (j88 : Int32) (j89 : Int32) (j90 : Int32) (t91 : Int32) (t92 : Int32) (c93 : CBS) (c94 : CBS) (B307 : Int32 → CBS → CBS → Option Int32) : Option Int32 := (f_W_digest N c93).bind (fun r95 => (f_W_truth N j89 j90 c93).bind (fun r96 => (f_W_count N j89 j90 (t91 + t92) c93).bind (fun r97 => if r97.1 = (r96 + ((t91 + t92).toInt64)) then if ((j88 >>> (27 &&& 31)) &&& 3) = 0 then (f_W_undo N r97.2).bind (fun r137 => if r137.1 < 0 then none else (f_W_digest N r137.2).bind (fun r138 => if r138 = r95 then f_L_law_J497 N j87 j88 j89 r137.2 c94 B307 else none)) else (f_L_low (j88 >>> (9 &&& 31)) (t91 + t92)).bind (fun r98 => if r98 ≤ 0 then f_L_law_J476 N j87 j88 j89 j90 (t91 + t92) r98 r97.2 c94 B307 else (f_W_count N j89 j90 ((t91 + t92) - r98) c94).bind (fun r136 => f_L_law_J476 N j87 j88 j89 j90 (t91 + t92) r98 r97.2 r136.2 B307)) else none)))
def f_L_law_L307 (N : Nat) (cv : (Int32 → Int32)) (i77 : Int32) (K541 : Int32 → CBS → CBS → Option Int32) : Nat → Int32 → CBS → CBS → Option Int32
  | 0, _, _, _ => none
  | n + 1, i78, c79, c80 => if 12 ≤ i78 then K541 i78 c79 c80 else if (0 : Int32) ≤ (11 + i78) then (f_L_low ((cv (11 + i78)) >>> (1 &&& 31)) i77).bind (fun r81 => if (((cv (11 + i78)) >>> (5 &&& 31)) &&& 1) = 0 then (f_L_low ((cv (11 + i78)) >>> (6 &&& 31)) 12).bind (fun r139 => f_L_law_J375 N i78 (cv (11 + i78)) ((cv (11 + i78)) &&& 1) r81 1 r139 c79 c80 (f_L_law_L307 N cv i77 K541 n)) else (f_L_low ((cv (11 + i78)) >>> (6 &&& 31)) 100000).bind (fun r82 => f_L_law_J375 N i78 (cv (11 + i78)) ((cv (11 + i78)) &&& 1) r81 1 r82 c79 c80 (f_L_law_L307 N cv i77 K541 n))) else none
def f_L_law_L544 (N : Nat) (i149 : Int32) (c154 : CBS) (c155 : CBS) (K610 : Int32 → Option Int32) : Nat → Int32 → Option Int32
  | 0, _ => none
  | n + 1, i153 => if i149 ≤ i153 then K610 i153 else (f_W_rest N 0 i153 c154).bind (fun r156 => (f_W_rest N 0 i153 c155).bind (fun r157 => if r156 = r157 then (f_W_rest N 1 i153 c154).bind (fun r158 => (f_W_rest N 1 i153 c155).bind (fun r159 => if r158 = r159 then (f_W_isMarked N 1 i153 c154).bind (fun r160 => (f_W_isMarked N 1 i153 c155).bind (fun r161 => if r160 = r161 then f_L_law_L544 N i149 c154 c155 K610 n (i153 + 1) else none)) else none)) else none))
def f_L_law_L613 (N : Nat) (i169 : Int32) (c172 : CBS) (c173 : CBS) (K664 : Int32 → Option Int32) : Nat → Int32 → Option Int32
  | 0, _ => none
  | n + 1, i171 => if i169 ≤ i171 then K664 i171 else (f_W_above N 0 i171 c172).bind (fun r174 => (f_W_above N 0 i171 c173).bind (fun r175 => if r174 = r175 then (f_W_above N 1 i171 c172).bind (fun r176 => (f_W_above N 1 i171 c173).bind (fun r177 => if r176 = r177 then f_L_law_L613 N i169 c172 c173 K664 n (i171 + 1) else none)) else none))
def f_L_law_L685 (N : Nat) (i182 : Int32) (c189 : CBS) (K710 : Int32 → Int32 → Option Int32) : Nat → Int32 → Int32 → Option Int32
  | 0, _, _ => none
  | n + 1, i187, i188 => if i182 ≤ i188 then K710 i187 i188 else (f_W_isMarked N 0 i188 c189).bind (fun r191 => f_L_law_L685 N i182 c189 K710 n (i187 + r191) (i188 + 1))
def f_L_law_L724 (N : Nat) (i196 : Int32) (c205 : CBS) (K749 : Int32 → Int32 → Option Int32) : Nat → Int32 → Int32 → Option Int32
  | 0, _, _ => none
  | n + 1, i203, i204 => if i196 ≤ i204 then K749 i203 i204 else (f_W_isMarked N 0 i204 c205).bind (fun r207 => f_L_law_L724 N i196 c205 K749 n (i203 + r207) (i204 + 1))
def f_L_law_J906 : Option Int32 := none
def f_L_law_J1038 : Option Int32 := none
def f_L_law_J908 (N : Nat) (j227 : Int32) (j228 : Int32) (j229 : Int32) (c230 : CBS) : Option Int32 := (f_W_digest N c230).bind (fun r232 => (f_W_bits N c230).bind (fun r233 => if r233 = ((j227 * (j228 + 1)) + (32 * j229)) then (f_W_count N 2 0 1 c230).bind (fun r236 => if r236.1 = (-2) then (f_W_count N 0 0 0 r236.2).bind (fun r237 => if r237.1 = (-3) then (f_W_addBraid N 1 1 r237.2).bind (fun r238 => if r238.1 = (-3) then (f_W_setFirst N 1 1 1 r238.2).bind (fun r239 => if r239.1 = (-3) then (f_W_addFlow N 1000 r239.2).bind (fun r240 => if r240.1 = (-3) then (f_W_form N 7 r240.2).bind (fun r241 => if r241 = (-3) then (f_W_boundAfter N 0 0 1 61 r240.2).bind (fun r242 => if r242.1 = (-3) then (f_W_digest N r242.2).bind (fun r243 => if r243 = r232 then some 0 else f_L_law_J1038) else f_L_law_J1038) else f_L_law_J1038) else f_L_law_J1038) else f_L_law_J1038) else f_L_law_J1038) else f_L_law_J1038) else f_L_law_J1038) else f_L_law_J1038))
def f_L_law (N : Nat) (cv : Int32 → Int32) (v0_all : CBS) (v1_all : CBS) : Option Int32 := if (0 : Int32) ≤ 0 then (f_L_low (cv (0 : Int32)) 23).bind (fun r1 => (f_L_low ((cv (0 : Int32)) >>> (5 &&& 31)) 8).bind (fun r2 => (f_L_low ((cv (0 : Int32)) >>> (8 &&& 31)) 4).bind (fun r3 => (f_L_low ((cv (0 : Int32)) >>> (10 &&& 31)) 16).bind (fun r4 => (f_L_low ((cv (0 : Int32)) >>> (14 &&& 31)) 3).bind (fun r5 => (f_W_undo N v0_all).bind (fun r6 => if r6.1 = (-4) then (f_W_load N r6.2).bind (fun r7 => if r7.1 = (-4) then (f_W_bitsForEach N r7.2).bind (fun r8 => if r8 = (-1) then (f_W_setFirst N (2 + r1) (1 + r2) (1 + r3) r7.2).bind (fun r9 => if r9.1 = 12 then (f_W_setSecond N (1 + r4) (1 + r5) r9.2).bind (fun r10 => if r10.1 = 6 then (f_L_low ((cv (0 : Int32)) >>> (16 &&& 31)) 20).bind (fun r11 => (f_W_setRounds N r11 r10.2).bind (fun r12 => if r12.1 = 20 then (f_W_setFirst N (2 + r1) (1 + r2) (1 + r3) v1_all).bind (fun r13 => (f_W_setSecond N (1 + r4) (1 + r5) r13.2).bind (fun r14 => (f_L_low ((cv (0 : Int32)) >>> (21 &&& 31)) 9).bind (fun r15 => f_L_law_L191 N cv (1 + r15) (fun i39 c40 c41 => (f_W_form N 6 c40).bind (fun r42 => f_L_law_L307 N cv r42 (fun i140 c141 c142 => f_L_law_L544 N (2 + r1) c141 c142 (fun i162 => f_L_law_L613 N (1 + r4) c141 c142 (fun i178 => (f_W_total N 0 0 c141).bind (fun r179 => (f_W_total N 1 0 r179.2).bind (fun r180 => f_L_law_L685 N (2 + r1) r180.2 (fun i192 i193 => (f_W_addBraid N 1 0 r180.2).bind (fun r194 => f_L_law_L724 N (2 + r1) r194.2 (fun i208 i209 => if r194.1 = (i208 - i192) then (f_W_total N 0 0 r194.2).bind (fun r210 => if r210.1 = (r179.1 + r180.1) then (f_L_areCountersSound N 0 r210.2).bind (fun r211 => if r211.1 = 0 then none else (f_L_areBoundsSound N 0 7 r211.2).bind (fun r212 => if r212.1 = 0 then none else (f_W_total N 0 0 r212.2).bind (fun r213 => (f_W_clear N 1 r213.2).bind (fun r214 => (f_W_addBraid N 0 1 r214.2).bind (fun r215 => if r215.1 = i208 then (f_W_total N 1 0 r215.2).bind (fun r218 => if r218.1 = r213.1 then (f_W_total N 1 2 r218.2).bind (fun r219 => (f_W_total N 0 2 r219.2).bind (fun r220 => if r219.1 = r220.1 then (f_W_total N 1 3 r220.2).bind (fun r221 => (f_W_total N 0 3 r221.2).bind (fun r222 => if r221.1 = r222.1 then (f_W_lastRound N 1 r222.2).bind (fun r223 => (f_W_lastRound N 0 r223.2).bind (fun r224 => if r223.1 = r224.1 then (f_W_clear N 0 r224.2).bind (fun r225 => if r225.1 = r213.1 then (f_W_certain N 0 r225.2).bind (fun r226 => if r226.1 = ((1 <<< (r42 &&& 31)) - 1) then f_L_law_J908 N (2 + r1) (1 + r2) (1 + r4) r226.2 else (f_W_form N 5 r226.2).bind (fun r244 => if r244 ≤ 0 then f_L_law_J908 N (2 + r1) (1 + r2) (1 + r4) r226.2 else f_L_law_J906)) else f_L_law_J906) else f_L_law_J906)) else f_L_law_J906)) else f_L_law_J906)) else f_L_law_J906) else f_L_law_J906))))) else none) else none) N 0 0)) N 0 0))) N 0) N 0) N 0 c40 c41)) (fun i245 c246 c247 => none) N 0 r12.2 r14.2))) else none)) else none) else none) else none) else none) else none)))))) else none
set_option maxRecDepth 100000 in
set_option maxHeartbeats 8000000 in
theorem w_L_law_L191 {p : Program} {l : Launch} {e : Env} {s : State} {m : MethodId} {below : List Frame} {meth : Method} {c : Code} {args : Array Value} {A : Nat → Prop} {D : va_G} {k : Nat → ClassId} {t : Nat → Nat} (X : BX l D k t p s m args meth c cL_law 20 RL (some .boolean) A) (b0 : Nat → Nat) (o0 : Nat) (s0 : CBS) (b1 : Nat → Nat) (o1 : Nat) (s1 : CBS) (N : Nat) (cv : Int32 → Int32) {cells slots : Nat} {Q : State → Prop} {b L : Nat} {xs : Nat → Int32} (Y : LB l p e s m args below meth c A cells slots Q b L xs cv) (i25 : Int32) (i26 : Int32) (i27 : Int32) (i28 : Int32) (out : Int32) (K296 : Int32 → CBS → CBS → Option Int32) (K269 : Int32 → CBS → CBS → Option Int32) (hK296 : ∀ (i29' : Int32) (c30' : CBS) (c31' : CBS) (H : Heap) (locs : List Loc) (ls : Array Slot), va_P D vwCl [WCB k b0 o0 c30', WCB k b1 o1 c31'].flatten H → va_D A [WCB k b0 o0 c30', WCB k b1 o1 c31'].flatten → va_S A s.heap H locs → lv_has ls 20 [(0, .ref b), (1, .ref (b0 o0)), (2, .ref (b1 o1)), (4, .int i25), (5, .int i26), (7, .int i27)] → K296 i29' c30' c31' = some out → W p l e room_1 s m args below meth c H locs cells slots Q (F0 m 296 ls [])) (hK269 : ∀ (i29' : Int32) (c30' : CBS) (c31' : CBS) (H : Heap) (locs : List Loc) (ls : Array Slot), va_P D vwCl [WCB k b0 o0 c30', WCB k b1 o1 c31'].flatten H → va_D A [WCB k b0 o0 c30', WCB k b1 o1 c31'].flatten → va_S A s.heap H locs → lv_has ls 20 [] → K269 i29' c30' c31' = some out → W p l e room_1 s m args below meth c H locs cells slots Q (F0 m 269 ls [])) : ∀ (n : Nat) (i29 : Int32) (c30 : CBS) (c31 : CBS) (H : Heap) (locs : List Loc) (ls : Array Slot), va_P D vwCl [WCB k b0 o0 c30, WCB k b1 o1 c31].flatten H → va_D A [WCB k b0 o0 c30, WCB k b1 o1 c31].flatten → va_S A s.heap H locs → lv_has ls 20 [(0, .ref b), (1, .ref (b0 o0)), (2, .ref (b1 o1)), (4, .int i25), (5, .int i26), (7, .int i27), (9, .int i28), (10, .int i29)] → f_L_law_L191 N cv i28 K296 K269 n i29 c30 c31 = some out → W p l e room_1 s m args below meth c H locs cells slots Q (F0 m 191 ls []) := by
  have hx := X.1.1
  have hb := X.1.2.1
  have hml := X.1.2.2.1
  have hown := X.1.2.2.2.1
  have hts := X.1.2.2.2.2
  intro n
  induction n with
  | zero =>
    intro i29 c30 c31 H locs ls hP hD hS hl hf
    rw [f_L_law_L191] at hf
    cases hf
  | succ n ih =>
    intro i29 c30 c31 H locs ls hP hD hS hl hf
    rw [f_L_law_L191] at hf
    refine lv_iload hx hb dL_law_191 (lv_at hl 7 rfl) ?_
    refine lv_iload hx hb dL_law_193 (lv_at hl 6 rfl) ?_
    refine lv_icmp_ge (tgt := 296) hx hb dL_law_195 (by decide) (fun hc => ?_) (fun hc => ?_)
    · have hf := ofpos hf hc
      exact hK296 i29 c30 c31 _ _ _ hP hD hS (lv_sub hl [0, 1, 2, 3, 4, 5] rfl) hf
    · have hf := ofneg hf hc
      refine lv_aload_n hx hb dL_law_198 rfl (lv_at hl 0 rfl) ?_
      refine lv_iconst (v := 1) hx hb dL_law_199 (by decide) ?_
      refine lv_iload hx hb dL_law_200 (lv_at hl 7 rfl) ?_
      refine lv_iadd hx hb dL_law_202 ?_
      obtain ⟨hz, hf⟩ := ofif hf
      refine kcell (bs := [WCB k b0 o0 c30, WCB k b1 o1 c31]) X Y hP hD hS hl [0, 1] rfl rfl hz (Nat.le_of_ble_eq_true rfl) dL_law_203 (fun H locs hP hD hS => ?_)
      have hP : va_P D vwCl [WCB k b0 o0 c30, WCB k b1 o1 c31].flatten _ := hP
      have hD : va_D A [WCB k b0 o0 c30, WCB k b1 o1 c31].flatten := hD
      refine lv_sipush (v := 1000) hx hb dL_law_206 (by decide) ?_
      obtain ⟨r32, hg_r32, hf⟩ := ofbind hf
      refine kcSC (bs := [WCB k b0 o0 c30, WCB k b1 o1 c31]) (br := [WCB k b0 o0 c30, WCB k b1 o1 c31]) (bc := []) (bc' := []) X hP hD hS (c_L_low l D k t (cv (1 + i29)) 1000 r32 hg_r32) ms_L_77 hl [0, 1] [] ⟨rfl, rfl⟩ ⟨Nat.le_of_ble_eq_true rfl, Nat.le_of_ble_eq_true rfl⟩ Y.1 rfl rfl rfl rfl (Nat.le_of_ble_eq_true rfl) dL_law_209 (fun H locs hP hD hS => ?_)
      have hP : va_P D vwCl [WCB k b0 o0 c30, WCB k b1 o1 c31].flatten _ := hP
      have hD : va_D A [WCB k b0 o0 c30, WCB k b1 o1 c31].flatten := hD
      refine lv_istore (lv' := [(11, .int r32), (0, .ref b), (1, .ref (b0 o0)), (2, .ref (b1 o1)), (4, .int i25), (5, .int i26), (7, .int i27), (9, .int i28), (10, .int i29)]) hx hb dL_law_212 hl (by decide) rfl (fun ls hl => ?_)
      refine lv_aload_n hx hb dL_law_214 rfl (lv_at hl 2 rfl) ?_
      refine lv_iload hx hb dL_law_215 (lv_at hl 0 rfl) ?_
      obtain ⟨r33, hg_r33, hf⟩ := ofbind hf
      refine kcVC (bs := [WCB k b0 o0 c30, WCB k b1 o1 c31]) (br := [WCB k b1 o1 c31]) (bc := [WCB k b0 o0 c30]) (bc' := [WCB k b0 o0 r33.2]) X hP hD hS (c_W_addFlow l D k t b0 o0 c30 r32 N r33 hg_r33) mv_L_100 hl [1] [0] 7 ⟨rfl, rfl⟩ ⟨Nat.le_of_ble_eq_true rfl, Nat.le_of_ble_eq_true rfl⟩ Y.1 rfl rfl rfl rfl rfl rfl rfl (Nat.le_of_ble_eq_true rfl) dL_law_217 (fun H locs hP hD hS => ?_)
      have hP : va_P D vwCl [WCB k b1 o1 c31, WCB k b0 o0 r33.2].flatten _ := hP
      have hD : va_D A [WCB k b1 o1 c31, WCB k b0 o0 r33.2].flatten := hD
      refine lv_istore (lv' := [(12, .int r33.1), (11, .int r32), (0, .ref b), (1, .ref (b0 o0)), (2, .ref (b1 o1)), (4, .int i25), (5, .int i26), (7, .int i27), (9, .int i28), (10, .int i29)]) hx hb dL_law_220 hl (by decide) rfl (fun ls hl => ?_)
      refine lv_aload_n hx hb dL_law_222 rfl (lv_at hl 4 rfl) ?_
      refine lv_iload hx hb dL_law_223 (lv_at hl 1 rfl) ?_
      obtain ⟨r34, hg_r34, hf⟩ := ofbind hf
      refine kcVC (bs := [WCB k b1 o1 c31, WCB k b0 o0 r33.2]) (br := [WCB k b0 o0 r33.2]) (bc := [WCB k b1 o1 c31]) (bc' := [WCB k b1 o1 r34.2]) X hP hD hS (c_W_addFlow l D k t b1 o1 c31 r32 N r34 hg_r34) mv_L_100 hl [1] [0] 7 ⟨rfl, rfl⟩ ⟨Nat.le_of_ble_eq_true rfl, Nat.le_of_ble_eq_true rfl⟩ Y.1 rfl rfl rfl rfl rfl rfl rfl (Nat.le_of_ble_eq_true rfl) dL_law_225 (fun H locs hP hD hS => ?_)
      have hP : va_P D vwCl [WCB k b0 o0 r33.2, WCB k b1 o1 r34.2].flatten _ := hP
      have hD : va_D A [WCB k b0 o0 r33.2, WCB k b1 o1 r34.2].flatten := hD
      refine lv_pop hx hb dL_law_228 rfl ?_
      refine lv_iload hx hb dL_law_229 (lv_at hl 0 rfl) ?_
      refine lv_if_lt (tgt := 272) hx hb dL_law_231 (by decide) (fun hc => ?_) (fun hc => ?_)
      · have hf := ofpos hf hc
        refine lv_iload hx hb dL_law_272 (lv_at hl 0 rfl) ?_
        refine lv_bipush (v := (-4)) hx hb dL_law_274 (by decide) ?_
        refine lv_icmp_ne (tgt := 288) hx hb dL_law_276 (by decide) (fun hc => ?_) (fun hc => ?_)
        · have hf := ofneg hf hc
          refine lv_iconst (v := 0) hx hb dL_law_288 (by decide) ?_
          cases hf
        · have hf := ofpos hf hc
          refine lv_aload_n hx hb dL_law_279 rfl (lv_at hl 3 rfl) ?_
          refine lv_iload hx hb dL_law_280 (lv_at hl 1 rfl) ?_
          obtain ⟨r35, hg_r35, hf⟩ := ofbind hf
          refine kcVC (bs := [WCB k b0 o0 r33.2, WCB k b1 o1 r34.2]) (br := [WCB k b1 o1 r34.2]) (bc := [WCB k b0 o0 r33.2]) (bc' := [WCB k b0 o0 r33.2]) X hP hD hS (c_W_flowOf l D k t b0 o0 r33.2 r32 N r35 hg_r35) mv_L_106 hl [1] [0] 7 ⟨rfl, rfl⟩ ⟨Nat.le_of_ble_eq_true rfl, Nat.le_of_ble_eq_true rfl⟩ Y.1 rfl rfl rfl rfl rfl rfl rfl (Nat.le_of_ble_eq_true rfl) dL_law_282 (fun H locs hP hD hS => ?_)
          have hP : va_P D vwCl [WCB k b1 o1 r34.2, WCB k b0 o0 r33.2].flatten _ := hP
          have hD : va_D A [WCB k b1 o1 r34.2, WCB k b0 o0 r33.2].flatten := hD
          refine lv_if_ge (tgt := 290) hx hb dL_law_285 (by decide) (fun hc => ?_) (fun hc => ?_)
          · have hf := ofpos hf hc
            refine lv_iinc (v := i29 + 1) (lv' := [(10, .int (i29 + 1)), (12, .int r33.1), (11, .int r32), (0, .ref b), (1, .ref (b0 o0)), (2, .ref (b1 o1)), (4, .int i25), (5, .int i26), (7, .int i27), (9, .int i28)]) hx hb dL_law_290 hl (k := 9) rfl rfl (by decide) rfl (fun ls hl => ?_)
            refine lv_goto (tgt := 191) hx hb dL_law_293 (by decide) ?_
            obtain ⟨hP, hD⟩ := B_perm (br := [WCB k b0 o0 r33.2, WCB k b1 o1 r34.2]) hP hD [1, 0] rfl rfl
            have hP : va_P D vwCl [WCB k b0 o0 r33.2, WCB k b1 o1 r34.2].flatten _ := hP
            have hD : va_D A [WCB k b0 o0 r33.2, WCB k b1 o1 r34.2].flatten := hD
            exact ih (i29 + 1) r33.2 r34.2 _ _ _ hP hD hS (lv_sub hl [3, 4, 5, 6, 7, 8, 9, 0] rfl) hf
          · have hf := ofneg hf hc
            refine lv_iconst (v := 0) hx hb dL_law_288 (by decide) ?_
            cases hf
      · have hf := ofneg hf hc
        refine lv_aload_n hx hb dL_law_234 rfl (lv_at hl 3 rfl) ?_
        refine lv_iload hx hb dL_law_235 (lv_at hl 0 rfl) ?_
        obtain ⟨r36, hg_r36, hf⟩ := ofbind hf
        refine kcVC (bs := [WCB k b0 o0 r33.2, WCB k b1 o1 r34.2]) (br := [WCB k b1 o1 r34.2]) (bc := [WCB k b0 o0 r33.2]) (bc' := [WCB k b0 o0 r33.2]) X hP hD hS (c_W_key l D k t b0 o0 r33.2 r33.1 N r36 hg_r36) mv_L_103 hl [1] [0] 7 ⟨rfl, rfl⟩ ⟨Nat.le_of_ble_eq_true rfl, Nat.le_of_ble_eq_true rfl⟩ Y.1 rfl rfl rfl rfl rfl rfl rfl (Nat.le_of_ble_eq_true rfl) dL_law_237 (fun H locs hP hD hS => ?_)
        have hP : va_P D vwCl [WCB k b1 o1 r34.2, WCB k b0 o0 r33.2].flatten _ := hP
        have hD : va_D A [WCB k b1 o1 r34.2, WCB k b0 o0 r33.2].flatten := hD
        refine lv_iload hx hb dL_law_240 (lv_at hl 1 rfl) ?_
        refine lv_icmp_ne (tgt := 288) hx hb dL_law_242 (by decide) (fun hc => ?_) (fun hc => ?_)
        · have hf := ofneg hf hc
          refine lv_iconst (v := 0) hx hb dL_law_288 (by decide) ?_
          cases hf
        · have hf := ofpos hf hc
          refine lv_aload_n hx hb dL_law_245 rfl (lv_at hl 3 rfl) ?_
          refine lv_iload hx hb dL_law_246 (lv_at hl 1 rfl) ?_
          obtain ⟨r37, hg_r37, hf⟩ := ofbind hf
          refine kcVC (bs := [WCB k b1 o1 r34.2, WCB k b0 o0 r33.2]) (br := [WCB k b1 o1 r34.2]) (bc := [WCB k b0 o0 r33.2]) (bc' := [WCB k b0 o0 r33.2]) X hP hD hS (c_W_flowOf l D k t b0 o0 r33.2 r32 N r37 hg_r37) mv_L_106 hl [0] [1] 7 ⟨rfl, rfl⟩ ⟨Nat.le_of_ble_eq_true rfl, Nat.le_of_ble_eq_true rfl⟩ Y.1 rfl rfl rfl rfl rfl rfl rfl (Nat.le_of_ble_eq_true rfl) dL_law_248 (fun H locs hP hD hS => ?_)
          have hP : va_P D vwCl [WCB k b1 o1 r34.2, WCB k b0 o0 r33.2].flatten _ := hP
          have hD : va_D A [WCB k b1 o1 r34.2, WCB k b0 o0 r33.2].flatten := hD
          refine lv_iload hx hb dL_law_251 (lv_at hl 0 rfl) ?_
          refine lv_icmp_ne (tgt := 288) hx hb dL_law_253 (by decide) (fun hc => ?_) (fun hc => ?_)
          · have hf := ofneg hf hc
            refine lv_iconst (v := 0) hx hb dL_law_288 (by decide) ?_
            cases hf
          · have hf := ofpos hf hc
            refine lv_iload hx hb dL_law_256 (lv_at hl 0 rfl) ?_
            refine lv_aload_n hx hb dL_law_258 rfl (lv_at hl 3 rfl) ?_
            refine lv_bipush (v := 6) hx hb dL_law_259 (by decide) ?_
            obtain ⟨r38, hg_r38, hf⟩ := ofbind hf
            refine kcVC (bs := [WCB k b1 o1 r34.2, WCB k b0 o0 r33.2]) (br := [WCB k b1 o1 r34.2]) (bc := [WCB k b0 o0 r33.2]) (bc' := [WCB k b0 o0 r33.2]) X hP hD hS (c_W_form l D k t b0 o0 r33.2 6 N r38 hg_r38) mv_L_14 hl [0] [1] 7 ⟨rfl, rfl⟩ ⟨Nat.le_of_ble_eq_true rfl, Nat.le_of_ble_eq_true rfl⟩ Y.1 rfl rfl rfl rfl rfl rfl rfl (Nat.le_of_ble_eq_true rfl) dL_law_261 (fun H locs hP hD hS => ?_)
            have hP : va_P D vwCl [WCB k b1 o1 r34.2, WCB k b0 o0 r33.2].flatten _ := hP
            have hD : va_D A [WCB k b1 o1 r34.2, WCB k b0 o0 r33.2].flatten := hD
            refine lv_iconst (v := 1) hx hb dL_law_264 (by decide) ?_
            refine lv_isub hx hb dL_law_265 ?_
            refine lv_icmp_eq (tgt := 290) hx hb dL_law_266 (by decide) (fun hc => ?_) (fun hc => ?_)
            · have hf := ofpos hf hc
              refine lv_iinc (v := i29 + 1) (lv' := [(10, .int (i29 + 1)), (12, .int r33.1), (11, .int r32), (0, .ref b), (1, .ref (b0 o0)), (2, .ref (b1 o1)), (4, .int i25), (5, .int i26), (7, .int i27), (9, .int i28)]) hx hb dL_law_290 hl (k := 9) rfl rfl (by decide) rfl (fun ls hl => ?_)
              refine lv_goto (tgt := 191) hx hb dL_law_293 (by decide) ?_
              obtain ⟨hP, hD⟩ := B_perm (br := [WCB k b0 o0 r33.2, WCB k b1 o1 r34.2]) hP hD [1, 0] rfl rfl
              have hP : va_P D vwCl [WCB k b0 o0 r33.2, WCB k b1 o1 r34.2].flatten _ := hP
              have hD : va_D A [WCB k b0 o0 r33.2, WCB k b1 o1 r34.2].flatten := hD
              exact ih (i29 + 1) r33.2 r34.2 _ _ _ hP hD hS (lv_sub hl [3, 4, 5, 6, 7, 8, 9, 0] rfl) hf
            · have hf := ofneg hf hc
              obtain ⟨hP, hD⟩ := B_perm (br := [WCB k b0 o0 r33.2, WCB k b1 o1 r34.2]) hP hD [1, 0] rfl rfl
              have hP : va_P D vwCl [WCB k b0 o0 r33.2, WCB k b1 o1 r34.2].flatten _ := hP
              have hD : va_D A [WCB k b0 o0 r33.2, WCB k b1 o1 r34.2].flatten := hD
              exact hK269 i29 r33.2 r34.2 _ _ _ hP hD hS (lv_sub hl [] rfl) hf
set_option maxRecDepth 100000 in
set_option maxHeartbeats 8000000 in
theorem w_L_law_J497 {p : Program} {l : Launch} {e : Env} {s : State} {m : MethodId} {below : List Frame} {meth : Method} {c : Code} {args : Array Value} {A : Nat → Prop} {D : va_G} {k : Nat → ClassId} {t : Nat → Nat} (X : BX l D k t p s m args meth c cL_law 20 RL (some .boolean) A) (b0 : Nat → Nat) (o0 : Nat) (s0 : CBS) (b1 : Nat → Nat) (o1 : Nat) (s1 : CBS) (N : Nat) (cv : Int32 → Int32) {cells slots : Nat} {Q : State → Prop} {b L : Nat} {xs : Nat → Int32} (Y : LB l p e s m args below meth c A cells slots Q b L xs cv) (j124 : Int32) (j125 : Int32) (j126 : Int32) (j127 : Int32) (j128 : Int32) (j129 : Int32) (j130 : Int32) (c131 : CBS) (c132 : CBS) (out : Int32) (B307 : Int32 → CBS → CBS → Option Int32) (hB307 : ∀ (i78' : Int32) (c79' : CBS) (c80' : CBS) (H : Heap) (locs : List Loc) (ls : Array Slot), va_P D vwCl [WCB k b0 o0 c79', WCB k b1 o1 c80'].flatten H → va_D A [WCB k b0 o0 c79', WCB k b1 o1 c80'].flatten → va_S A s.heap H locs → lv_has ls 20 [(0, .ref b), (1, .ref (b0 o0)), (2, .ref (b1 o1)), (4, .int j124), (5, .int j125), (7, .int j126), (9, .int j127), (10, .int i78')] → B307 i78' c79' c80' = some out → W p l e room_1 s m args below meth c H locs cells slots Q (F0 m 307 ls [])) : ∀ (H : Heap) (locs : List Loc) (ls : Array Slot), va_P D vwCl [WCB k b0 o0 c131, WCB k b1 o1 c132].flatten H → va_D A [WCB k b0 o0 c131, WCB k b1 o1 c132].flatten → va_S A s.heap H locs → lv_has ls 20 [(0, .ref b), (1, .ref (b0 o0)), (2, .ref (b1 o1)), (4, .int j124), (5, .int j125), (7, .int j126), (9, .int j127), (10, .int j128), (11, .int j129), (12, .int j130)] → f_L_law_J497 N j128 j129 j130 c131 c132 B307 = some out → W p l e room_1 s m args below meth c H locs cells slots Q (F0 m 497 ls []) := by
  have hx := X.1.1
  have hb := X.1.2.1
  have hml := X.1.2.2.1
  have hown := X.1.2.2.2.1
  have hts := X.1.2.2.2.2
  intro H locs ls hP hD hS hl hf
  rw [f_L_law_J497] at hf
  refine lv_iload hx hb dL_law_497 (lv_at hl 7 rfl) ?_
  refine lv_iconst (v := 4) hx hb dL_law_499 (by decide) ?_
  refine lv_irem hx hb dL_law_500 (by decide) ?_
  refine lv_iconst (v := 3) hx hb dL_law_501 (by decide) ?_
  refine lv_icmp_ne (tgt := 535) hx hb dL_law_502 (by decide) (fun hc => ?_) (fun hc => ?_)
  · have hf := ofneg hf hc
    refine lv_iinc (v := j128 + 1) (lv' := [(10, .int (j128 + 1)), (0, .ref b), (1, .ref (b0 o0)), (2, .ref (b1 o1)), (4, .int j124), (5, .int j125), (7, .int j126), (9, .int j127), (11, .int j129), (12, .int j130)]) hx hb dL_law_535 hl (k := 7) rfl rfl (by decide) rfl (fun ls hl => ?_)
    refine lv_goto (tgt := 307) hx hb dL_law_538 (by decide) ?_
    exact hB307 (j128 + 1) c131 c132 _ _ _ hP hD hS (lv_sub hl [1, 2, 3, 4, 5, 6, 7, 0] rfl) hf
  · have hf := ofpos hf hc
    refine lv_aload_n hx hb dL_law_505 rfl (lv_at hl 1 rfl) ?_
    refine lv_iload hx hb dL_law_506 (lv_at hl 9 rfl) ?_
    refine lv_iload hx hb dL_law_508 (lv_at hl 8 rfl) ?_
    refine lv_bipush (v := 12) hx hb dL_law_510 (by decide) ?_
    refine lv_ishr hx hb dL_law_512 ?_
    refine lv_bipush (v := 61) hx hb dL_law_513 (by decide) ?_
    obtain ⟨r133, hg_r133, hf⟩ := ofbind hf
    refine kcSC (bs := [WCB k b0 o0 c131, WCB k b1 o1 c132]) (br := [WCB k b0 o0 c131, WCB k b1 o1 c132]) (bc := []) (bc' := []) X hP hD hS (c_L_low l D k t (j129 >>> (12 &&& 31)) 61 r133 hg_r133) ms_L_77 hl [0, 1] [] ⟨rfl, rfl⟩ ⟨Nat.le_of_ble_eq_true rfl, Nat.le_of_ble_eq_true rfl⟩ Y.1 rfl rfl rfl rfl (Nat.le_of_ble_eq_true rfl) dL_law_515 (fun H locs hP hD hS => ?_)
    have hP : va_P D vwCl [WCB k b0 o0 c131, WCB k b1 o1 c132].flatten _ := hP
    have hD : va_D A [WCB k b0 o0 c131, WCB k b1 o1 c132].flatten := hD
    obtain ⟨r134, hg_r134, hf⟩ := ofbind hf
    refine kcSC (bs := [WCB k b0 o0 c131, WCB k b1 o1 c132]) (br := [WCB k b1 o1 c132]) (bc := [WCB k b0 o0 c131]) (bc' := [WCB k b0 o0 r134.2]) X hP hD hS (c_L_areBoundsSound l D k t b0 o0 c131 j130 r133 N r134 hg_r134) ms_L_118 hl [1] [0] ⟨rfl, rfl⟩ ⟨Nat.le_of_ble_eq_true rfl, Nat.le_of_ble_eq_true rfl⟩ Y.1 rfl rfl rfl rfl (Nat.le_of_ble_eq_true rfl) dL_law_518 (fun H locs hP hD hS => ?_)
    have hP : va_P D vwCl [WCB k b1 o1 c132, WCB k b0 o0 r134.2].flatten _ := hP
    have hD : va_D A [WCB k b1 o1 c132, WCB k b0 o0 r134.2].flatten := hD
    refine lv_if_eq (tgt := 533) hx hb dL_law_521 (by decide) (fun hc => ?_) (fun hc => ?_)
    · have hf := ofpos hf hc
      refine lv_iconst (v := 0) hx hb dL_law_533 (by decide) ?_
      cases hf
    · have hf := ofneg hf hc
      refine lv_aload_n hx hb dL_law_524 rfl (lv_at hl 1 rfl) ?_
      refine lv_iload hx hb dL_law_525 (lv_at hl 9 rfl) ?_
      obtain ⟨r135, hg_r135, hf⟩ := ofbind hf
      refine kcSC (bs := [WCB k b1 o1 c132, WCB k b0 o0 r134.2]) (br := [WCB k b1 o1 c132]) (bc := [WCB k b0 o0 r134.2]) (bc' := [WCB k b0 o0 r135.2]) X hP hD hS (c_L_areCountersSound l D k t b0 o0 r134.2 j130 N r135 hg_r135) ms_L_122 hl [0] [1] ⟨rfl, rfl⟩ ⟨Nat.le_of_ble_eq_true rfl, Nat.le_of_ble_eq_true rfl⟩ Y.1 rfl rfl rfl rfl (Nat.le_of_ble_eq_true rfl) dL_law_527 (fun H locs hP hD hS => ?_)
      have hP : va_P D vwCl [WCB k b1 o1 c132, WCB k b0 o0 r135.2].flatten _ := hP
      have hD : va_D A [WCB k b1 o1 c132, WCB k b0 o0 r135.2].flatten := hD
      refine lv_if_ne (tgt := 535) hx hb dL_law_530 (by decide) (fun hc => ?_) (fun hc => ?_)
      · have hf := ofneg hf hc
        refine lv_iinc (v := j128 + 1) (lv' := [(10, .int (j128 + 1)), (0, .ref b), (1, .ref (b0 o0)), (2, .ref (b1 o1)), (4, .int j124), (5, .int j125), (7, .int j126), (9, .int j127), (11, .int j129), (12, .int j130)]) hx hb dL_law_535 hl (k := 7) rfl rfl (by decide) rfl (fun ls hl => ?_)
        refine lv_goto (tgt := 307) hx hb dL_law_538 (by decide) ?_
        obtain ⟨hP, hD⟩ := B_perm (br := [WCB k b0 o0 r135.2, WCB k b1 o1 c132]) hP hD [1, 0] rfl rfl
        have hP : va_P D vwCl [WCB k b0 o0 r135.2, WCB k b1 o1 c132].flatten _ := hP
        have hD : va_D A [WCB k b0 o0 r135.2, WCB k b1 o1 c132].flatten := hD
        exact hB307 (j128 + 1) r135.2 c132 _ _ _ hP hD hS (lv_sub hl [1, 2, 3, 4, 5, 6, 7, 0] rfl) hf
      · have hf := ofpos hf hc
        refine lv_iconst (v := 0) hx hb dL_law_533 (by decide) ?_
        cases hf
set_option maxRecDepth 100000 in
set_option maxHeartbeats 8000000 in
theorem w_L_law_J493 {p : Program} {l : Launch} {e : Env} {s : State} {m : MethodId} {below : List Frame} {meth : Method} {c : Code} {args : Array Value} {A : Nat → Prop} {D : va_G} {k : Nat → ClassId} {t : Nat → Nat} (X : BX l D k t p s m args meth c cL_law 20 RL (some .boolean) A) (b0 : Nat → Nat) (o0 : Nat) (s0 : CBS) (b1 : Nat → Nat) (o1 : Nat) (s1 : CBS) (N : Nat) (cv : Int32 → Int32) {cells slots : Nat} {Q : State → Prop} {b L : Nat} {xs : Nat → Int32} (Y : LB l p e s m args below meth c A cells slots Q b L xs cv) (j111 : Int32) (j112 : Int32) (j113 : Int32) (j114 : Int32) (j115 : Int32) (j116 : Int32) (j117 : Int32) (t118 : Int32) (t119 : Int32) (t120 : Int32) (c121 : CBS) (c122 : CBS) (out : Int32) (B307 : Int32 → CBS → CBS → Option Int32) (hB307 : ∀ (i78' : Int32) (c79' : CBS) (c80' : CBS) (H : Heap) (locs : List Loc) (ls : Array Slot), va_P D vwCl [WCB k b0 o0 c79', WCB k b1 o1 c80'].flatten H → va_D A [WCB k b0 o0 c79', WCB k b1 o1 c80'].flatten → va_S A s.heap H locs → lv_has ls 20 [(0, .ref b), (1, .ref (b0 o0)), (2, .ref (b1 o1)), (4, .int j111), (5, .int j112), (7, .int j113), (9, .int j114), (10, .int i78')] → B307 i78' c79' c80' = some out → W p l e room_1 s m args below meth c H locs cells slots Q (F0 m 307 ls [])) : ∀ (H : Heap) (locs : List Loc) (ls : Array Slot), va_P D vwCl [WCB k b0 o0 c121, WCB k b1 o1 c122].flatten H → va_D A [WCB k b0 o0 c121, WCB k b1 o1 c122].flatten → va_S A s.heap H locs → lv_has ls 20 [(0, .ref b), (1, .ref (b0 o0)), (2, .ref (b1 o1)), (4, .int j111), (5, .int j112), (7, .int j113), (9, .int j114), (10, .int j115), (11, .int j116), (12, .int j117)] → f_L_law_J493 N j115 j116 j117 t118 t119 t120 c121 c122 B307 = some out → W p l e room_1 s m args below meth c H locs cells slots Q (F0 m 493 ls [.int t120, .int t119, .int t118, .ref (b1 o1)]) := by
  have hx := X.1.1
  have hb := X.1.2.1
  have hml := X.1.2.2.1
  have hown := X.1.2.2.2.1
  have hts := X.1.2.2.2.2
  intro H locs ls hP hD hS hl hf
  rw [f_L_law_J493] at hf
  obtain ⟨r123, hg_r123, hf⟩ := ofbind hf
  refine kcVC (bs := [WCB k b0 o0 c121, WCB k b1 o1 c122]) (br := [WCB k b0 o0 c121]) (bc := [WCB k b1 o1 c122]) (bc' := [WCB k b1 o1 r123.2]) X hP hD hS (c_W_count l D k t b1 o1 c122 t118 t119 t120 N r123 hg_r123) mv_L_114 hl [0] [1] 7 ⟨rfl, rfl⟩ ⟨Nat.le_of_ble_eq_true rfl, Nat.le_of_ble_eq_true rfl⟩ Y.1 rfl rfl rfl rfl rfl rfl rfl (Nat.le_of_ble_eq_true rfl) dL_law_493 (fun H locs hP hD hS => ?_)
  have hP : va_P D vwCl [WCB k b0 o0 c121, WCB k b1 o1 r123.2].flatten _ := hP
  have hD : va_D A [WCB k b0 o0 c121, WCB k b1 o1 r123.2].flatten := hD
  refine lv_pop2_2 hx hb dL_law_496 rfl ?_
  exact w_L_law_J497 X b0 o0 s0 b1 o1 s1 N cv Y j111 j112 j113 j114 j115 j116 j117 c121 r123.2 out _ hB307 _ _ _ hP hD hS (lv_sub hl [0, 1, 2, 3, 4, 5, 6, 7, 8, 9] rfl) hf
set_option maxRecDepth 100000 in
set_option maxHeartbeats 8000000 in
theorem w_L_law_J476 {p : Program} {l : Launch} {e : Env} {s : State} {m : MethodId} {below : List Frame} {meth : Method} {c : Code} {args : Array Value} {A : Nat → Prop} {D : va_G} {k : Nat → ClassId} {t : Nat → Nat} (X : BX l D k t p s m args meth c cL_law 20 RL (some .boolean) A) (b0 : Nat → Nat) (o0 : Nat) (s0 : CBS) (b1 : Nat → Nat) (o1 : Nat) (s1 : CBS) (N : Nat) (cv : Int32 → Int32) {cells slots : Nat} {Q : State → Prop} {b L : Nat} {xs : Nat → Int32} (Y : LB l p e s m args below meth c A cells slots Q b L xs cv) (j99 : Int32) (j100 : Int32) (j101 : Int32) (j102 : Int32) (j103 : Int32) (j104 : Int32) (j105 : Int32) (j106 : Int32) (j107 : Int32) (j108 : Int32) (c109 : CBS) (c110 : CBS) (out : Int32) (B307 : Int32 → CBS → CBS → Option Int32) (hB307 : ∀ (i78' : Int32) (c79' : CBS) (c80' : CBS) (H : Heap) (locs : List Loc) (ls : Array Slot), va_P D vwCl [WCB k b0 o0 c79', WCB k b1 o1 c80'].flatten H → va_D A [WCB k b0 o0 c79', WCB k b1 o1 c80'].flatten → va_S A s.heap H locs → lv_has ls 20 [(0, .ref b), (1, .ref (b0 o0)), (2, .ref (b1 o1)), (4, .int j99), (5, .int j100), (7, .int j101), (9, .int j102), (10, .int i78')] → B307 i78' c79' c80' = some out → W p l e room_1 s m args below meth c H locs cells slots Q (F0 m 307 ls [])) : ∀ (H : Heap) (locs : List Loc) (ls : Array Slot), va_P D vwCl [WCB k b0 o0 c109, WCB k b1 o1 c110].flatten H → va_D A [WCB k b0 o0 c109, WCB k b1 o1 c110].flatten → va_S A s.heap H locs → lv_has ls 20 [(0, .ref b), (1, .ref (b0 o0)), (2, .ref (b1 o1)), (4, .int j99), (5, .int j100), (7, .int j101), (9, .int j102), (10, .int j103), (11, .int j104), (12, .int j105), (13, .int j106), (14, .int j107), (19, .int j108)] → f_L_law_J476 N j103 j104 j105 j106 j107 j108 c109 c110 B307 = some out → W p l e room_1 s m args below meth c H locs cells slots Q (F0 m 476 ls []) := by
  have hx := X.1.1
  have hb := X.1.2.1
  have hml := X.1.2.2.1
  have hown := X.1.2.2.2.1
  have hts := X.1.2.2.2.2
  intro H locs ls hP hD hS hl hf
  rw [f_L_law_J476] at hf
  refine lv_aload_n hx hb dL_law_476 rfl (lv_at hl 2 rfl) ?_
  refine lv_iload hx hb dL_law_477 (lv_at hl 9 rfl) ?_
  refine lv_iload hx hb dL_law_479 (lv_at hl 10 rfl) ?_
  refine lv_iload hx hb dL_law_481 (lv_at hl 12 rfl) ?_
  refine lv_if_le (tgt := 491) hx hb dL_law_483 (by decide) (fun hc => ?_) (fun hc => ?_)
  · have hf := ofpos hf hc
    refine lv_iload hx hb dL_law_491 (lv_at hl 11 rfl) ?_
    exact w_L_law_J493 X b0 o0 s0 b1 o1 s1 N cv Y j99 j100 j101 j102 j103 j104 j105 j105 j106 j107 c109 c110 out _ hB307 _ _ _ hP hD hS (lv_sub hl [0, 1, 2, 3, 4, 5, 6, 7, 8, 9] rfl) hf
  · have hf := ofneg hf hc
    refine lv_iload hx hb dL_law_486 (lv_at hl 12 rfl) ?_
    refine lv_goto (tgt := 493) hx hb dL_law_488 (by decide) ?_
    exact w_L_law_J493 X b0 o0 s0 b1 o1 s1 N cv Y j99 j100 j101 j102 j103 j104 j105 j105 j106 j108 c109 c110 out _ hB307 _ _ _ hP hD hS (lv_sub hl [0, 1, 2, 3, 4, 5, 6, 7, 8, 9] rfl) hf
set_option maxRecDepth 100000 in
set_option maxHeartbeats 8000000 in
theorem w_L_law_J375 {p : Program} {l : Launch} {e : Env} {s : State} {m : MethodId} {below : List Frame} {meth : Method} {c : Code} {args : Array Value} {A : Nat → Prop} {D : va_G} {k : Nat → ClassId} {t : Nat → Nat} (X : BX l D k t p s m args meth c cL_law 20 RL (some .boolean) A) (b0 : Nat → Nat) (o0 : Nat) (s0 : CBS) (b1 : Nat → Nat) (o1 : Nat) (s1 : CBS) (N : Nat) (cv : Int32 → Int32) {cells slots : Nat} {Q : State → Prop} {b L : Nat} {xs : Nat → Int32} (Y : LB l p e s m args below meth c A cells slots Q b L xs cv) (j83 : Int32) (j84 : Int32) (j85 : Int32) (j86 : Int32) (j87 : Int32) (j88 : Int32) (j89 : Int32) (j90 : Int32) (t91 : Int32) (t92 : Int32) (c93 : CBS) (c94 : CBS) (out : Int32) (B307 : Int32 → CBS → CBS → Option Int32) (hB307 : ∀ (i78' : Int32) (c79' : CBS) (c80' : CBS) (H : Heap) (locs : List Loc) (ls : Array Slot), va_P D vwCl [WCB k b0 o0 c79', WCB k b1 o1 c80'].flatten H → va_D A [WCB k b0 o0 c79', WCB k b1 o1 c80'].flatten → va_S A s.heap H locs → lv_has ls 20 [(0, .ref b), (1, .ref (b0 o0)), (2, .ref (b1 o1)), (4, .int j83), (5, .int j84), (7, .int j85), (9, .int j86), (10, .int i78')] → B307 i78' c79' c80' = some out → W p l e room_1 s m args below meth c H locs cells slots Q (F0 m 307 ls [])) : ∀ (H : Heap) (locs : List Loc) (ls : Array Slot), va_P D vwCl [WCB k b0 o0 c93, WCB k b1 o1 c94].flatten H → va_D A [WCB k b0 o0 c93, WCB k b1 o1 c94].flatten → va_S A s.heap H locs → lv_has ls 20 [(0, .ref b), (1, .ref (b0 o0)), (2, .ref (b1 o1)), (4, .int j83), (5, .int j84), (7, .int j85), (9, .int j86), (10, .int j87), (11, .int j88), (12, .int j89), (13, .int j90)] → f_L_law_J375 N j87 j88 j89 j90 t91 t92 c93 c94 B307 = some out → W p l e room_1 s m args below meth c H locs cells slots Q (F0 m 375 ls [.int t92, .int t91]) := by
  have hx := X.1.1
  have hb := X.1.2.1
  have hml := X.1.2.2.1
  have hown := X.1.2.2.2.1
  have hts := X.1.2.2.2.2
  intro H locs ls hP hD hS hl hf
  rw [f_L_law_J375] at hf
  refine lv_iadd hx hb dL_law_375 ?_
  refine lv_istore (lv' := [(14, .int (t91 + t92)), (0, .ref b), (1, .ref (b0 o0)), (2, .ref (b1 o1)), (4, .int j83), (5, .int j84), (7, .int j85), (9, .int j86), (10, .int j87), (11, .int j88), (12, .int j89), (13, .int j90)]) hx hb dL_law_376 hl (by decide) rfl (fun ls hl => ?_)
  refine lv_aload_n hx hb dL_law_378 rfl (lv_at hl 2 rfl) ?_
  obtain ⟨r95, hg_r95, hf⟩ := ofbind hf
  refine kcVC (bs := [WCB k b0 o0 c93, WCB k b1 o1 c94]) (br := [WCB k b1 o1 c94]) (bc := [WCB k b0 o0 c93]) (bc' := [WCB k b0 o0 c93]) X hP hD hS (c_W_digest l D k t b0 o0 c93 N r95 hg_r95) mv_L_110 hl [1] [0] 7 ⟨rfl, rfl⟩ ⟨Nat.le_of_ble_eq_true rfl, Nat.le_of_ble_eq_true rfl⟩ Y.1 rfl rfl rfl rfl rfl rfl rfl (Nat.le_of_ble_eq_true rfl) dL_law_379 (fun H locs hP hD hS => ?_)
  have hP : va_P D vwCl [WCB k b1 o1 c94, WCB k b0 o0 c93].flatten _ := hP
  have hD : va_D A [WCB k b1 o1 c94, WCB k b0 o0 c93].flatten := hD
  refine lv_lstore (lv' := [(15, .long r95), (14, .int (t91 + t92)), (0, .ref b), (1, .ref (b0 o0)), (2, .ref (b1 o1)), (4, .int j83), (5, .int j84), (7, .int j85), (9, .int j86), (10, .int j87), (11, .int j88), (12, .int j89), (13, .int j90)]) hx hb dL_law_382 hl (by decide) rfl (fun ls hl => ?_)
  refine lv_aload_n hx hb dL_law_384 rfl (lv_at hl 3 rfl) ?_
  refine lv_iload hx hb dL_law_385 (lv_at hl 11 rfl) ?_
  refine lv_iload hx hb dL_law_387 (lv_at hl 12 rfl) ?_
  obtain ⟨r96, hg_r96, hf⟩ := ofbind hf
  refine kcVC (bs := [WCB k b1 o1 c94, WCB k b0 o0 c93]) (br := [WCB k b1 o1 c94]) (bc := [WCB k b0 o0 c93]) (bc' := [WCB k b0 o0 c93]) X hP hD hS (c_W_truth l D k t b0 o0 c93 j89 j90 N r96 hg_r96) mv_L_17 hl [0] [1] 7 ⟨rfl, rfl⟩ ⟨Nat.le_of_ble_eq_true rfl, Nat.le_of_ble_eq_true rfl⟩ Y.1 rfl rfl rfl rfl rfl rfl rfl (Nat.le_of_ble_eq_true rfl) dL_law_389 (fun H locs hP hD hS => ?_)
  have hP : va_P D vwCl [WCB k b1 o1 c94, WCB k b0 o0 c93].flatten _ := hP
  have hD : va_D A [WCB k b1 o1 c94, WCB k b0 o0 c93].flatten := hD
  refine lv_lstore (lv' := [(17, .long r96), (15, .long r95), (14, .int (t91 + t92)), (0, .ref b), (1, .ref (b0 o0)), (2, .ref (b1 o1)), (4, .int j83), (5, .int j84), (7, .int j85), (9, .int j86), (10, .int j87), (11, .int j88), (12, .int j89), (13, .int j90)]) hx hb dL_law_392 hl (by decide) rfl (fun ls hl => ?_)
  refine lv_aload_n hx hb dL_law_394 rfl (lv_at hl 4 rfl) ?_
  refine lv_iload hx hb dL_law_395 (lv_at hl 12 rfl) ?_
  refine lv_iload hx hb dL_law_397 (lv_at hl 13 rfl) ?_
  refine lv_iload hx hb dL_law_399 (lv_at hl 2 rfl) ?_
  obtain ⟨r97, hg_r97, hf⟩ := ofbind hf
  refine kcVC (bs := [WCB k b1 o1 c94, WCB k b0 o0 c93]) (br := [WCB k b1 o1 c94]) (bc := [WCB k b0 o0 c93]) (bc' := [WCB k b0 o0 r97.2]) X hP hD hS (c_W_count l D k t b0 o0 c93 j89 j90 (t91 + t92) N r97 hg_r97) mv_L_114 hl [0] [1] 7 ⟨rfl, rfl⟩ ⟨Nat.le_of_ble_eq_true rfl, Nat.le_of_ble_eq_true rfl⟩ Y.1 rfl rfl rfl rfl rfl rfl rfl (Nat.le_of_ble_eq_true rfl) dL_law_401 (fun H locs hP hD hS => ?_)
  have hP : va_P D vwCl [WCB k b1 o1 c94, WCB k b0 o0 r97.2].flatten _ := hP
  have hD : va_D A [WCB k b1 o1 c94, WCB k b0 o0 r97.2].flatten := hD
  refine lv_lload hx hb dL_law_404 (lv_at hl 0 rfl) ?_
  refine lv_iload hx hb dL_law_406 (lv_at hl 2 rfl) ?_
  refine lv_i2l (v := (t91 + t92).toInt64) hx hb dL_law_408 rfl ?_
  refine lv_ladd hx hb dL_law_409 ?_
  refine W.lcmp hx hb dL_law_410 ?_
  refine lv_if_eq (tgt := 416) hx hb dL_law_411 (by decide) (fun hc => ?_) (fun hc => ?_)
  · have hc := lgq.mp hc
    have hf := ofpos hf hc
    refine lv_iload hx hb dL_law_416 (lv_at hl 11 rfl) ?_
    refine lv_bipush (v := 27) hx hb dL_law_418 (by decide) ?_
    refine lv_ishr hx hb dL_law_420 ?_
    refine lv_iconst (v := 3) hx hb dL_law_421 (by decide) ?_
    refine lv_iand hx hb dL_law_422 ?_
    refine lv_if_ne (tgt := 445) hx hb dL_law_423 (by decide) (fun hc => ?_) (fun hc => ?_)
    · have hf := ofneg hf hc
      refine lv_iload hx hb dL_law_445 (lv_at hl 11 rfl) ?_
      refine lv_bipush (v := 9) hx hb dL_law_447 (by decide) ?_
      refine lv_ishr hx hb dL_law_449 ?_
      refine lv_iload hx hb dL_law_450 (lv_at hl 2 rfl) ?_
      obtain ⟨r98, hg_r98, hf⟩ := ofbind hf
      refine kcSC (bs := [WCB k b1 o1 c94, WCB k b0 o0 r97.2]) (br := [WCB k b1 o1 c94, WCB k b0 o0 r97.2]) (bc := []) (bc' := []) X hP hD hS (c_L_low l D k t (j88 >>> (9 &&& 31)) (t91 + t92) r98 hg_r98) ms_L_77 hl [0, 1] [] ⟨rfl, rfl⟩ ⟨Nat.le_of_ble_eq_true rfl, Nat.le_of_ble_eq_true rfl⟩ Y.1 rfl rfl rfl rfl (Nat.le_of_ble_eq_true rfl) dL_law_452 (fun H locs hP hD hS => ?_)
      have hP : va_P D vwCl [WCB k b1 o1 c94, WCB k b0 o0 r97.2].flatten _ := hP
      have hD : va_D A [WCB k b1 o1 c94, WCB k b0 o0 r97.2].flatten := hD
      refine lv_istore (lv' := [(19, .int r98), (17, .long r96), (15, .long r95), (14, .int (t91 + t92)), (0, .ref b), (1, .ref (b0 o0)), (2, .ref (b1 o1)), (4, .int j83), (5, .int j84), (7, .int j85), (9, .int j86), (10, .int j87), (11, .int j88), (12, .int j89), (13, .int j90)]) hx hb dL_law_455 hl (by decide) rfl (fun ls hl => ?_)
      refine lv_iload hx hb dL_law_457 (lv_at hl 0 rfl) ?_
      refine lv_if_le (tgt := 476) hx hb dL_law_459 (by decide) (fun hc => ?_) (fun hc => ?_)
      · have hf := ofpos hf hc
        obtain ⟨hP, hD⟩ := B_perm (br := [WCB k b0 o0 r97.2, WCB k b1 o1 c94]) hP hD [1, 0] rfl rfl
        have hP : va_P D vwCl [WCB k b0 o0 r97.2, WCB k b1 o1 c94].flatten _ := hP
        have hD : va_D A [WCB k b0 o0 r97.2, WCB k b1 o1 c94].flatten := hD
        exact w_L_law_J476 X b0 o0 s0 b1 o1 s1 N cv Y j83 j84 j85 j86 j87 j88 j89 j90 (t91 + t92) r98 r97.2 c94 out _ hB307 _ _ _ hP hD hS (lv_sub hl [4, 5, 6, 7, 8, 9, 10, 11, 12, 13, 14, 3, 0] rfl) hf
      · have hf := ofneg hf hc
        refine lv_aload_n hx hb dL_law_462 rfl (lv_at hl 6 rfl) ?_
        refine lv_iload hx hb dL_law_463 (lv_at hl 13 rfl) ?_
        refine lv_iload hx hb dL_law_465 (lv_at hl 14 rfl) ?_
        refine lv_iload hx hb dL_law_467 (lv_at hl 3 rfl) ?_
        refine lv_iload hx hb dL_law_469 (lv_at hl 0 rfl) ?_
        refine lv_isub hx hb dL_law_471 ?_
        obtain ⟨r136, hg_r136, hf⟩ := ofbind hf
        refine kcVC (bs := [WCB k b1 o1 c94, WCB k b0 o0 r97.2]) (br := [WCB k b0 o0 r97.2]) (bc := [WCB k b1 o1 c94]) (bc' := [WCB k b1 o1 r136.2]) X hP hD hS (c_W_count l D k t b1 o1 c94 j89 j90 ((t91 + t92) - r98) N r136 hg_r136) mv_L_114 hl [1] [0] 7 ⟨rfl, rfl⟩ ⟨Nat.le_of_ble_eq_true rfl, Nat.le_of_ble_eq_true rfl⟩ Y.1 rfl rfl rfl rfl rfl rfl rfl (Nat.le_of_ble_eq_true rfl) dL_law_472 (fun H locs hP hD hS => ?_)
        have hP : va_P D vwCl [WCB k b0 o0 r97.2, WCB k b1 o1 r136.2].flatten _ := hP
        have hD : va_D A [WCB k b0 o0 r97.2, WCB k b1 o1 r136.2].flatten := hD
        refine lv_pop2_2 hx hb dL_law_475 rfl ?_
        exact w_L_law_J476 X b0 o0 s0 b1 o1 s1 N cv Y j83 j84 j85 j86 j87 j88 j89 j90 (t91 + t92) r98 r97.2 r136.2 out _ hB307 _ _ _ hP hD hS (lv_sub hl [4, 5, 6, 7, 8, 9, 10, 11, 12, 13, 14, 3, 0] rfl) hf
    · have hf := ofpos hf hc
      refine lv_aload_n hx hb dL_law_426 rfl (lv_at hl 4 rfl) ?_
      obtain ⟨r137, hg_r137, hf⟩ := ofbind hf
      refine kcVC (bs := [WCB k b1 o1 c94, WCB k b0 o0 r97.2]) (br := [WCB k b1 o1 c94]) (bc := [WCB k b0 o0 r97.2]) (bc' := [WCB k b0 o0 r137.2]) X hP hD hS (c_W_undo l D k t b0 o0 r97.2 N r137 hg_r137) mv_L_80 hl [0] [1] 7 ⟨rfl, rfl⟩ ⟨Nat.le_of_ble_eq_true rfl, Nat.le_of_ble_eq_true rfl⟩ Y.1 rfl rfl rfl rfl rfl rfl rfl (Nat.le_of_ble_eq_true rfl) dL_law_427 (fun H locs hP hD hS => ?_)
      have hP : va_P D vwCl [WCB k b1 o1 c94, WCB k b0 o0 r137.2].flatten _ := hP
      have hD : va_D A [WCB k b1 o1 c94, WCB k b0 o0 r137.2].flatten := hD
      refine lv_if_lt (tgt := 443) hx hb dL_law_430 (by decide) (fun hc => ?_) (fun hc => ?_)
      · have hf := ofpos hf hc
        refine lv_iconst (v := 0) hx hb dL_law_443 (by decide) ?_
        cases hf
      · have hf := ofneg hf hc
        refine lv_aload_n hx hb dL_law_433 rfl (lv_at hl 4 rfl) ?_
        obtain ⟨r138, hg_r138, hf⟩ := ofbind hf
        refine kcVC (bs := [WCB k b1 o1 c94, WCB k b0 o0 r137.2]) (br := [WCB k b1 o1 c94]) (bc := [WCB k b0 o0 r137.2]) (bc' := [WCB k b0 o0 r137.2]) X hP hD hS (c_W_digest l D k t b0 o0 r137.2 N r138 hg_r138) mv_L_110 hl [0] [1] 7 ⟨rfl, rfl⟩ ⟨Nat.le_of_ble_eq_true rfl, Nat.le_of_ble_eq_true rfl⟩ Y.1 rfl rfl rfl rfl rfl rfl rfl (Nat.le_of_ble_eq_true rfl) dL_law_434 (fun H locs hP hD hS => ?_)
        have hP : va_P D vwCl [WCB k b1 o1 c94, WCB k b0 o0 r137.2].flatten _ := hP
        have hD : va_D A [WCB k b1 o1 c94, WCB k b0 o0 r137.2].flatten := hD
        refine lv_lload hx hb dL_law_437 (lv_at hl 1 rfl) ?_
        refine W.lcmp hx hb dL_law_439 ?_
        refine lv_if_eq (tgt := 497) hx hb dL_law_440 (by decide) (fun hc => ?_) (fun hc => ?_)
        · have hc := lgq.mp hc
          have hf := ofpos hf hc
          obtain ⟨hP, hD⟩ := B_perm (br := [WCB k b0 o0 r137.2, WCB k b1 o1 c94]) hP hD [1, 0] rfl rfl
          have hP : va_P D vwCl [WCB k b0 o0 r137.2, WCB k b1 o1 c94].flatten _ := hP
          have hD : va_D A [WCB k b0 o0 r137.2, WCB k b1 o1 c94].flatten := hD
          exact w_L_law_J497 X b0 o0 s0 b1 o1 s1 N cv Y j83 j84 j85 j86 j87 j88 j89 r137.2 c94 out _ hB307 _ _ _ hP hD hS (lv_sub hl [3, 4, 5, 6, 7, 8, 9, 10, 11, 12] rfl) hf
        · have hc := fun z => hc (lgq.mpr z)
          have hf := ofneg hf hc
          refine lv_iconst (v := 0) hx hb dL_law_443 (by decide) ?_
          cases hf
  · have hc := fun z => hc (lgq.mpr z)
    have hf := ofneg hf hc
    refine lv_iconst (v := 0) hx hb dL_law_414 (by decide) ?_
    cases hf
set_option maxRecDepth 100000 in
set_option maxHeartbeats 8000000 in
theorem w_L_law_L307 {p : Program} {l : Launch} {e : Env} {s : State} {m : MethodId} {below : List Frame} {meth : Method} {c : Code} {args : Array Value} {A : Nat → Prop} {D : va_G} {k : Nat → ClassId} {t : Nat → Nat} (X : BX l D k t p s m args meth c cL_law 20 RL (some .boolean) A) (b0 : Nat → Nat) (o0 : Nat) (s0 : CBS) (b1 : Nat → Nat) (o1 : Nat) (s1 : CBS) (N : Nat) (cv : Int32 → Int32) {cells slots : Nat} {Q : State → Prop} {b L : Nat} {xs : Nat → Int32} (Y : LB l p e s m args below meth c A cells slots Q b L xs cv) (i74 : Int32) (i75 : Int32) (i76 : Int32) (i77 : Int32) (out : Int32) (K541 : Int32 → CBS → CBS → Option Int32) (hK541 : ∀ (i78' : Int32) (c79' : CBS) (c80' : CBS) (H : Heap) (locs : List Loc) (ls : Array Slot), va_P D vwCl [WCB k b0 o0 c79', WCB k b1 o1 c80'].flatten H → va_D A [WCB k b0 o0 c79', WCB k b1 o1 c80'].flatten → va_S A s.heap H locs → lv_has ls 20 [(1, .ref (b0 o0)), (2, .ref (b1 o1)), (4, .int i74), (5, .int i75), (7, .int i76), (9, .int i77)] → K541 i78' c79' c80' = some out → W p l e room_1 s m args below meth c H locs cells slots Q (F0 m 541 ls [])) : ∀ (n : Nat) (i78 : Int32) (c79 : CBS) (c80 : CBS) (H : Heap) (locs : List Loc) (ls : Array Slot), va_P D vwCl [WCB k b0 o0 c79, WCB k b1 o1 c80].flatten H → va_D A [WCB k b0 o0 c79, WCB k b1 o1 c80].flatten → va_S A s.heap H locs → lv_has ls 20 [(0, .ref b), (1, .ref (b0 o0)), (2, .ref (b1 o1)), (4, .int i74), (5, .int i75), (7, .int i76), (9, .int i77), (10, .int i78)] → f_L_law_L307 N cv i77 K541 n i78 c79 c80 = some out → W p l e room_1 s m args below meth c H locs cells slots Q (F0 m 307 ls []) := by
  have hx := X.1.1
  have hb := X.1.2.1
  have hml := X.1.2.2.1
  have hown := X.1.2.2.2.1
  have hts := X.1.2.2.2.2
  intro n
  induction n with
  | zero =>
    intro i78 c79 c80 H locs ls hP hD hS hl hf
    rw [f_L_law_L307] at hf
    cases hf
  | succ n ih =>
    intro i78 c79 c80 H locs ls hP hD hS hl hf
    rw [f_L_law_L307] at hf
    refine lv_iload hx hb dL_law_307 (lv_at hl 7 rfl) ?_
    refine lv_bipush (v := 12) hx hb dL_law_309 (by decide) ?_
    refine lv_icmp_ge (tgt := 541) hx hb dL_law_311 (by decide) (fun hc => ?_) (fun hc => ?_)
    · have hf := ofpos hf hc
      exact hK541 i78 c79 c80 _ _ _ hP hD hS (lv_sub hl [1, 2, 3, 4, 5, 6] rfl) hf
    · have hf := ofneg hf hc
      refine lv_aload_n hx hb dL_law_314 rfl (lv_at hl 0 rfl) ?_
      refine lv_bipush (v := 11) hx hb dL_law_315 (by decide) ?_
      refine lv_iload hx hb dL_law_317 (lv_at hl 7 rfl) ?_
      refine lv_iadd hx hb dL_law_319 ?_
      obtain ⟨hz, hf⟩ := ofif hf
      refine kcell (bs := [WCB k b0 o0 c79, WCB k b1 o1 c80]) X Y hP hD hS hl [0, 1] rfl rfl hz (Nat.le_of_ble_eq_true rfl) dL_law_320 (fun H locs hP hD hS => ?_)
      have hP : va_P D vwCl [WCB k b0 o0 c79, WCB k b1 o1 c80].flatten _ := hP
      have hD : va_D A [WCB k b0 o0 c79, WCB k b1 o1 c80].flatten := hD
      refine lv_istore (lv' := [(11, .int (cv (11 + i78))), (0, .ref b), (1, .ref (b0 o0)), (2, .ref (b1 o1)), (4, .int i74), (5, .int i75), (7, .int i76), (9, .int i77), (10, .int i78)]) hx hb dL_law_323 hl (by decide) rfl (fun ls hl => ?_)
      refine lv_iload hx hb dL_law_325 (lv_at hl 0 rfl) ?_
      refine lv_iconst (v := 1) hx hb dL_law_327 (by decide) ?_
      refine lv_iand hx hb dL_law_328 ?_
      refine lv_istore (lv' := [(12, .int ((cv (11 + i78)) &&& 1)), (11, .int (cv (11 + i78))), (0, .ref b), (1, .ref (b0 o0)), (2, .ref (b1 o1)), (4, .int i74), (5, .int i75), (7, .int i76), (9, .int i77), (10, .int i78)]) hx hb dL_law_329 hl (by decide) rfl (fun ls hl => ?_)
      refine lv_iload hx hb dL_law_331 (lv_at hl 1 rfl) ?_
      refine lv_iconst (v := 1) hx hb dL_law_333 (by decide) ?_
      refine lv_ishr hx hb dL_law_334 ?_
      refine lv_iload hx hb dL_law_335 (lv_at hl 8 rfl) ?_
      obtain ⟨r81, hg_r81, hf⟩ := ofbind hf
      refine kcSC (bs := [WCB k b0 o0 c79, WCB k b1 o1 c80]) (br := [WCB k b0 o0 c79, WCB k b1 o1 c80]) (bc := []) (bc' := []) X hP hD hS (c_L_low l D k t ((cv (11 + i78)) >>> (1 &&& 31)) i77 r81 hg_r81) ms_L_77 hl [0, 1] [] ⟨rfl, rfl⟩ ⟨Nat.le_of_ble_eq_true rfl, Nat.le_of_ble_eq_true rfl⟩ Y.1 rfl rfl rfl rfl (Nat.le_of_ble_eq_true rfl) dL_law_337 (fun H locs hP hD hS => ?_)
      have hP : va_P D vwCl [WCB k b0 o0 c79, WCB k b1 o1 c80].flatten _ := hP
      have hD : va_D A [WCB k b0 o0 c79, WCB k b1 o1 c80].flatten := hD
      refine lv_istore (lv' := [(13, .int r81), (12, .int ((cv (11 + i78)) &&& 1)), (11, .int (cv (11 + i78))), (0, .ref b), (1, .ref (b0 o0)), (2, .ref (b1 o1)), (4, .int i74), (5, .int i75), (7, .int i76), (9, .int i77), (10, .int i78)]) hx hb dL_law_340 hl (by decide) rfl (fun ls hl => ?_)
      refine lv_iconst (v := 1) hx hb dL_law_342 (by decide) ?_
      refine lv_iload hx hb dL_law_343 (lv_at hl 2 rfl) ?_
      refine lv_iconst (v := 5) hx hb dL_law_345 (by decide) ?_
      refine lv_ishr hx hb dL_law_346 ?_
      refine lv_iconst (v := 1) hx hb dL_law_347 (by decide) ?_
      refine lv_iand hx hb dL_law_348 ?_
      refine lv_if_ne (tgt := 365) hx hb dL_law_349 (by decide) (fun hc => ?_) (fun hc => ?_)
      · have hf := ofneg hf hc
        refine lv_iload hx hb dL_law_365 (lv_at hl 2 rfl) ?_
        refine lv_bipush (v := 6) hx hb dL_law_367 (by decide) ?_
        refine lv_ishr hx hb dL_law_369 ?_
        refine lv_ldc (v := 100000) hx hb hown (hts _ kc_L_109) dL_law_370 ?_
        obtain ⟨r82, hg_r82, hf⟩ := ofbind hf
        refine kcSC (bs := [WCB k b0 o0 c79, WCB k b1 o1 c80]) (br := [WCB k b0 o0 c79, WCB k b1 o1 c80]) (bc := []) (bc' := []) X hP hD hS (c_L_low l D k t ((cv (11 + i78)) >>> (6 &&& 31)) 100000 r82 hg_r82) ms_L_77 hl [0, 1] [] ⟨rfl, rfl⟩ ⟨Nat.le_of_ble_eq_true rfl, Nat.le_of_ble_eq_true rfl⟩ Y.1 rfl rfl rfl rfl (Nat.le_of_ble_eq_true rfl) dL_law_372 (fun H locs hP hD hS => ?_)
        have hP : va_P D vwCl [WCB k b0 o0 c79, WCB k b1 o1 c80].flatten _ := hP
        have hD : va_D A [WCB k b0 o0 c79, WCB k b1 o1 c80].flatten := hD
        exact w_L_law_J375 X b0 o0 s0 b1 o1 s1 N cv Y i74 i75 i76 i77 i78 (cv (11 + i78)) ((cv (11 + i78)) &&& 1) r81 1 r82 c79 c80 out _ ih _ _ _ hP hD hS (lv_sub hl [3, 4, 5, 6, 7, 8, 9, 10, 2, 1, 0] rfl) hf
      · have hf := ofpos hf hc
        refine lv_iload hx hb dL_law_352 (lv_at hl 2 rfl) ?_
        refine lv_bipush (v := 6) hx hb dL_law_354 (by decide) ?_
        refine lv_ishr hx hb dL_law_356 ?_
        refine lv_bipush (v := 12) hx hb dL_law_357 (by decide) ?_
        obtain ⟨r139, hg_r139, hf⟩ := ofbind hf
        refine kcSC (bs := [WCB k b0 o0 c79, WCB k b1 o1 c80]) (br := [WCB k b0 o0 c79, WCB k b1 o1 c80]) (bc := []) (bc' := []) X hP hD hS (c_L_low l D k t ((cv (11 + i78)) >>> (6 &&& 31)) 12 r139 hg_r139) ms_L_77 hl [0, 1] [] ⟨rfl, rfl⟩ ⟨Nat.le_of_ble_eq_true rfl, Nat.le_of_ble_eq_true rfl⟩ Y.1 rfl rfl rfl rfl (Nat.le_of_ble_eq_true rfl) dL_law_359 (fun H locs hP hD hS => ?_)
        have hP : va_P D vwCl [WCB k b0 o0 c79, WCB k b1 o1 c80].flatten _ := hP
        have hD : va_D A [WCB k b0 o0 c79, WCB k b1 o1 c80].flatten := hD
        refine lv_goto (tgt := 375) hx hb dL_law_362 (by decide) ?_
        exact w_L_law_J375 X b0 o0 s0 b1 o1 s1 N cv Y i74 i75 i76 i77 i78 (cv (11 + i78)) ((cv (11 + i78)) &&& 1) r81 1 r139 c79 c80 out _ ih _ _ _ hP hD hS (lv_sub hl [3, 4, 5, 6, 7, 8, 9, 10, 2, 1, 0] rfl) hf
set_option maxRecDepth 100000 in
set_option maxHeartbeats 8000000 in
theorem w_L_law_L544 {p : Program} {l : Launch} {e : Env} {s : State} {m : MethodId} {below : List Frame} {meth : Method} {c : Code} {args : Array Value} {A : Nat → Prop} {D : va_G} {k : Nat → ClassId} {t : Nat → Nat} (X : BX l D k t p s m args meth c cL_law 20 RL (some .boolean) A) (b0 : Nat → Nat) (o0 : Nat) (s0 : CBS) (b1 : Nat → Nat) (o1 : Nat) (s1 : CBS) (N : Nat) (cv : Int32 → Int32) {cells slots : Nat} {Q : State → Prop} {b L : Nat} {xs : Nat → Int32} (Y : LB l p e s m args below meth c A cells slots Q b L xs cv) (i149 : Int32) (i150 : Int32) (i151 : Int32) (i152 : Int32) (c154 : CBS) (c155 : CBS) (out : Int32) (K610 : Int32 → Option Int32) (hK610 : ∀ (i153' : Int32) (H : Heap) (locs : List Loc) (ls : Array Slot), va_P D vwCl [WCB k b0 o0 c154, WCB k b1 o1 c155].flatten H → va_D A [WCB k b0 o0 c154, WCB k b1 o1 c155].flatten → va_S A s.heap H locs → lv_has ls 20 [(1, .ref (b0 o0)), (2, .ref (b1 o1)), (4, .int i149), (5, .int i150), (7, .int i151), (9, .int i152)] → K610 i153' = some out → W p l e room_1 s m args below meth c H locs cells slots Q (F0 m 610 ls [])) : ∀ (n : Nat) (i153 : Int32) (H : Heap) (locs : List Loc) (ls : Array Slot), va_P D vwCl [WCB k b0 o0 c154, WCB k b1 o1 c155].flatten H → va_D A [WCB k b0 o0 c154, WCB k b1 o1 c155].flatten → va_S A s.heap H locs → lv_has ls 20 [(1, .ref (b0 o0)), (2, .ref (b1 o1)), (4, .int i149), (5, .int i150), (7, .int i151), (9, .int i152), (10, .int i153)] → f_L_law_L544 N i149 c154 c155 K610 n i153 = some out → W p l e room_1 s m args below meth c H locs cells slots Q (F0 m 544 ls []) := by
  have hx := X.1.1
  have hb := X.1.2.1
  have hml := X.1.2.2.1
  have hown := X.1.2.2.2.1
  have hts := X.1.2.2.2.2
  intro n
  induction n with
  | zero =>
    intro i153 H locs ls hP hD hS hl hf
    rw [f_L_law_L544] at hf
    cases hf
  | succ n ih =>
    intro i153 H locs ls hP hD hS hl hf
    rw [f_L_law_L544] at hf
    refine lv_iload hx hb dL_law_544 (lv_at hl 6 rfl) ?_
    refine lv_iload hx hb dL_law_546 (lv_at hl 2 rfl) ?_
    refine lv_icmp_ge (tgt := 610) hx hb dL_law_548 (by decide) (fun hc => ?_) (fun hc => ?_)
    · have hf := ofpos hf hc
      exact hK610 i153 _ _ _ hP hD hS (lv_sub hl [0, 1, 2, 3, 4, 5] rfl) hf
    · have hf := ofneg hf hc
      refine lv_aload_n hx hb dL_law_551 rfl (lv_at hl 0 rfl) ?_
      refine lv_iconst (v := 0) hx hb dL_law_552 (by decide) ?_
      refine lv_iload hx hb dL_law_553 (lv_at hl 6 rfl) ?_
      obtain ⟨r156, hg_r156, hf⟩ := ofbind hf
      refine kcVC (bs := [WCB k b0 o0 c154, WCB k b1 o1 c155]) (br := [WCB k b1 o1 c155]) (bc := [WCB k b0 o0 c154]) (bc' := [WCB k b0 o0 c154]) X hP hD hS (c_W_rest l D k t b0 o0 c154 0 i153 N r156 hg_r156) mv_L_58 hl [1] [0] 7 ⟨rfl, rfl⟩ ⟨Nat.le_of_ble_eq_true rfl, Nat.le_of_ble_eq_true rfl⟩ Y.1 rfl rfl rfl rfl rfl rfl rfl (Nat.le_of_ble_eq_true rfl) dL_law_555 (fun H locs hP hD hS => ?_)
      have hP : va_P D vwCl [WCB k b1 o1 c155, WCB k b0 o0 c154].flatten _ := hP
      have hD : va_D A [WCB k b1 o1 c155, WCB k b0 o0 c154].flatten := hD
      refine lv_aload_n hx hb dL_law_558 rfl (lv_at hl 1 rfl) ?_
      refine lv_iconst (v := 0) hx hb dL_law_559 (by decide) ?_
      refine lv_iload hx hb dL_law_560 (lv_at hl 6 rfl) ?_
      obtain ⟨r157, hg_r157, hf⟩ := ofbind hf
      refine kcVC (bs := [WCB k b1 o1 c155, WCB k b0 o0 c154]) (br := [WCB k b0 o0 c154]) (bc := [WCB k b1 o1 c155]) (bc' := [WCB k b1 o1 c155]) X hP hD hS (c_W_rest l D k t b1 o1 c155 0 i153 N r157 hg_r157) mv_L_58 hl [1] [0] 7 ⟨rfl, rfl⟩ ⟨Nat.le_of_ble_eq_true rfl, Nat.le_of_ble_eq_true rfl⟩ Y.1 rfl rfl rfl rfl rfl rfl rfl (Nat.le_of_ble_eq_true rfl) dL_law_562 (fun H locs hP hD hS => ?_)
      have hP : va_P D vwCl [WCB k b0 o0 c154, WCB k b1 o1 c155].flatten _ := hP
      have hD : va_D A [WCB k b0 o0 c154, WCB k b1 o1 c155].flatten := hD
      refine lv_icmp_ne (tgt := 602) hx hb dL_law_565 (by decide) (fun hc => ?_) (fun hc => ?_)
      · have hf := ofneg hf hc
        refine lv_iconst (v := 0) hx hb dL_law_602 (by decide) ?_
        cases hf
      · have hf := ofpos hf hc
        refine lv_aload_n hx hb dL_law_568 rfl (lv_at hl 0 rfl) ?_
        refine lv_iconst (v := 1) hx hb dL_law_569 (by decide) ?_
        refine lv_iload hx hb dL_law_570 (lv_at hl 6 rfl) ?_
        obtain ⟨r158, hg_r158, hf⟩ := ofbind hf
        refine kcVC (bs := [WCB k b0 o0 c154, WCB k b1 o1 c155]) (br := [WCB k b1 o1 c155]) (bc := [WCB k b0 o0 c154]) (bc' := [WCB k b0 o0 c154]) X hP hD hS (c_W_rest l D k t b0 o0 c154 1 i153 N r158 hg_r158) mv_L_58 hl [1] [0] 7 ⟨rfl, rfl⟩ ⟨Nat.le_of_ble_eq_true rfl, Nat.le_of_ble_eq_true rfl⟩ Y.1 rfl rfl rfl rfl rfl rfl rfl (Nat.le_of_ble_eq_true rfl) dL_law_572 (fun H locs hP hD hS => ?_)
        have hP : va_P D vwCl [WCB k b1 o1 c155, WCB k b0 o0 c154].flatten _ := hP
        have hD : va_D A [WCB k b1 o1 c155, WCB k b0 o0 c154].flatten := hD
        refine lv_aload_n hx hb dL_law_575 rfl (lv_at hl 1 rfl) ?_
        refine lv_iconst (v := 1) hx hb dL_law_576 (by decide) ?_
        refine lv_iload hx hb dL_law_577 (lv_at hl 6 rfl) ?_
        obtain ⟨r159, hg_r159, hf⟩ := ofbind hf
        refine kcVC (bs := [WCB k b1 o1 c155, WCB k b0 o0 c154]) (br := [WCB k b0 o0 c154]) (bc := [WCB k b1 o1 c155]) (bc' := [WCB k b1 o1 c155]) X hP hD hS (c_W_rest l D k t b1 o1 c155 1 i153 N r159 hg_r159) mv_L_58 hl [1] [0] 7 ⟨rfl, rfl⟩ ⟨Nat.le_of_ble_eq_true rfl, Nat.le_of_ble_eq_true rfl⟩ Y.1 rfl rfl rfl rfl rfl rfl rfl (Nat.le_of_ble_eq_true rfl) dL_law_579 (fun H locs hP hD hS => ?_)
        have hP : va_P D vwCl [WCB k b0 o0 c154, WCB k b1 o1 c155].flatten _ := hP
        have hD : va_D A [WCB k b0 o0 c154, WCB k b1 o1 c155].flatten := hD
        refine lv_icmp_ne (tgt := 602) hx hb dL_law_582 (by decide) (fun hc => ?_) (fun hc => ?_)
        · have hf := ofneg hf hc
          refine lv_iconst (v := 0) hx hb dL_law_602 (by decide) ?_
          cases hf
        · have hf := ofpos hf hc
          refine lv_aload_n hx hb dL_law_585 rfl (lv_at hl 0 rfl) ?_
          refine lv_iconst (v := 1) hx hb dL_law_586 (by decide) ?_
          refine lv_iload hx hb dL_law_587 (lv_at hl 6 rfl) ?_
          obtain ⟨r160, hg_r160, hf⟩ := ofbind hf
          refine kcVC (bs := [WCB k b0 o0 c154, WCB k b1 o1 c155]) (br := [WCB k b1 o1 c155]) (bc := [WCB k b0 o0 c154]) (bc' := [WCB k b0 o0 c154]) X hP hD hS (c_W_isMarked l D k t b0 o0 c154 1 i153 N r160 hg_r160) mv_L_62 hl [1] [0] 7 ⟨rfl, rfl⟩ ⟨Nat.le_of_ble_eq_true rfl, Nat.le_of_ble_eq_true rfl⟩ Y.1 rfl rfl rfl rfl rfl rfl rfl (Nat.le_of_ble_eq_true rfl) dL_law_589 (fun H locs hP hD hS => ?_)
          have hP : va_P D vwCl [WCB k b1 o1 c155, WCB k b0 o0 c154].flatten _ := hP
          have hD : va_D A [WCB k b1 o1 c155, WCB k b0 o0 c154].flatten := hD
          refine lv_aload_n hx hb dL_law_592 rfl (lv_at hl 1 rfl) ?_
          refine lv_iconst (v := 1) hx hb dL_law_593 (by decide) ?_
          refine lv_iload hx hb dL_law_594 (lv_at hl 6 rfl) ?_
          obtain ⟨r161, hg_r161, hf⟩ := ofbind hf
          refine kcVC (bs := [WCB k b1 o1 c155, WCB k b0 o0 c154]) (br := [WCB k b0 o0 c154]) (bc := [WCB k b1 o1 c155]) (bc' := [WCB k b1 o1 c155]) X hP hD hS (c_W_isMarked l D k t b1 o1 c155 1 i153 N r161 hg_r161) mv_L_62 hl [1] [0] 7 ⟨rfl, rfl⟩ ⟨Nat.le_of_ble_eq_true rfl, Nat.le_of_ble_eq_true rfl⟩ Y.1 rfl rfl rfl rfl rfl rfl rfl (Nat.le_of_ble_eq_true rfl) dL_law_596 (fun H locs hP hD hS => ?_)
          have hP : va_P D vwCl [WCB k b0 o0 c154, WCB k b1 o1 c155].flatten _ := hP
          have hD : va_D A [WCB k b0 o0 c154, WCB k b1 o1 c155].flatten := hD
          refine lv_icmp_eq (tgt := 604) hx hb dL_law_599 (by decide) (fun hc => ?_) (fun hc => ?_)
          · have hf := ofpos hf hc
            refine lv_iinc (v := i153 + 1) (lv' := [(10, .int (i153 + 1)), (1, .ref (b0 o0)), (2, .ref (b1 o1)), (4, .int i149), (5, .int i150), (7, .int i151), (9, .int i152)]) hx hb dL_law_604 hl (k := 6) rfl rfl (by decide) rfl (fun ls hl => ?_)
            refine lv_goto (tgt := 544) hx hb dL_law_607 (by decide) ?_
            exact ih (i153 + 1) _ _ _ hP hD hS (lv_sub hl [1, 2, 3, 4, 5, 6, 0] rfl) hf
          · have hf := ofneg hf hc
            refine lv_iconst (v := 0) hx hb dL_law_602 (by decide) ?_
            cases hf
set_option maxRecDepth 100000 in
set_option maxHeartbeats 8000000 in
theorem w_L_law_L613 {p : Program} {l : Launch} {e : Env} {s : State} {m : MethodId} {below : List Frame} {meth : Method} {c : Code} {args : Array Value} {A : Nat → Prop} {D : va_G} {k : Nat → ClassId} {t : Nat → Nat} (X : BX l D k t p s m args meth c cL_law 20 RL (some .boolean) A) (b0 : Nat → Nat) (o0 : Nat) (s0 : CBS) (b1 : Nat → Nat) (o1 : Nat) (s1 : CBS) (N : Nat) (cv : Int32 → Int32) {cells slots : Nat} {Q : State → Prop} {b L : Nat} {xs : Nat → Int32} (Y : LB l p e s m args below meth c A cells slots Q b L xs cv) (i167 : Int32) (i168 : Int32) (i169 : Int32) (i170 : Int32) (c172 : CBS) (c173 : CBS) (out : Int32) (K664 : Int32 → Option Int32) (hK664 : ∀ (i171' : Int32) (H : Heap) (locs : List Loc) (ls : Array Slot), va_P D vwCl [WCB k b0 o0 c172, WCB k b1 o1 c173].flatten H → va_D A [WCB k b0 o0 c172, WCB k b1 o1 c173].flatten → va_S A s.heap H locs → lv_has ls 20 [(1, .ref (b0 o0)), (4, .int i167), (5, .int i168), (7, .int i169), (9, .int i170)] → K664 i171' = some out → W p l e room_1 s m args below meth c H locs cells slots Q (F0 m 664 ls [])) : ∀ (n : Nat) (i171 : Int32) (H : Heap) (locs : List Loc) (ls : Array Slot), va_P D vwCl [WCB k b0 o0 c172, WCB k b1 o1 c173].flatten H → va_D A [WCB k b0 o0 c172, WCB k b1 o1 c173].flatten → va_S A s.heap H locs → lv_has ls 20 [(1, .ref (b0 o0)), (2, .ref (b1 o1)), (4, .int i167), (5, .int i168), (7, .int i169), (9, .int i170), (10, .int i171)] → f_L_law_L613 N i169 c172 c173 K664 n i171 = some out → W p l e room_1 s m args below meth c H locs cells slots Q (F0 m 613 ls []) := by
  have hx := X.1.1
  have hb := X.1.2.1
  have hml := X.1.2.2.1
  have hown := X.1.2.2.2.1
  have hts := X.1.2.2.2.2
  intro n
  induction n with
  | zero =>
    intro i171 H locs ls hP hD hS hl hf
    rw [f_L_law_L613] at hf
    cases hf
  | succ n ih =>
    intro i171 H locs ls hP hD hS hl hf
    rw [f_L_law_L613] at hf
    refine lv_iload hx hb dL_law_613 (lv_at hl 6 rfl) ?_
    refine lv_iload hx hb dL_law_615 (lv_at hl 4 rfl) ?_
    refine lv_icmp_ge (tgt := 664) hx hb dL_law_617 (by decide) (fun hc => ?_) (fun hc => ?_)
    · have hf := ofpos hf hc
      exact hK664 i171 _ _ _ hP hD hS (lv_sub hl [0, 2, 3, 4, 5] rfl) hf
    · have hf := ofneg hf hc
      refine lv_aload_n hx hb dL_law_620 rfl (lv_at hl 0 rfl) ?_
      refine lv_iconst (v := 0) hx hb dL_law_621 (by decide) ?_
      refine lv_iload hx hb dL_law_622 (lv_at hl 6 rfl) ?_
      obtain ⟨r174, hg_r174, hf⟩ := ofbind hf
      refine kcVC (bs := [WCB k b0 o0 c172, WCB k b1 o1 c173]) (br := [WCB k b1 o1 c173]) (bc := [WCB k b0 o0 c172]) (bc' := [WCB k b0 o0 c172]) X hP hD hS (c_W_above l D k t b0 o0 c172 0 i171 N r174 hg_r174) mv_L_65 hl [1] [0] 7 ⟨rfl, rfl⟩ ⟨Nat.le_of_ble_eq_true rfl, Nat.le_of_ble_eq_true rfl⟩ Y.1 rfl rfl rfl rfl rfl rfl rfl (Nat.le_of_ble_eq_true rfl) dL_law_624 (fun H locs hP hD hS => ?_)
      have hP : va_P D vwCl [WCB k b1 o1 c173, WCB k b0 o0 c172].flatten _ := hP
      have hD : va_D A [WCB k b1 o1 c173, WCB k b0 o0 c172].flatten := hD
      refine lv_aload_n hx hb dL_law_627 rfl (lv_at hl 1 rfl) ?_
      refine lv_iconst (v := 0) hx hb dL_law_628 (by decide) ?_
      refine lv_iload hx hb dL_law_629 (lv_at hl 6 rfl) ?_
      obtain ⟨r175, hg_r175, hf⟩ := ofbind hf
      refine kcVC (bs := [WCB k b1 o1 c173, WCB k b0 o0 c172]) (br := [WCB k b0 o0 c172]) (bc := [WCB k b1 o1 c173]) (bc' := [WCB k b1 o1 c173]) X hP hD hS (c_W_above l D k t b1 o1 c173 0 i171 N r175 hg_r175) mv_L_65 hl [1] [0] 7 ⟨rfl, rfl⟩ ⟨Nat.le_of_ble_eq_true rfl, Nat.le_of_ble_eq_true rfl⟩ Y.1 rfl rfl rfl rfl rfl rfl rfl (Nat.le_of_ble_eq_true rfl) dL_law_631 (fun H locs hP hD hS => ?_)
      have hP : va_P D vwCl [WCB k b0 o0 c172, WCB k b1 o1 c173].flatten _ := hP
      have hD : va_D A [WCB k b0 o0 c172, WCB k b1 o1 c173].flatten := hD
      refine W.lcmp hx hb dL_law_634 ?_
      refine lv_if_ne (tgt := 656) hx hb dL_law_635 (by decide) (fun hc => ?_) (fun hc => ?_)
      · have hc := fun z => hc (lgq.mpr z)
        have hf := ofneg hf hc
        refine lv_iconst (v := 0) hx hb dL_law_656 (by decide) ?_
        cases hf
      · have hc := lgq.mp hc
        have hf := ofpos hf hc
        refine lv_aload_n hx hb dL_law_638 rfl (lv_at hl 0 rfl) ?_
        refine lv_iconst (v := 1) hx hb dL_law_639 (by decide) ?_
        refine lv_iload hx hb dL_law_640 (lv_at hl 6 rfl) ?_
        obtain ⟨r176, hg_r176, hf⟩ := ofbind hf
        refine kcVC (bs := [WCB k b0 o0 c172, WCB k b1 o1 c173]) (br := [WCB k b1 o1 c173]) (bc := [WCB k b0 o0 c172]) (bc' := [WCB k b0 o0 c172]) X hP hD hS (c_W_above l D k t b0 o0 c172 1 i171 N r176 hg_r176) mv_L_65 hl [1] [0] 7 ⟨rfl, rfl⟩ ⟨Nat.le_of_ble_eq_true rfl, Nat.le_of_ble_eq_true rfl⟩ Y.1 rfl rfl rfl rfl rfl rfl rfl (Nat.le_of_ble_eq_true rfl) dL_law_642 (fun H locs hP hD hS => ?_)
        have hP : va_P D vwCl [WCB k b1 o1 c173, WCB k b0 o0 c172].flatten _ := hP
        have hD : va_D A [WCB k b1 o1 c173, WCB k b0 o0 c172].flatten := hD
        refine lv_aload_n hx hb dL_law_645 rfl (lv_at hl 1 rfl) ?_
        refine lv_iconst (v := 1) hx hb dL_law_646 (by decide) ?_
        refine lv_iload hx hb dL_law_647 (lv_at hl 6 rfl) ?_
        obtain ⟨r177, hg_r177, hf⟩ := ofbind hf
        refine kcVC (bs := [WCB k b1 o1 c173, WCB k b0 o0 c172]) (br := [WCB k b0 o0 c172]) (bc := [WCB k b1 o1 c173]) (bc' := [WCB k b1 o1 c173]) X hP hD hS (c_W_above l D k t b1 o1 c173 1 i171 N r177 hg_r177) mv_L_65 hl [1] [0] 7 ⟨rfl, rfl⟩ ⟨Nat.le_of_ble_eq_true rfl, Nat.le_of_ble_eq_true rfl⟩ Y.1 rfl rfl rfl rfl rfl rfl rfl (Nat.le_of_ble_eq_true rfl) dL_law_649 (fun H locs hP hD hS => ?_)
        have hP : va_P D vwCl [WCB k b0 o0 c172, WCB k b1 o1 c173].flatten _ := hP
        have hD : va_D A [WCB k b0 o0 c172, WCB k b1 o1 c173].flatten := hD
        refine W.lcmp hx hb dL_law_652 ?_
        refine lv_if_eq (tgt := 658) hx hb dL_law_653 (by decide) (fun hc => ?_) (fun hc => ?_)
        · have hc := lgq.mp hc
          have hf := ofpos hf hc
          refine lv_iinc (v := i171 + 1) (lv' := [(10, .int (i171 + 1)), (1, .ref (b0 o0)), (2, .ref (b1 o1)), (4, .int i167), (5, .int i168), (7, .int i169), (9, .int i170)]) hx hb dL_law_658 hl (k := 6) rfl rfl (by decide) rfl (fun ls hl => ?_)
          refine lv_goto (tgt := 613) hx hb dL_law_661 (by decide) ?_
          exact ih (i171 + 1) _ _ _ hP hD hS (lv_sub hl [1, 2, 3, 4, 5, 6, 0] rfl) hf
        · have hc := fun z => hc (lgq.mpr z)
          have hf := ofneg hf hc
          refine lv_iconst (v := 0) hx hb dL_law_656 (by decide) ?_
          cases hf
set_option maxRecDepth 100000 in
set_option maxHeartbeats 8000000 in
theorem w_L_law_L685 {p : Program} {l : Launch} {e : Env} {s : State} {m : MethodId} {below : List Frame} {meth : Method} {c : Code} {args : Array Value} {A : Nat → Prop} {D : va_G} {k : Nat → ClassId} {t : Nat → Nat} (X : BX l D k t p s m args meth c cL_law 20 RL (some .boolean) A) (b0 : Nat → Nat) (o0 : Nat) (s0 : CBS) (b1 : Nat → Nat) (o1 : Nat) (s1 : CBS) (N : Nat) (cv : Int32 → Int32) {cells slots : Nat} {Q : State → Prop} {b L : Nat} {xs : Nat → Int32} (Y : LB l p e s m args below meth c A cells slots Q b L xs cv) (i182 : Int32) (i183 : Int32) (i184 : Int32) (i185 : Int32) (i186 : Int64) (c189 : CBS) (c190 : CBS) (out : Int32) (K710 : Int32 → Int32 → Option Int32) (hK710 : ∀ (i187' : Int32) (i188' : Int32) (H : Heap) (locs : List Loc) (ls : Array Slot), va_P D vwCl [WCB k b0 o0 c189, WCB k b1 o1 c190].flatten H → va_D A [WCB k b0 o0 c189, WCB k b1 o1 c190].flatten → va_S A s.heap H locs → lv_has ls 20 [(1, .ref (b0 o0)), (4, .int i182), (5, .int i183), (7, .int i184), (9, .int i185), (10, .long i186), (12, .int i187')] → K710 i187' i188' = some out → W p l e room_1 s m args below meth c H locs cells slots Q (F0 m 710 ls [])) : ∀ (n : Nat) (i187 : Int32) (i188 : Int32) (H : Heap) (locs : List Loc) (ls : Array Slot), va_P D vwCl [WCB k b0 o0 c189, WCB k b1 o1 c190].flatten H → va_D A [WCB k b0 o0 c189, WCB k b1 o1 c190].flatten → va_S A s.heap H locs → lv_has ls 20 [(1, .ref (b0 o0)), (4, .int i182), (5, .int i183), (7, .int i184), (9, .int i185), (10, .long i186), (12, .int i187), (13, .int i188)] → f_L_law_L685 N i182 c189 K710 n i187 i188 = some out → W p l e room_1 s m args below meth c H locs cells slots Q (F0 m 685 ls []) := by
  have hx := X.1.1
  have hb := X.1.2.1
  have hml := X.1.2.2.1
  have hown := X.1.2.2.2.1
  have hts := X.1.2.2.2.2
  intro n
  induction n with
  | zero =>
    intro i187 i188 H locs ls hP hD hS hl hf
    rw [f_L_law_L685] at hf
    cases hf
  | succ n ih =>
    intro i187 i188 H locs ls hP hD hS hl hf
    rw [f_L_law_L685] at hf
    refine lv_iload hx hb dL_law_685 (lv_at hl 7 rfl) ?_
    refine lv_iload hx hb dL_law_687 (lv_at hl 1 rfl) ?_
    refine lv_icmp_ge (tgt := 710) hx hb dL_law_689 (by decide) (fun hc => ?_) (fun hc => ?_)
    · have hf := ofpos hf hc
      exact hK710 i187 i188 _ _ _ hP hD hS (lv_sub hl [0, 1, 2, 3, 4, 5, 6] rfl) hf
    · have hf := ofneg hf hc
      refine lv_iload hx hb dL_law_692 (lv_at hl 6 rfl) ?_
      refine lv_aload_n hx hb dL_law_694 rfl (lv_at hl 0 rfl) ?_
      refine lv_iconst (v := 0) hx hb dL_law_695 (by decide) ?_
      refine lv_iload hx hb dL_law_696 (lv_at hl 7 rfl) ?_
      obtain ⟨r191, hg_r191, hf⟩ := ofbind hf
      refine kcVC (bs := [WCB k b0 o0 c189, WCB k b1 o1 c190]) (br := [WCB k b1 o1 c190]) (bc := [WCB k b0 o0 c189]) (bc' := [WCB k b0 o0 c189]) X hP hD hS (c_W_isMarked l D k t b0 o0 c189 0 i188 N r191 hg_r191) mv_L_62 hl [1] [0] 7 ⟨rfl, rfl⟩ ⟨Nat.le_of_ble_eq_true rfl, Nat.le_of_ble_eq_true rfl⟩ Y.1 rfl rfl rfl rfl rfl rfl rfl (Nat.le_of_ble_eq_true rfl) dL_law_698 (fun H locs hP hD hS => ?_)
      have hP : va_P D vwCl [WCB k b1 o1 c190, WCB k b0 o0 c189].flatten _ := hP
      have hD : va_D A [WCB k b1 o1 c190, WCB k b0 o0 c189].flatten := hD
      refine lv_iadd hx hb dL_law_701 ?_
      refine lv_istore (lv' := [(12, .int (i187 + r191)), (1, .ref (b0 o0)), (4, .int i182), (5, .int i183), (7, .int i184), (9, .int i185), (10, .long i186), (13, .int i188)]) hx hb dL_law_702 hl (by decide) rfl (fun ls hl => ?_)
      refine lv_iinc (v := i188 + 1) (lv' := [(13, .int (i188 + 1)), (12, .int (i187 + r191)), (1, .ref (b0 o0)), (4, .int i182), (5, .int i183), (7, .int i184), (9, .int i185), (10, .long i186)]) hx hb dL_law_704 hl (k := 7) rfl rfl (by decide) rfl (fun ls hl => ?_)
      refine lv_goto (tgt := 685) hx hb dL_law_707 (by decide) ?_
      obtain ⟨hP, hD⟩ := B_perm (br := [WCB k b0 o0 c189, WCB k b1 o1 c190]) hP hD [1, 0] rfl rfl
      have hP : va_P D vwCl [WCB k b0 o0 c189, WCB k b1 o1 c190].flatten _ := hP
      have hD : va_D A [WCB k b0 o0 c189, WCB k b1 o1 c190].flatten := hD
      exact ih (i187 + r191) (i188 + 1) _ _ _ hP hD hS (lv_sub hl [2, 3, 4, 5, 6, 7, 1, 0] rfl) hf
set_option maxRecDepth 100000 in
set_option maxHeartbeats 8000000 in
theorem w_L_law_L724 {p : Program} {l : Launch} {e : Env} {s : State} {m : MethodId} {below : List Frame} {meth : Method} {c : Code} {args : Array Value} {A : Nat → Prop} {D : va_G} {k : Nat → ClassId} {t : Nat → Nat} (X : BX l D k t p s m args meth c cL_law 20 RL (some .boolean) A) (b0 : Nat → Nat) (o0 : Nat) (s0 : CBS) (b1 : Nat → Nat) (o1 : Nat) (s1 : CBS) (N : Nat) (cv : Int32 → Int32) {cells slots : Nat} {Q : State → Prop} {b L : Nat} {xs : Nat → Int32} (Y : LB l p e s m args below meth c A cells slots Q b L xs cv) (i196 : Int32) (i197 : Int32) (i198 : Int32) (i199 : Int32) (i200 : Int64) (i201 : Int32) (i202 : Int32) (c205 : CBS) (c206 : CBS) (out : Int32) (K749 : Int32 → Int32 → Option Int32) (hK749 : ∀ (i203' : Int32) (i204' : Int32) (H : Heap) (locs : List Loc) (ls : Array Slot), va_P D vwCl [WCB k b0 o0 c205, WCB k b1 o1 c206].flatten H → va_D A [WCB k b0 o0 c205, WCB k b1 o1 c206].flatten → va_S A s.heap H locs → lv_has ls 20 [(1, .ref (b0 o0)), (4, .int i196), (5, .int i197), (7, .int i198), (9, .int i199), (10, .long i200), (12, .int i201), (13, .int i202), (14, .int i203')] → K749 i203' i204' = some out → W p l e room_1 s m args below meth c H locs cells slots Q (F0 m 749 ls [])) : ∀ (n : Nat) (i203 : Int32) (i204 : Int32) (H : Heap) (locs : List Loc) (ls : Array Slot), va_P D vwCl [WCB k b0 o0 c205, WCB k b1 o1 c206].flatten H → va_D A [WCB k b0 o0 c205, WCB k b1 o1 c206].flatten → va_S A s.heap H locs → lv_has ls 20 [(1, .ref (b0 o0)), (4, .int i196), (5, .int i197), (7, .int i198), (9, .int i199), (10, .long i200), (12, .int i201), (13, .int i202), (14, .int i203), (15, .int i204)] → f_L_law_L724 N i196 c205 K749 n i203 i204 = some out → W p l e room_1 s m args below meth c H locs cells slots Q (F0 m 724 ls []) := by
  have hx := X.1.1
  have hb := X.1.2.1
  have hml := X.1.2.2.1
  have hown := X.1.2.2.2.1
  have hts := X.1.2.2.2.2
  intro n
  induction n with
  | zero =>
    intro i203 i204 H locs ls hP hD hS hl hf
    rw [f_L_law_L724] at hf
    cases hf
  | succ n ih =>
    intro i203 i204 H locs ls hP hD hS hl hf
    rw [f_L_law_L724] at hf
    refine lv_iload hx hb dL_law_724 (lv_at hl 9 rfl) ?_
    refine lv_iload hx hb dL_law_726 (lv_at hl 1 rfl) ?_
    refine lv_icmp_ge (tgt := 749) hx hb dL_law_728 (by decide) (fun hc => ?_) (fun hc => ?_)
    · have hf := ofpos hf hc
      exact hK749 i203 i204 _ _ _ hP hD hS (lv_sub hl [0, 1, 2, 3, 4, 5, 6, 7, 8] rfl) hf
    · have hf := ofneg hf hc
      refine lv_iload hx hb dL_law_731 (lv_at hl 8 rfl) ?_
      refine lv_aload_n hx hb dL_law_733 rfl (lv_at hl 0 rfl) ?_
      refine lv_iconst (v := 0) hx hb dL_law_734 (by decide) ?_
      refine lv_iload hx hb dL_law_735 (lv_at hl 9 rfl) ?_
      obtain ⟨r207, hg_r207, hf⟩ := ofbind hf
      refine kcVC (bs := [WCB k b0 o0 c205, WCB k b1 o1 c206]) (br := [WCB k b1 o1 c206]) (bc := [WCB k b0 o0 c205]) (bc' := [WCB k b0 o0 c205]) X hP hD hS (c_W_isMarked l D k t b0 o0 c205 0 i204 N r207 hg_r207) mv_L_62 hl [1] [0] 7 ⟨rfl, rfl⟩ ⟨Nat.le_of_ble_eq_true rfl, Nat.le_of_ble_eq_true rfl⟩ Y.1 rfl rfl rfl rfl rfl rfl rfl (Nat.le_of_ble_eq_true rfl) dL_law_737 (fun H locs hP hD hS => ?_)
      have hP : va_P D vwCl [WCB k b1 o1 c206, WCB k b0 o0 c205].flatten _ := hP
      have hD : va_D A [WCB k b1 o1 c206, WCB k b0 o0 c205].flatten := hD
      refine lv_iadd hx hb dL_law_740 ?_
      refine lv_istore (lv' := [(14, .int (i203 + r207)), (1, .ref (b0 o0)), (4, .int i196), (5, .int i197), (7, .int i198), (9, .int i199), (10, .long i200), (12, .int i201), (13, .int i202), (15, .int i204)]) hx hb dL_law_741 hl (by decide) rfl (fun ls hl => ?_)
      refine lv_iinc (v := i204 + 1) (lv' := [(15, .int (i204 + 1)), (14, .int (i203 + r207)), (1, .ref (b0 o0)), (4, .int i196), (5, .int i197), (7, .int i198), (9, .int i199), (10, .long i200), (12, .int i201), (13, .int i202)]) hx hb dL_law_743 hl (k := 9) rfl rfl (by decide) rfl (fun ls hl => ?_)
      refine lv_goto (tgt := 724) hx hb dL_law_746 (by decide) ?_
      obtain ⟨hP, hD⟩ := B_perm (br := [WCB k b0 o0 c205, WCB k b1 o1 c206]) hP hD [1, 0] rfl rfl
      have hP : va_P D vwCl [WCB k b0 o0 c205, WCB k b1 o1 c206].flatten _ := hP
      have hD : va_D A [WCB k b0 o0 c205, WCB k b1 o1 c206].flatten := hD
      exact ih (i203 + r207) (i204 + 1) _ _ _ hP hD hS (lv_sub hl [2, 3, 4, 5, 6, 7, 8, 9, 1, 0] rfl) hf
set_option maxRecDepth 100000 in
set_option maxHeartbeats 8000000 in
theorem w_L_law_J906 {p : Program} {l : Launch} {e : Env} {s : State} {m : MethodId} {below : List Frame} {meth : Method} {c : Code} {args : Array Value} {A : Nat → Prop} {D : va_G} {k : Nat → ClassId} {t : Nat → Nat} (X : BX l D k t p s m args meth c cL_law 20 RL (some .boolean) A) (b0 : Nat → Nat) (o0 : Nat) (s0 : CBS) (b1 : Nat → Nat) (o1 : Nat) (s1 : CBS) (N : Nat) (cv : Int32 → Int32) {cells slots : Nat} {Q : State → Prop} {b L : Nat} {xs : Nat → Int32} (Y : LB l p e s m args below meth c A cells slots Q b L xs cv) (c216 : CBS) (c217 : CBS) (out : Int32) : ∀ (H : Heap) (locs : List Loc) (ls : Array Slot), va_P D vwCl [WCB k b0 o0 c216, WCB k b1 o1 c217].flatten H → va_D A [WCB k b0 o0 c216, WCB k b1 o1 c217].flatten → va_S A s.heap H locs → lv_has ls 20 [] → f_L_law_J906 = some out → W p l e room_1 s m args below meth c H locs cells slots Q (F0 m 906 ls []) := by
  have hx := X.1.1
  have hb := X.1.2.1
  have hml := X.1.2.2.1
  have hown := X.1.2.2.2.1
  have hts := X.1.2.2.2.2
  intro H locs ls hP hD hS hl hf
  rw [f_L_law_J906] at hf
  refine lv_iconst (v := 0) hx hb dL_law_906 (by decide) ?_
  cases hf
set_option maxRecDepth 100000 in
set_option maxHeartbeats 8000000 in
theorem w_L_law_J1038 {p : Program} {l : Launch} {e : Env} {s : State} {m : MethodId} {below : List Frame} {meth : Method} {c : Code} {args : Array Value} {A : Nat → Prop} {D : va_G} {k : Nat → ClassId} {t : Nat → Nat} (X : BX l D k t p s m args meth c cL_law 20 RL (some .boolean) A) (b0 : Nat → Nat) (o0 : Nat) (s0 : CBS) (b1 : Nat → Nat) (o1 : Nat) (s1 : CBS) (N : Nat) (cv : Int32 → Int32) {cells slots : Nat} {Q : State → Prop} {b L : Nat} {xs : Nat → Int32} (Y : LB l p e s m args below meth c A cells slots Q b L xs cv) (c234 : CBS) (c235 : CBS) (out : Int32) : ∀ (H : Heap) (locs : List Loc) (ls : Array Slot), va_P D vwCl [WCB k b0 o0 c234, WCB k b1 o1 c235].flatten H → va_D A [WCB k b0 o0 c234, WCB k b1 o1 c235].flatten → va_S A s.heap H locs → lv_has ls 20 [] → f_L_law_J1038 = some out → W p l e room_1 s m args below meth c H locs cells slots Q (F0 m 1038 ls []) := by
  have hx := X.1.1
  have hb := X.1.2.1
  have hml := X.1.2.2.1
  have hown := X.1.2.2.2.1
  have hts := X.1.2.2.2.2
  intro H locs ls hP hD hS hl hf
  rw [f_L_law_J1038] at hf
  refine lv_iconst (v := 0) hx hb dL_law_1038 (by decide) ?_
  cases hf
set_option maxRecDepth 100000 in
set_option maxHeartbeats 8000000 in
theorem w_L_law_J908 {p : Program} {l : Launch} {e : Env} {s : State} {m : MethodId} {below : List Frame} {meth : Method} {c : Code} {args : Array Value} {A : Nat → Prop} {D : va_G} {k : Nat → ClassId} {t : Nat → Nat} (X : BX l D k t p s m args meth c cL_law 20 RL (some .boolean) A) (b0 : Nat → Nat) (o0 : Nat) (s0 : CBS) (b1 : Nat → Nat) (o1 : Nat) (s1 : CBS) (N : Nat) (cv : Int32 → Int32) {cells slots : Nat} {Q : State → Prop} {b L : Nat} {xs : Nat → Int32} (Y : LB l p e s m args below meth c A cells slots Q b L xs cv) (j227 : Int32) (j228 : Int32) (j229 : Int32) (c230 : CBS) (c231 : CBS) (out : Int32) : ∀ (H : Heap) (locs : List Loc) (ls : Array Slot), va_P D vwCl [WCB k b0 o0 c230, WCB k b1 o1 c231].flatten H → va_D A [WCB k b0 o0 c230, WCB k b1 o1 c231].flatten → va_S A s.heap H locs → lv_has ls 20 [(1, .ref (b0 o0)), (4, .int j227), (5, .int j228), (7, .int j229)] → f_L_law_J908 N j227 j228 j229 c230 = some out → W p l e room_1 s m args below meth c H locs cells slots Q (F0 m 908 ls []) := by
  have hx := X.1.1
  have hb := X.1.2.1
  have hml := X.1.2.2.1
  have hown := X.1.2.2.2.1
  have hts := X.1.2.2.2.2
  intro H locs ls hP hD hS hl hf
  rw [f_L_law_J908] at hf
  refine lv_aload_n hx hb dL_law_908 rfl (lv_at hl 0 rfl) ?_
  obtain ⟨r232, hg_r232, hf⟩ := ofbind hf
  refine kcVC (bs := [WCB k b0 o0 c230, WCB k b1 o1 c231]) (br := [WCB k b1 o1 c231]) (bc := [WCB k b0 o0 c230]) (bc' := [WCB k b0 o0 c230]) X hP hD hS (c_W_digest l D k t b0 o0 c230 N r232 hg_r232) mv_L_110 hl [1] [0] 7 ⟨rfl, rfl⟩ ⟨Nat.le_of_ble_eq_true rfl, Nat.le_of_ble_eq_true rfl⟩ Y.1 rfl rfl rfl rfl rfl rfl rfl (Nat.le_of_ble_eq_true rfl) dL_law_909 (fun H locs hP hD hS => ?_)
  have hP : va_P D vwCl [WCB k b1 o1 c231, WCB k b0 o0 c230].flatten _ := hP
  have hD : va_D A [WCB k b1 o1 c231, WCB k b0 o0 c230].flatten := hD
  refine lv_lstore (lv' := [(17, .long r232), (1, .ref (b0 o0)), (4, .int j227), (5, .int j228), (7, .int j229)]) hx hb dL_law_912 hl (by decide) rfl (fun ls hl => ?_)
  refine lv_aload_n hx hb dL_law_914 rfl (lv_at hl 1 rfl) ?_
  obtain ⟨r233, hg_r233, hf⟩ := ofbind hf
  refine kcVC (bs := [WCB k b1 o1 c231, WCB k b0 o0 c230]) (br := [WCB k b1 o1 c231]) (bc := [WCB k b0 o0 c230]) (bc' := [WCB k b0 o0 c230]) X hP hD hS (c_W_bits l D k t b0 o0 c230 N r233 hg_r233) mv_L_133 hl [0] [1] 7 ⟨rfl, rfl⟩ ⟨Nat.le_of_ble_eq_true rfl, Nat.le_of_ble_eq_true rfl⟩ Y.1 rfl rfl rfl rfl rfl rfl rfl (Nat.le_of_ble_eq_true rfl) dL_law_915 (fun H locs hP hD hS => ?_)
  have hP : va_P D vwCl [WCB k b1 o1 c231, WCB k b0 o0 c230].flatten _ := hP
  have hD : va_D A [WCB k b1 o1 c231, WCB k b0 o0 c230].flatten := hD
  refine lv_iload hx hb dL_law_918 (lv_at hl 2 rfl) ?_
  refine lv_iload hx hb dL_law_920 (lv_at hl 3 rfl) ?_
  refine lv_iconst (v := 1) hx hb dL_law_922 (by decide) ?_
  refine lv_iadd hx hb dL_law_923 ?_
  refine lv_imul hx hb dL_law_924 ?_
  refine lv_bipush (v := 32) hx hb dL_law_925 (by decide) ?_
  refine lv_iload hx hb dL_law_927 (lv_at hl 4 rfl) ?_
  refine lv_imul hx hb dL_law_929 ?_
  refine lv_iadd hx hb dL_law_930 ?_
  refine lv_icmp_ne (tgt := 1038) hx hb dL_law_931 (by decide) (fun hc => ?_) (fun hc => ?_)
  · have hf := ofneg hf hc
    obtain ⟨hP, hD⟩ := B_perm (br := [WCB k b0 o0 c230, WCB k b1 o1 c231]) hP hD [1, 0] rfl rfl
    have hP : va_P D vwCl [WCB k b0 o0 c230, WCB k b1 o1 c231].flatten _ := hP
    have hD : va_D A [WCB k b0 o0 c230, WCB k b1 o1 c231].flatten := hD
    exact w_L_law_J1038 X b0 o0 s0 b1 o1 s1 N cv Y c230 c231 out _ _ _ hP hD hS (lv_sub hl [] rfl) hf
  · have hf := ofpos hf hc
    refine lv_aload_n hx hb dL_law_934 rfl (lv_at hl 1 rfl) ?_
    refine lv_iconst (v := 2) hx hb dL_law_935 (by decide) ?_
    refine lv_iconst (v := 0) hx hb dL_law_936 (by decide) ?_
    refine lv_iconst (v := 1) hx hb dL_law_937 (by decide) ?_
    obtain ⟨r236, hg_r236, hf⟩ := ofbind hf
    refine kcVC (bs := [WCB k b1 o1 c231, WCB k b0 o0 c230]) (br := [WCB k b1 o1 c231]) (bc := [WCB k b0 o0 c230]) (bc' := [WCB k b0 o0 r236.2]) X hP hD hS (c_W_count l D k t b0 o0 c230 2 0 1 N r236 hg_r236) mv_L_114 hl [0] [1] 7 ⟨rfl, rfl⟩ ⟨Nat.le_of_ble_eq_true rfl, Nat.le_of_ble_eq_true rfl⟩ Y.1 rfl rfl rfl rfl rfl rfl rfl (Nat.le_of_ble_eq_true rfl) dL_law_938 (fun H locs hP hD hS => ?_)
    have hP : va_P D vwCl [WCB k b1 o1 c231, WCB k b0 o0 r236.2].flatten _ := hP
    have hD : va_D A [WCB k b1 o1 c231, WCB k b0 o0 r236.2].flatten := hD
    refine lv_ldc2 (v := (-2)) hx hb hown (hts _ kc_L_68) dL_law_941 ?_
    refine W.lcmp hx hb dL_law_944 ?_
    refine lv_if_ne (tgt := 1038) hx hb dL_law_945 (by decide) (fun hc => ?_) (fun hc => ?_)
    · have hc := fun z => hc (lgq.mpr z)
      have hf := ofneg hf hc
      obtain ⟨hP, hD⟩ := B_perm (br := [WCB k b0 o0 r236.2, WCB k b1 o1 c231]) hP hD [1, 0] rfl rfl
      have hP : va_P D vwCl [WCB k b0 o0 r236.2, WCB k b1 o1 c231].flatten _ := hP
      have hD : va_D A [WCB k b0 o0 r236.2, WCB k b1 o1 c231].flatten := hD
      exact w_L_law_J1038 X b0 o0 s0 b1 o1 s1 N cv Y r236.2 c231 out _ _ _ hP hD hS (lv_sub hl [] rfl) hf
    · have hc := lgq.mp hc
      have hf := ofpos hf hc
      refine lv_aload_n hx hb dL_law_948 rfl (lv_at hl 1 rfl) ?_
      refine lv_iconst (v := 0) hx hb dL_law_949 (by decide) ?_
      refine lv_iconst (v := 0) hx hb dL_law_950 (by decide) ?_
      refine lv_iconst (v := 0) hx hb dL_law_951 (by decide) ?_
      obtain ⟨r237, hg_r237, hf⟩ := ofbind hf
      refine kcVC (bs := [WCB k b1 o1 c231, WCB k b0 o0 r236.2]) (br := [WCB k b1 o1 c231]) (bc := [WCB k b0 o0 r236.2]) (bc' := [WCB k b0 o0 r237.2]) X hP hD hS (c_W_count l D k t b0 o0 r236.2 0 0 0 N r237 hg_r237) mv_L_114 hl [0] [1] 7 ⟨rfl, rfl⟩ ⟨Nat.le_of_ble_eq_true rfl, Nat.le_of_ble_eq_true rfl⟩ Y.1 rfl rfl rfl rfl rfl rfl rfl (Nat.le_of_ble_eq_true rfl) dL_law_952 (fun H locs hP hD hS => ?_)
      have hP : va_P D vwCl [WCB k b1 o1 c231, WCB k b0 o0 r237.2].flatten _ := hP
      have hD : va_D A [WCB k b1 o1 c231, WCB k b0 o0 r237.2].flatten := hD
      refine lv_ldc2 (v := (-3)) hx hb hown (hts _ kc_L_136) dL_law_955 ?_
      refine W.lcmp hx hb dL_law_958 ?_
      refine lv_if_ne (tgt := 1038) hx hb dL_law_959 (by decide) (fun hc => ?_) (fun hc => ?_)
      · have hc := fun z => hc (lgq.mpr z)
        have hf := ofneg hf hc
        obtain ⟨hP, hD⟩ := B_perm (br := [WCB k b0 o0 r237.2, WCB k b1 o1 c231]) hP hD [1, 0] rfl rfl
        have hP : va_P D vwCl [WCB k b0 o0 r237.2, WCB k b1 o1 c231].flatten _ := hP
        have hD : va_D A [WCB k b0 o0 r237.2, WCB k b1 o1 c231].flatten := hD
        exact w_L_law_J1038 X b0 o0 s0 b1 o1 s1 N cv Y r237.2 c231 out _ _ _ hP hD hS (lv_sub hl [] rfl) hf
      · have hc := lgq.mp hc
        have hf := ofpos hf hc
        refine lv_aload_n hx hb dL_law_962 rfl (lv_at hl 1 rfl) ?_
        refine lv_iconst (v := 1) hx hb dL_law_963 (by decide) ?_
        refine lv_iconst (v := 1) hx hb dL_law_964 (by decide) ?_
        obtain ⟨r238, hg_r238, hf⟩ := ofbind hf
        refine kcVC (bs := [WCB k b1 o1 c231, WCB k b0 o0 r237.2]) (br := [WCB k b1 o1 c231]) (bc := [WCB k b0 o0 r237.2]) (bc' := [WCB k b0 o0 r238.2]) X hP hD hS (c_W_addBraid l D k t b0 o0 r237.2 1 1 N r238 hg_r238) mv_L_126 hl [0] [1] 7 ⟨rfl, rfl⟩ ⟨Nat.le_of_ble_eq_true rfl, Nat.le_of_ble_eq_true rfl⟩ Y.1 rfl rfl rfl rfl rfl rfl rfl (Nat.le_of_ble_eq_true rfl) dL_law_965 (fun H locs hP hD hS => ?_)
        have hP : va_P D vwCl [WCB k b1 o1 c231, WCB k b0 o0 r238.2].flatten _ := hP
        have hD : va_D A [WCB k b1 o1 c231, WCB k b0 o0 r238.2].flatten := hD
        refine lv_bipush (v := (-3)) hx hb dL_law_968 (by decide) ?_
        refine lv_icmp_ne (tgt := 1038) hx hb dL_law_970 (by decide) (fun hc => ?_) (fun hc => ?_)
        · have hf := ofneg hf hc
          obtain ⟨hP, hD⟩ := B_perm (br := [WCB k b0 o0 r238.2, WCB k b1 o1 c231]) hP hD [1, 0] rfl rfl
          have hP : va_P D vwCl [WCB k b0 o0 r238.2, WCB k b1 o1 c231].flatten _ := hP
          have hD : va_D A [WCB k b0 o0 r238.2, WCB k b1 o1 c231].flatten := hD
          exact w_L_law_J1038 X b0 o0 s0 b1 o1 s1 N cv Y r238.2 c231 out _ _ _ hP hD hS (lv_sub hl [] rfl) hf
        · have hf := ofpos hf hc
          refine lv_aload_n hx hb dL_law_973 rfl (lv_at hl 1 rfl) ?_
          refine lv_iconst (v := 1) hx hb dL_law_974 (by decide) ?_
          refine lv_iconst (v := 1) hx hb dL_law_975 (by decide) ?_
          refine lv_iconst (v := 1) hx hb dL_law_976 (by decide) ?_
          obtain ⟨r239, hg_r239, hf⟩ := ofbind hf
          refine kcVC (bs := [WCB k b1 o1 c231, WCB k b0 o0 r238.2]) (br := [WCB k b1 o1 c231]) (bc := [WCB k b0 o0 r238.2]) (bc' := [WCB k b0 o0 r239.2]) X hP hD hS (c_W_setFirst l D k t b0 o0 r238.2 1 1 1 N r239 hg_r239) mv_L_90 hl [0] [1] 7 ⟨rfl, rfl⟩ ⟨Nat.le_of_ble_eq_true rfl, Nat.le_of_ble_eq_true rfl⟩ Y.1 rfl rfl rfl rfl rfl rfl rfl (Nat.le_of_ble_eq_true rfl) dL_law_977 (fun H locs hP hD hS => ?_)
          have hP : va_P D vwCl [WCB k b1 o1 c231, WCB k b0 o0 r239.2].flatten _ := hP
          have hD : va_D A [WCB k b1 o1 c231, WCB k b0 o0 r239.2].flatten := hD
          refine lv_bipush (v := (-3)) hx hb dL_law_980 (by decide) ?_
          refine lv_icmp_ne (tgt := 1038) hx hb dL_law_982 (by decide) (fun hc => ?_) (fun hc => ?_)
          · have hf := ofneg hf hc
            obtain ⟨hP, hD⟩ := B_perm (br := [WCB k b0 o0 r239.2, WCB k b1 o1 c231]) hP hD [1, 0] rfl rfl
            have hP : va_P D vwCl [WCB k b0 o0 r239.2, WCB k b1 o1 c231].flatten _ := hP
            have hD : va_D A [WCB k b0 o0 r239.2, WCB k b1 o1 c231].flatten := hD
            exact w_L_law_J1038 X b0 o0 s0 b1 o1 s1 N cv Y r239.2 c231 out _ _ _ hP hD hS (lv_sub hl [] rfl) hf
          · have hf := ofpos hf hc
            refine lv_aload_n hx hb dL_law_985 rfl (lv_at hl 1 rfl) ?_
            refine lv_sipush (v := 1000) hx hb dL_law_986 (by decide) ?_
            obtain ⟨r240, hg_r240, hf⟩ := ofbind hf
            refine kcVC (bs := [WCB k b1 o1 c231, WCB k b0 o0 r239.2]) (br := [WCB k b1 o1 c231]) (bc := [WCB k b0 o0 r239.2]) (bc' := [WCB k b0 o0 r240.2]) X hP hD hS (c_W_addFlow l D k t b0 o0 r239.2 1000 N r240 hg_r240) mv_L_100 hl [0] [1] 7 ⟨rfl, rfl⟩ ⟨Nat.le_of_ble_eq_true rfl, Nat.le_of_ble_eq_true rfl⟩ Y.1 rfl rfl rfl rfl rfl rfl rfl (Nat.le_of_ble_eq_true rfl) dL_law_989 (fun H locs hP hD hS => ?_)
            have hP : va_P D vwCl [WCB k b1 o1 c231, WCB k b0 o0 r240.2].flatten _ := hP
            have hD : va_D A [WCB k b1 o1 c231, WCB k b0 o0 r240.2].flatten := hD
            refine lv_bipush (v := (-3)) hx hb dL_law_992 (by decide) ?_
            refine lv_icmp_ne (tgt := 1038) hx hb dL_law_994 (by decide) (fun hc => ?_) (fun hc => ?_)
            · have hf := ofneg hf hc
              obtain ⟨hP, hD⟩ := B_perm (br := [WCB k b0 o0 r240.2, WCB k b1 o1 c231]) hP hD [1, 0] rfl rfl
              have hP : va_P D vwCl [WCB k b0 o0 r240.2, WCB k b1 o1 c231].flatten _ := hP
              have hD : va_D A [WCB k b0 o0 r240.2, WCB k b1 o1 c231].flatten := hD
              exact w_L_law_J1038 X b0 o0 s0 b1 o1 s1 N cv Y r240.2 c231 out _ _ _ hP hD hS (lv_sub hl [] rfl) hf
            · have hf := ofpos hf hc
              refine lv_aload_n hx hb dL_law_997 rfl (lv_at hl 1 rfl) ?_
              refine lv_bipush (v := 7) hx hb dL_law_998 (by decide) ?_
              obtain ⟨r241, hg_r241, hf⟩ := ofbind hf
              refine kcVC (bs := [WCB k b1 o1 c231, WCB k b0 o0 r240.2]) (br := [WCB k b1 o1 c231]) (bc := [WCB k b0 o0 r240.2]) (bc' := [WCB k b0 o0 r240.2]) X hP hD hS (c_W_form l D k t b0 o0 r240.2 7 N r241 hg_r241) mv_L_14 hl [0] [1] 7 ⟨rfl, rfl⟩ ⟨Nat.le_of_ble_eq_true rfl, Nat.le_of_ble_eq_true rfl⟩ Y.1 rfl rfl rfl rfl rfl rfl rfl (Nat.le_of_ble_eq_true rfl) dL_law_1000 (fun H locs hP hD hS => ?_)
              have hP : va_P D vwCl [WCB k b1 o1 c231, WCB k b0 o0 r240.2].flatten _ := hP
              have hD : va_D A [WCB k b1 o1 c231, WCB k b0 o0 r240.2].flatten := hD
              refine lv_bipush (v := (-3)) hx hb dL_law_1003 (by decide) ?_
              refine lv_icmp_ne (tgt := 1038) hx hb dL_law_1005 (by decide) (fun hc => ?_) (fun hc => ?_)
              · have hf := ofneg hf hc
                obtain ⟨hP, hD⟩ := B_perm (br := [WCB k b0 o0 r240.2, WCB k b1 o1 c231]) hP hD [1, 0] rfl rfl
                have hP : va_P D vwCl [WCB k b0 o0 r240.2, WCB k b1 o1 c231].flatten _ := hP
                have hD : va_D A [WCB k b0 o0 r240.2, WCB k b1 o1 c231].flatten := hD
                exact w_L_law_J1038 X b0 o0 s0 b1 o1 s1 N cv Y r240.2 c231 out _ _ _ hP hD hS (lv_sub hl [] rfl) hf
              · have hf := ofpos hf hc
                refine lv_aload_n hx hb dL_law_1008 rfl (lv_at hl 1 rfl) ?_
                refine lv_iconst (v := 0) hx hb dL_law_1009 (by decide) ?_
                refine lv_iconst (v := 0) hx hb dL_law_1010 (by decide) ?_
                refine lv_iconst (v := 1) hx hb dL_law_1011 (by decide) ?_
                refine lv_bipush (v := 61) hx hb dL_law_1012 (by decide) ?_
                obtain ⟨r242, hg_r242, hf⟩ := ofbind hf
                refine kcVC (bs := [WCB k b1 o1 c231, WCB k b0 o0 r240.2]) (br := [WCB k b1 o1 c231]) (bc := [WCB k b0 o0 r240.2]) (bc' := [WCB k b0 o0 r242.2]) X hP hD hS (c_W_boundAfter l D k t b0 o0 r240.2 0 0 1 61 N r242 hg_r242) mv_L_30 hl [0] [1] 7 ⟨rfl, rfl⟩ ⟨Nat.le_of_ble_eq_true rfl, Nat.le_of_ble_eq_true rfl⟩ Y.1 rfl rfl rfl rfl rfl rfl rfl (Nat.le_of_ble_eq_true rfl) dL_law_1014 (fun H locs hP hD hS => ?_)
                have hP : va_P D vwCl [WCB k b1 o1 c231, WCB k b0 o0 r242.2].flatten _ := hP
                have hD : va_D A [WCB k b1 o1 c231, WCB k b0 o0 r242.2].flatten := hD
                refine lv_ldc2 (v := (-3)) hx hb hown (hts _ kc_L_136) dL_law_1017 ?_
                refine W.lcmp hx hb dL_law_1020 ?_
                refine lv_if_ne (tgt := 1038) hx hb dL_law_1021 (by decide) (fun hc => ?_) (fun hc => ?_)
                · have hc := fun z => hc (lgq.mpr z)
                  have hf := ofneg hf hc
                  obtain ⟨hP, hD⟩ := B_perm (br := [WCB k b0 o0 r242.2, WCB k b1 o1 c231]) hP hD [1, 0] rfl rfl
                  have hP : va_P D vwCl [WCB k b0 o0 r242.2, WCB k b1 o1 c231].flatten _ := hP
                  have hD : va_D A [WCB k b0 o0 r242.2, WCB k b1 o1 c231].flatten := hD
                  exact w_L_law_J1038 X b0 o0 s0 b1 o1 s1 N cv Y r242.2 c231 out _ _ _ hP hD hS (lv_sub hl [] rfl) hf
                · have hc := lgq.mp hc
                  have hf := ofpos hf hc
                  refine lv_aload_n hx hb dL_law_1024 rfl (lv_at hl 1 rfl) ?_
                  obtain ⟨r243, hg_r243, hf⟩ := ofbind hf
                  refine kcVC (bs := [WCB k b1 o1 c231, WCB k b0 o0 r242.2]) (br := [WCB k b1 o1 c231]) (bc := [WCB k b0 o0 r242.2]) (bc' := [WCB k b0 o0 r242.2]) X hP hD hS (c_W_digest l D k t b0 o0 r242.2 N r243 hg_r243) mv_L_110 hl [0] [1] 7 ⟨rfl, rfl⟩ ⟨Nat.le_of_ble_eq_true rfl, Nat.le_of_ble_eq_true rfl⟩ Y.1 rfl rfl rfl rfl rfl rfl rfl (Nat.le_of_ble_eq_true rfl) dL_law_1025 (fun H locs hP hD hS => ?_)
                  have hP : va_P D vwCl [WCB k b1 o1 c231, WCB k b0 o0 r242.2].flatten _ := hP
                  have hD : va_D A [WCB k b1 o1 c231, WCB k b0 o0 r242.2].flatten := hD
                  refine lv_lload hx hb dL_law_1028 (lv_at hl 0 rfl) ?_
                  refine W.lcmp hx hb dL_law_1030 ?_
                  refine lv_if_ne (tgt := 1038) hx hb dL_law_1031 (by decide) (fun hc => ?_) (fun hc => ?_)
                  · have hc := fun z => hc (lgq.mpr z)
                    have hf := ofneg hf hc
                    obtain ⟨hP, hD⟩ := B_perm (br := [WCB k b0 o0 r242.2, WCB k b1 o1 c231]) hP hD [1, 0] rfl rfl
                    have hP : va_P D vwCl [WCB k b0 o0 r242.2, WCB k b1 o1 c231].flatten _ := hP
                    have hD : va_D A [WCB k b0 o0 r242.2, WCB k b1 o1 c231].flatten := hD
                    exact w_L_law_J1038 X b0 o0 s0 b1 o1 s1 N cv Y r242.2 c231 out _ _ _ hP hD hS (lv_sub hl [] rfl) hf
                  · have hc := lgq.mp hc
                    have hf := ofpos hf hc
                    refine lv_iconst (v := 1) hx hb dL_law_1034 (by decide) ?_
                    refine lv_goto (tgt := 1039) hx hb dL_law_1035 (by decide) ?_
                    obtain ⟨hP, hD⟩ := B_perm (br := [WCB k b0 o0 r242.2, WCB k b1 o1 c231]) hP hD [1, 0] rfl rfl
                    have hP : va_P D vwCl [WCB k b0 o0 r242.2, WCB k b1 o1 c231].flatten _ := hP
                    have hD : va_D A [WCB k b0 o0 r242.2, WCB k b1 o1 c231].flatten := hD
                    exact Y.2.2.2.2.2 _ _ _ hS
set_option maxRecDepth 100000 in
set_option maxHeartbeats 1000000 in
theorem w_L_law_16 {p : Program} {l : Launch} {e : Env} {s : State} {m : MethodId} {below : List Frame} {meth : Method} {c : Code} {args : Array Value} {A : Nat → Prop} {D : va_G} {k : Nat → ClassId} {t : Nat → Nat} (X : BX l D k t p s m args meth c cL_law 20 RL (some .boolean) A) (b0 : Nat → Nat) (o0 : Nat) (s0 : CBS) (b1 : Nat → Nat) (o1 : Nat) (s1 : CBS) (N : Nat) (cv : Int32 → Int32) {cells slots : Nat} {Q : State → Prop} {b L : Nat} {xs : Nat → Int32} (Y : LB l p e s m args below meth c A cells slots Q b L xs cv) (out : Int32) : ∀ (H : Heap) (locs : List Loc) (ls : Array Slot), va_P D vwCl [WCB k b0 o0 s0, WCB k b1 o1 s1].flatten H → va_D A [WCB k b0 o0 s0, WCB k b1 o1 s1].flatten → va_S A s.heap H locs → lv_has ls 20 [(0, .ref b), (1, .ref (b0 o0)), (2, .ref (b1 o1))] → f_L_law N cv s0 s1 = some out → W p l e room_1 s m args below meth c H locs cells slots Q (F0 m 16 ls []) := by
  have hx := X.1.1
  have hb := X.1.2.1
  have hml := X.1.2.2.1
  have hown := X.1.2.2.2.1
  have hts := X.1.2.2.2.2
  intro H locs ls hP hD hS hl hf
  rw [f_L_law] at hf
  refine lv_aload_n hx hb dL_law_16 rfl (lv_at hl 0 rfl) ?_
  refine lv_iconst (v := 0) hx hb dL_law_17 (by decide) ?_
  obtain ⟨hz, hf⟩ := ofif hf
  refine kcell (bs := [WCB k b0 o0 s0, WCB k b1 o1 s1]) X Y hP hD hS hl [0, 1] rfl rfl hz (Nat.le_of_ble_eq_true rfl) dL_law_18 (fun H locs hP hD hS => ?_)
  have hP : va_P D vwCl [WCB k b0 o0 s0, WCB k b1 o1 s1].flatten _ := hP
  have hD : va_D A [WCB k b0 o0 s0, WCB k b1 o1 s1].flatten := hD
  refine lv_istore_n (lv' := [(3, .int (cv (0 : Int32))), (0, .ref b), (1, .ref (b0 o0)), (2, .ref (b1 o1))]) hx hb dL_law_21 rfl hl (by decide) rfl (fun ls hl => ?_)
  refine lv_iconst (v := 2) hx hb dL_law_22 (by decide) ?_
  refine lv_iload_n hx hb dL_law_23 rfl (lv_at hl 0 rfl) ?_
  refine lv_bipush (v := 23) hx hb dL_law_24 (by decide) ?_
  obtain ⟨r1, hg_r1, hf⟩ := ofbind hf
  refine kcSC (bs := [WCB k b0 o0 s0, WCB k b1 o1 s1]) (br := [WCB k b0 o0 s0, WCB k b1 o1 s1]) (bc := []) (bc' := []) X hP hD hS (c_L_low l D k t (cv (0 : Int32)) 23 r1 hg_r1) ms_L_77 hl [0, 1] [] ⟨rfl, rfl⟩ ⟨Nat.le_of_ble_eq_true rfl, Nat.le_of_ble_eq_true rfl⟩ Y.1 rfl rfl rfl rfl (Nat.le_of_ble_eq_true rfl) dL_law_26 (fun H locs hP hD hS => ?_)
  have hP : va_P D vwCl [WCB k b0 o0 s0, WCB k b1 o1 s1].flatten _ := hP
  have hD : va_D A [WCB k b0 o0 s0, WCB k b1 o1 s1].flatten := hD
  refine lv_iadd hx hb dL_law_29 ?_
  refine lv_istore (lv' := [(4, .int (2 + r1)), (3, .int (cv (0 : Int32))), (0, .ref b), (1, .ref (b0 o0)), (2, .ref (b1 o1))]) hx hb dL_law_30 hl (by decide) rfl (fun ls hl => ?_)
  refine lv_iconst (v := 1) hx hb dL_law_32 (by decide) ?_
  refine lv_iload_n hx hb dL_law_33 rfl (lv_at hl 1 rfl) ?_
  refine lv_iconst (v := 5) hx hb dL_law_34 (by decide) ?_
  refine lv_ishr hx hb dL_law_35 ?_
  refine lv_bipush (v := 8) hx hb dL_law_36 (by decide) ?_
  obtain ⟨r2, hg_r2, hf⟩ := ofbind hf
  refine kcSC (bs := [WCB k b0 o0 s0, WCB k b1 o1 s1]) (br := [WCB k b0 o0 s0, WCB k b1 o1 s1]) (bc := []) (bc' := []) X hP hD hS (c_L_low l D k t ((cv (0 : Int32)) >>> (5 &&& 31)) 8 r2 hg_r2) ms_L_77 hl [0, 1] [] ⟨rfl, rfl⟩ ⟨Nat.le_of_ble_eq_true rfl, Nat.le_of_ble_eq_true rfl⟩ Y.1 rfl rfl rfl rfl (Nat.le_of_ble_eq_true rfl) dL_law_38 (fun H locs hP hD hS => ?_)
  have hP : va_P D vwCl [WCB k b0 o0 s0, WCB k b1 o1 s1].flatten _ := hP
  have hD : va_D A [WCB k b0 o0 s0, WCB k b1 o1 s1].flatten := hD
  refine lv_iadd hx hb dL_law_41 ?_
  refine lv_istore (lv' := [(5, .int (1 + r2)), (4, .int (2 + r1)), (3, .int (cv (0 : Int32))), (0, .ref b), (1, .ref (b0 o0)), (2, .ref (b1 o1))]) hx hb dL_law_42 hl (by decide) rfl (fun ls hl => ?_)
  refine lv_iconst (v := 1) hx hb dL_law_44 (by decide) ?_
  refine lv_iload_n hx hb dL_law_45 rfl (lv_at hl 2 rfl) ?_
  refine lv_bipush (v := 8) hx hb dL_law_46 (by decide) ?_
  refine lv_ishr hx hb dL_law_48 ?_
  refine lv_iconst (v := 4) hx hb dL_law_49 (by decide) ?_
  obtain ⟨r3, hg_r3, hf⟩ := ofbind hf
  refine kcSC (bs := [WCB k b0 o0 s0, WCB k b1 o1 s1]) (br := [WCB k b0 o0 s0, WCB k b1 o1 s1]) (bc := []) (bc' := []) X hP hD hS (c_L_low l D k t ((cv (0 : Int32)) >>> (8 &&& 31)) 4 r3 hg_r3) ms_L_77 hl [0, 1] [] ⟨rfl, rfl⟩ ⟨Nat.le_of_ble_eq_true rfl, Nat.le_of_ble_eq_true rfl⟩ Y.1 rfl rfl rfl rfl (Nat.le_of_ble_eq_true rfl) dL_law_50 (fun H locs hP hD hS => ?_)
  have hP : va_P D vwCl [WCB k b0 o0 s0, WCB k b1 o1 s1].flatten _ := hP
  have hD : va_D A [WCB k b0 o0 s0, WCB k b1 o1 s1].flatten := hD
  refine lv_iadd hx hb dL_law_53 ?_
  refine lv_istore (lv' := [(6, .int (1 + r3)), (5, .int (1 + r2)), (4, .int (2 + r1)), (3, .int (cv (0 : Int32))), (0, .ref b), (1, .ref (b0 o0)), (2, .ref (b1 o1))]) hx hb dL_law_54 hl (by decide) rfl (fun ls hl => ?_)
  refine lv_iconst (v := 1) hx hb dL_law_56 (by decide) ?_
  refine lv_iload_n hx hb dL_law_57 rfl (lv_at hl 3 rfl) ?_
  refine lv_bipush (v := 10) hx hb dL_law_58 (by decide) ?_
  refine lv_ishr hx hb dL_law_60 ?_
  refine lv_bipush (v := 16) hx hb dL_law_61 (by decide) ?_
  obtain ⟨r4, hg_r4, hf⟩ := ofbind hf
  refine kcSC (bs := [WCB k b0 o0 s0, WCB k b1 o1 s1]) (br := [WCB k b0 o0 s0, WCB k b1 o1 s1]) (bc := []) (bc' := []) X hP hD hS (c_L_low l D k t ((cv (0 : Int32)) >>> (10 &&& 31)) 16 r4 hg_r4) ms_L_77 hl [0, 1] [] ⟨rfl, rfl⟩ ⟨Nat.le_of_ble_eq_true rfl, Nat.le_of_ble_eq_true rfl⟩ Y.1 rfl rfl rfl rfl (Nat.le_of_ble_eq_true rfl) dL_law_63 (fun H locs hP hD hS => ?_)
  have hP : va_P D vwCl [WCB k b0 o0 s0, WCB k b1 o1 s1].flatten _ := hP
  have hD : va_D A [WCB k b0 o0 s0, WCB k b1 o1 s1].flatten := hD
  refine lv_iadd hx hb dL_law_66 ?_
  refine lv_istore (lv' := [(7, .int (1 + r4)), (6, .int (1 + r3)), (5, .int (1 + r2)), (4, .int (2 + r1)), (3, .int (cv (0 : Int32))), (0, .ref b), (1, .ref (b0 o0)), (2, .ref (b1 o1))]) hx hb dL_law_67 hl (by decide) rfl (fun ls hl => ?_)
  refine lv_iconst (v := 1) hx hb dL_law_69 (by decide) ?_
  refine lv_iload_n hx hb dL_law_70 rfl (lv_at hl 4 rfl) ?_
  refine lv_bipush (v := 14) hx hb dL_law_71 (by decide) ?_
  refine lv_ishr hx hb dL_law_73 ?_
  refine lv_iconst (v := 3) hx hb dL_law_74 (by decide) ?_
  obtain ⟨r5, hg_r5, hf⟩ := ofbind hf
  refine kcSC (bs := [WCB k b0 o0 s0, WCB k b1 o1 s1]) (br := [WCB k b0 o0 s0, WCB k b1 o1 s1]) (bc := []) (bc' := []) X hP hD hS (c_L_low l D k t ((cv (0 : Int32)) >>> (14 &&& 31)) 3 r5 hg_r5) ms_L_77 hl [0, 1] [] ⟨rfl, rfl⟩ ⟨Nat.le_of_ble_eq_true rfl, Nat.le_of_ble_eq_true rfl⟩ Y.1 rfl rfl rfl rfl (Nat.le_of_ble_eq_true rfl) dL_law_75 (fun H locs hP hD hS => ?_)
  have hP : va_P D vwCl [WCB k b0 o0 s0, WCB k b1 o1 s1].flatten _ := hP
  have hD : va_D A [WCB k b0 o0 s0, WCB k b1 o1 s1].flatten := hD
  refine lv_iadd hx hb dL_law_78 ?_
  refine lv_istore (lv' := [(8, .int (1 + r5)), (7, .int (1 + r4)), (6, .int (1 + r3)), (5, .int (1 + r2)), (4, .int (2 + r1)), (3, .int (cv (0 : Int32))), (0, .ref b), (1, .ref (b0 o0)), (2, .ref (b1 o1))]) hx hb dL_law_79 hl (by decide) rfl (fun ls hl => ?_)
  refine lv_aload_n hx hb dL_law_81 rfl (lv_at hl 7 rfl) ?_
  obtain ⟨r6, hg_r6, hf⟩ := ofbind hf
  refine kcVC (bs := [WCB k b0 o0 s0, WCB k b1 o1 s1]) (br := [WCB k b1 o1 s1]) (bc := [WCB k b0 o0 s0]) (bc' := [WCB k b0 o0 r6.2]) X hP hD hS (c_W_undo l D k t b0 o0 s0 N r6 hg_r6) mv_L_80 hl [1] [0] 7 ⟨rfl, rfl⟩ ⟨Nat.le_of_ble_eq_true rfl, Nat.le_of_ble_eq_true rfl⟩ Y.1 rfl rfl rfl rfl rfl rfl rfl (Nat.le_of_ble_eq_true rfl) dL_law_82 (fun H locs hP hD hS => ?_)
  have hP : va_P D vwCl [WCB k b1 o1 s1, WCB k b0 o0 r6.2].flatten _ := hP
  have hD : va_D A [WCB k b1 o1 s1, WCB k b0 o0 r6.2].flatten := hD
  refine lv_bipush (v := (-4)) hx hb dL_law_85 (by decide) ?_
  refine lv_icmp_ne (tgt := 153) hx hb dL_law_87 (by decide) (fun hc => ?_) (fun hc => ?_)
  · have hf := ofneg hf hc
    refine lv_iconst (v := 0) hx hb dL_law_153 (by decide) ?_
    cases hf
  · have hf := ofpos hf hc
    refine lv_aload_n hx hb dL_law_90 rfl (lv_at hl 7 rfl) ?_
    obtain ⟨r7, hg_r7, hf⟩ := ofbind hf
    refine kcVC (bs := [WCB k b1 o1 s1, WCB k b0 o0 r6.2]) (br := [WCB k b1 o1 s1]) (bc := [WCB k b0 o0 r6.2]) (bc' := [WCB k b0 o0 r7.2]) X hP hD hS (c_W_load l D k t b0 o0 r6.2 N r7 hg_r7) mv_L_84 hl [0] [1] 7 ⟨rfl, rfl⟩ ⟨Nat.le_of_ble_eq_true rfl, Nat.le_of_ble_eq_true rfl⟩ Y.1 rfl rfl rfl rfl rfl rfl rfl (Nat.le_of_ble_eq_true rfl) dL_law_91 (fun H locs hP hD hS => ?_)
    have hP : va_P D vwCl [WCB k b1 o1 s1, WCB k b0 o0 r7.2].flatten _ := hP
    have hD : va_D A [WCB k b1 o1 s1, WCB k b0 o0 r7.2].flatten := hD
    refine lv_bipush (v := (-4)) hx hb dL_law_94 (by decide) ?_
    refine lv_icmp_ne (tgt := 153) hx hb dL_law_96 (by decide) (fun hc => ?_) (fun hc => ?_)
    · have hf := ofneg hf hc
      refine lv_iconst (v := 0) hx hb dL_law_153 (by decide) ?_
      cases hf
    · have hf := ofpos hf hc
      refine lv_aload_n hx hb dL_law_99 rfl (lv_at hl 7 rfl) ?_
      obtain ⟨r8, hg_r8, hf⟩ := ofbind hf
      refine kcVC (bs := [WCB k b1 o1 s1, WCB k b0 o0 r7.2]) (br := [WCB k b1 o1 s1]) (bc := [WCB k b0 o0 r7.2]) (bc' := [WCB k b0 o0 r7.2]) X hP hD hS (c_W_bitsForEach l D k t b0 o0 r7.2 N r8 hg_r8) mv_L_87 hl [0] [1] 7 ⟨rfl, rfl⟩ ⟨Nat.le_of_ble_eq_true rfl, Nat.le_of_ble_eq_true rfl⟩ Y.1 rfl rfl rfl rfl rfl rfl rfl (Nat.le_of_ble_eq_true rfl) dL_law_100 (fun H locs hP hD hS => ?_)
      have hP : va_P D vwCl [WCB k b1 o1 s1, WCB k b0 o0 r7.2].flatten _ := hP
      have hD : va_D A [WCB k b1 o1 s1, WCB k b0 o0 r7.2].flatten := hD
      refine lv_iconst (v := (-1)) hx hb dL_law_103 (by decide) ?_
      refine lv_icmp_ne (tgt := 153) hx hb dL_law_104 (by decide) (fun hc => ?_) (fun hc => ?_)
      · have hf := ofneg hf hc
        refine lv_iconst (v := 0) hx hb dL_law_153 (by decide) ?_
        cases hf
      · have hf := ofpos hf hc
        refine lv_aload_n hx hb dL_law_107 rfl (lv_at hl 7 rfl) ?_
        refine lv_iload hx hb dL_law_108 (lv_at hl 4 rfl) ?_
        refine lv_iload hx hb dL_law_110 (lv_at hl 3 rfl) ?_
        refine lv_iload hx hb dL_law_112 (lv_at hl 2 rfl) ?_
        obtain ⟨r9, hg_r9, hf⟩ := ofbind hf
        refine kcVC (bs := [WCB k b1 o1 s1, WCB k b0 o0 r7.2]) (br := [WCB k b1 o1 s1]) (bc := [WCB k b0 o0 r7.2]) (bc' := [WCB k b0 o0 r9.2]) X hP hD hS (c_W_setFirst l D k t b0 o0 r7.2 (2 + r1) (1 + r2) (1 + r3) N r9 hg_r9) mv_L_90 hl [0] [1] 7 ⟨rfl, rfl⟩ ⟨Nat.le_of_ble_eq_true rfl, Nat.le_of_ble_eq_true rfl⟩ Y.1 rfl rfl rfl rfl rfl rfl rfl (Nat.le_of_ble_eq_true rfl) dL_law_114 (fun H locs hP hD hS => ?_)
        have hP : va_P D vwCl [WCB k b1 o1 s1, WCB k b0 o0 r9.2].flatten _ := hP
        have hD : va_D A [WCB k b1 o1 s1, WCB k b0 o0 r9.2].flatten := hD
        refine lv_bipush (v := 12) hx hb dL_law_117 (by decide) ?_
        refine lv_icmp_ne (tgt := 153) hx hb dL_law_119 (by decide) (fun hc => ?_) (fun hc => ?_)
        · have hf := ofneg hf hc
          refine lv_iconst (v := 0) hx hb dL_law_153 (by decide) ?_
          cases hf
        · have hf := ofpos hf hc
          refine lv_aload_n hx hb dL_law_122 rfl (lv_at hl 7 rfl) ?_
          refine lv_iload hx hb dL_law_123 (lv_at hl 1 rfl) ?_
          refine lv_iload hx hb dL_law_125 (lv_at hl 0 rfl) ?_
          obtain ⟨r10, hg_r10, hf⟩ := ofbind hf
          refine kcVC (bs := [WCB k b1 o1 s1, WCB k b0 o0 r9.2]) (br := [WCB k b1 o1 s1]) (bc := [WCB k b0 o0 r9.2]) (bc' := [WCB k b0 o0 r10.2]) X hP hD hS (c_W_setSecond l D k t b0 o0 r9.2 (1 + r4) (1 + r5) N r10 hg_r10) mv_L_94 hl [0] [1] 7 ⟨rfl, rfl⟩ ⟨Nat.le_of_ble_eq_true rfl, Nat.le_of_ble_eq_true rfl⟩ Y.1 rfl rfl rfl rfl rfl rfl rfl (Nat.le_of_ble_eq_true rfl) dL_law_127 (fun H locs hP hD hS => ?_)
          have hP : va_P D vwCl [WCB k b1 o1 s1, WCB k b0 o0 r10.2].flatten _ := hP
          have hD : va_D A [WCB k b1 o1 s1, WCB k b0 o0 r10.2].flatten := hD
          refine lv_bipush (v := 6) hx hb dL_law_130 (by decide) ?_
          refine lv_icmp_ne (tgt := 153) hx hb dL_law_132 (by decide) (fun hc => ?_) (fun hc => ?_)
          · have hf := ofneg hf hc
            refine lv_iconst (v := 0) hx hb dL_law_153 (by decide) ?_
            cases hf
          · have hf := ofpos hf hc
            refine lv_aload_n hx hb dL_law_135 rfl (lv_at hl 7 rfl) ?_
            refine lv_iload_n hx hb dL_law_136 rfl (lv_at hl 5 rfl) ?_
            refine lv_bipush (v := 16) hx hb dL_law_137 (by decide) ?_
            refine lv_ishr hx hb dL_law_139 ?_
            refine lv_bipush (v := 20) hx hb dL_law_140 (by decide) ?_
            obtain ⟨r11, hg_r11, hf⟩ := ofbind hf
            refine kcSC (bs := [WCB k b1 o1 s1, WCB k b0 o0 r10.2]) (br := [WCB k b1 o1 s1, WCB k b0 o0 r10.2]) (bc := []) (bc' := []) X hP hD hS (c_L_low l D k t ((cv (0 : Int32)) >>> (16 &&& 31)) 20 r11 hg_r11) ms_L_77 hl [0, 1] [] ⟨rfl, rfl⟩ ⟨Nat.le_of_ble_eq_true rfl, Nat.le_of_ble_eq_true rfl⟩ Y.1 rfl rfl rfl rfl (Nat.le_of_ble_eq_true rfl) dL_law_142 (fun H locs hP hD hS => ?_)
            have hP : va_P D vwCl [WCB k b1 o1 s1, WCB k b0 o0 r10.2].flatten _ := hP
            have hD : va_D A [WCB k b1 o1 s1, WCB k b0 o0 r10.2].flatten := hD
            obtain ⟨r12, hg_r12, hf⟩ := ofbind hf
            refine kcVC (bs := [WCB k b1 o1 s1, WCB k b0 o0 r10.2]) (br := [WCB k b1 o1 s1]) (bc := [WCB k b0 o0 r10.2]) (bc' := [WCB k b0 o0 r12.2]) X hP hD hS (c_W_setRounds l D k t b0 o0 r10.2 r11 N r12 hg_r12) mv_L_97 hl [0] [1] 7 ⟨rfl, rfl⟩ ⟨Nat.le_of_ble_eq_true rfl, Nat.le_of_ble_eq_true rfl⟩ Y.1 rfl rfl rfl rfl rfl rfl rfl (Nat.le_of_ble_eq_true rfl) dL_law_145 (fun H locs hP hD hS => ?_)
            have hP : va_P D vwCl [WCB k b1 o1 s1, WCB k b0 o0 r12.2].flatten _ := hP
            have hD : va_D A [WCB k b1 o1 s1, WCB k b0 o0 r12.2].flatten := hD
            refine lv_bipush (v := 20) hx hb dL_law_148 (by decide) ?_
            refine lv_icmp_eq (tgt := 155) hx hb dL_law_150 (by decide) (fun hc => ?_) (fun hc => ?_)
            · have hf := ofpos hf hc
              refine lv_aload_n hx hb dL_law_155 rfl (lv_at hl 8 rfl) ?_
              refine lv_iload hx hb dL_law_156 (lv_at hl 4 rfl) ?_
              refine lv_iload hx hb dL_law_158 (lv_at hl 3 rfl) ?_
              refine lv_iload hx hb dL_law_160 (lv_at hl 2 rfl) ?_
              obtain ⟨r13, hg_r13, hf⟩ := ofbind hf
              refine kcVC (bs := [WCB k b1 o1 s1, WCB k b0 o0 r12.2]) (br := [WCB k b0 o0 r12.2]) (bc := [WCB k b1 o1 s1]) (bc' := [WCB k b1 o1 r13.2]) X hP hD hS (c_W_setFirst l D k t b1 o1 s1 (2 + r1) (1 + r2) (1 + r3) N r13 hg_r13) mv_L_90 hl [1] [0] 7 ⟨rfl, rfl⟩ ⟨Nat.le_of_ble_eq_true rfl, Nat.le_of_ble_eq_true rfl⟩ Y.1 rfl rfl rfl rfl rfl rfl rfl (Nat.le_of_ble_eq_true rfl) dL_law_162 (fun H locs hP hD hS => ?_)
              have hP : va_P D vwCl [WCB k b0 o0 r12.2, WCB k b1 o1 r13.2].flatten _ := hP
              have hD : va_D A [WCB k b0 o0 r12.2, WCB k b1 o1 r13.2].flatten := hD
              refine lv_pop hx hb dL_law_165 rfl ?_
              refine lv_aload_n hx hb dL_law_166 rfl (lv_at hl 8 rfl) ?_
              refine lv_iload hx hb dL_law_167 (lv_at hl 1 rfl) ?_
              refine lv_iload hx hb dL_law_169 (lv_at hl 0 rfl) ?_
              obtain ⟨r14, hg_r14, hf⟩ := ofbind hf
              refine kcVC (bs := [WCB k b0 o0 r12.2, WCB k b1 o1 r13.2]) (br := [WCB k b0 o0 r12.2]) (bc := [WCB k b1 o1 r13.2]) (bc' := [WCB k b1 o1 r14.2]) X hP hD hS (c_W_setSecond l D k t b1 o1 r13.2 (1 + r4) (1 + r5) N r14 hg_r14) mv_L_94 hl [0] [1] 7 ⟨rfl, rfl⟩ ⟨Nat.le_of_ble_eq_true rfl, Nat.le_of_ble_eq_true rfl⟩ Y.1 rfl rfl rfl rfl rfl rfl rfl (Nat.le_of_ble_eq_true rfl) dL_law_171 (fun H locs hP hD hS => ?_)
              have hP : va_P D vwCl [WCB k b0 o0 r12.2, WCB k b1 o1 r14.2].flatten _ := hP
              have hD : va_D A [WCB k b0 o0 r12.2, WCB k b1 o1 r14.2].flatten := hD
              refine lv_pop hx hb dL_law_174 rfl ?_
              refine lv_iconst (v := 1) hx hb dL_law_175 (by decide) ?_
              refine lv_iload_n hx hb dL_law_176 rfl (lv_at hl 5 rfl) ?_
              refine lv_bipush (v := 21) hx hb dL_law_177 (by decide) ?_
              refine lv_ishr hx hb dL_law_179 ?_
              refine lv_bipush (v := 9) hx hb dL_law_180 (by decide) ?_
              obtain ⟨r15, hg_r15, hf⟩ := ofbind hf
              refine kcSC (bs := [WCB k b0 o0 r12.2, WCB k b1 o1 r14.2]) (br := [WCB k b0 o0 r12.2, WCB k b1 o1 r14.2]) (bc := []) (bc' := []) X hP hD hS (c_L_low l D k t ((cv (0 : Int32)) >>> (21 &&& 31)) 9 r15 hg_r15) ms_L_77 hl [0, 1] [] ⟨rfl, rfl⟩ ⟨Nat.le_of_ble_eq_true rfl, Nat.le_of_ble_eq_true rfl⟩ Y.1 rfl rfl rfl rfl (Nat.le_of_ble_eq_true rfl) dL_law_182 (fun H locs hP hD hS => ?_)
              have hP : va_P D vwCl [WCB k b0 o0 r12.2, WCB k b1 o1 r14.2].flatten _ := hP
              have hD : va_D A [WCB k b0 o0 r12.2, WCB k b1 o1 r14.2].flatten := hD
              refine lv_iadd hx hb dL_law_185 ?_
              refine lv_istore (lv' := [(9, .int (1 + r15)), (8, .int (1 + r5)), (7, .int (1 + r4)), (6, .int (1 + r3)), (5, .int (1 + r2)), (4, .int (2 + r1)), (3, .int (cv (0 : Int32))), (0, .ref b), (1, .ref (b0 o0)), (2, .ref (b1 o1))]) hx hb dL_law_186 hl (by decide) rfl (fun ls hl => ?_)
              refine lv_iconst (v := 0) hx hb dL_law_188 (by decide) ?_
              refine lv_istore (lv' := [(10, .int 0), (9, .int (1 + r15)), (8, .int (1 + r5)), (7, .int (1 + r4)), (6, .int (1 + r3)), (5, .int (1 + r2)), (4, .int (2 + r1)), (3, .int (cv (0 : Int32))), (0, .ref b), (1, .ref (b0 o0)), (2, .ref (b1 o1))]) hx hb dL_law_189 hl (by decide) rfl (fun ls hl => ?_)
              refine w_L_law_L191 X b0 o0 s0 b1 o1 s1 N cv Y (2 + r1) (1 + r2) (1 + r4) (1 + r15) out _ _ ?_ ?_ N 0 r12.2 r14.2 _ _ _ hP hD hS (lv_sub hl [8, 9, 10, 6, 5, 3, 1, 0] rfl) hf
              · intro i39 c40 c41 H locs ls hP hD hS hl hf
                refine lv_aload_n hx hb dL_law_296 rfl (lv_at hl 1 rfl) ?_
                refine lv_bipush (v := 6) hx hb dL_law_297 (by decide) ?_
                obtain ⟨r42, hg_r42, hf⟩ := ofbind hf
                refine kcVC (bs := [WCB k b0 o0 c40, WCB k b1 o1 c41]) (br := [WCB k b1 o1 c41]) (bc := [WCB k b0 o0 c40]) (bc' := [WCB k b0 o0 c40]) X hP hD hS (c_W_form l D k t b0 o0 c40 6 N r42 hg_r42) mv_L_14 hl [1] [0] 7 ⟨rfl, rfl⟩ ⟨Nat.le_of_ble_eq_true rfl, Nat.le_of_ble_eq_true rfl⟩ Y.1 rfl rfl rfl rfl rfl rfl rfl (Nat.le_of_ble_eq_true rfl) dL_law_299 (fun H locs hP hD hS => ?_)
                have hP : va_P D vwCl [WCB k b1 o1 c41, WCB k b0 o0 c40].flatten _ := hP
                have hD : va_D A [WCB k b1 o1 c41, WCB k b0 o0 c40].flatten := hD
                refine lv_istore (lv' := [(9, .int r42), (0, .ref b), (1, .ref (b0 o0)), (2, .ref (b1 o1)), (4, .int (2 + r1)), (5, .int (1 + r2)), (7, .int (1 + r4))]) hx hb dL_law_302 hl (by decide) rfl (fun ls hl => ?_)
                refine lv_iconst (v := 0) hx hb dL_law_304 (by decide) ?_
                refine lv_istore (lv' := [(10, .int 0), (9, .int r42), (0, .ref b), (1, .ref (b0 o0)), (2, .ref (b1 o1)), (4, .int (2 + r1)), (5, .int (1 + r2)), (7, .int (1 + r4))]) hx hb dL_law_305 hl (by decide) rfl (fun ls hl => ?_)
                obtain ⟨hP, hD⟩ := B_perm (br := [WCB k b0 o0 c40, WCB k b1 o1 c41]) hP hD [1, 0] rfl rfl
                have hP : va_P D vwCl [WCB k b0 o0 c40, WCB k b1 o1 c41].flatten _ := hP
                have hD : va_D A [WCB k b0 o0 c40, WCB k b1 o1 c41].flatten := hD
                refine w_L_law_L307 X b0 o0 s0 b1 o1 s1 N cv Y (2 + r1) (1 + r2) (1 + r4) r42 out _ ?_ N 0 c40 c41 _ _ _ hP hD hS (lv_sub hl [2, 3, 4, 5, 6, 7, 1, 0] rfl) hf
                · intro i140 c141 c142 H locs ls hP hD hS hl hf
                  refine lv_iconst (v := 0) hx hb dL_law_541 (by decide) ?_
                  refine lv_istore (lv' := [(10, .int 0), (1, .ref (b0 o0)), (2, .ref (b1 o1)), (4, .int (2 + r1)), (5, .int (1 + r2)), (7, .int (1 + r4)), (9, .int r42)]) hx hb dL_law_542 hl (by decide) rfl (fun ls hl => ?_)
                  refine w_L_law_L544 X b0 o0 s0 b1 o1 s1 N cv Y (2 + r1) (1 + r2) (1 + r4) r42 c141 c142 out _ ?_ N 0 _ _ _ hP hD hS (lv_sub hl [1, 2, 3, 4, 5, 6, 0] rfl) hf
                  · intro i162 H locs ls hP hD hS hl hf
                    refine lv_iconst (v := 0) hx hb dL_law_610 (by decide) ?_
                    refine lv_istore (lv' := [(10, .int 0), (1, .ref (b0 o0)), (2, .ref (b1 o1)), (4, .int (2 + r1)), (5, .int (1 + r2)), (7, .int (1 + r4)), (9, .int r42)]) hx hb dL_law_611 hl (by decide) rfl (fun ls hl => ?_)
                    refine w_L_law_L613 X b0 o0 s0 b1 o1 s1 N cv Y (2 + r1) (1 + r2) (1 + r4) r42 c141 c142 out _ ?_ N 0 _ _ _ hP hD hS (lv_sub hl [1, 2, 3, 4, 5, 6, 0] rfl) hf
                    · intro i178 H locs ls hP hD hS hl hf
                      refine lv_aload_n hx hb dL_law_664 rfl (lv_at hl 0 rfl) ?_
                      refine lv_iconst (v := 0) hx hb dL_law_665 (by decide) ?_
                      refine lv_iconst (v := 0) hx hb dL_law_666 (by decide) ?_
                      obtain ⟨r179, hg_r179, hf⟩ := ofbind hf
                      refine kcVC (bs := [WCB k b0 o0 c141, WCB k b1 o1 c142]) (br := [WCB k b1 o1 c142]) (bc := [WCB k b0 o0 c141]) (bc' := [WCB k b0 o0 r179.2]) X hP hD hS (c_W_total l D k t b0 o0 c141 0 0 N r179 hg_r179) mv_L_40 hl [1] [0] 7 ⟨rfl, rfl⟩ ⟨Nat.le_of_ble_eq_true rfl, Nat.le_of_ble_eq_true rfl⟩ Y.1 rfl rfl rfl rfl rfl rfl rfl (Nat.le_of_ble_eq_true rfl) dL_law_667 (fun H locs hP hD hS => ?_)
                      have hP : va_P D vwCl [WCB k b1 o1 c142, WCB k b0 o0 r179.2].flatten _ := hP
                      have hD : va_D A [WCB k b1 o1 c142, WCB k b0 o0 r179.2].flatten := hD
                      refine lv_aload_n hx hb dL_law_670 rfl (lv_at hl 0 rfl) ?_
                      refine lv_iconst (v := 1) hx hb dL_law_671 (by decide) ?_
                      refine lv_iconst (v := 0) hx hb dL_law_672 (by decide) ?_
                      obtain ⟨r180, hg_r180, hf⟩ := ofbind hf
                      refine kcVC (bs := [WCB k b1 o1 c142, WCB k b0 o0 r179.2]) (br := [WCB k b1 o1 c142]) (bc := [WCB k b0 o0 r179.2]) (bc' := [WCB k b0 o0 r180.2]) X hP hD hS (c_W_total l D k t b0 o0 r179.2 1 0 N r180 hg_r180) mv_L_40 hl [0] [1] 7 ⟨rfl, rfl⟩ ⟨Nat.le_of_ble_eq_true rfl, Nat.le_of_ble_eq_true rfl⟩ Y.1 rfl rfl rfl rfl rfl rfl rfl (Nat.le_of_ble_eq_true rfl) dL_law_673 (fun H locs hP hD hS => ?_)
                      have hP : va_P D vwCl [WCB k b1 o1 c142, WCB k b0 o0 r180.2].flatten _ := hP
                      have hD : va_D A [WCB k b1 o1 c142, WCB k b0 o0 r180.2].flatten := hD
                      refine lv_ladd hx hb dL_law_676 ?_
                      refine lv_lstore (lv' := [(10, .long (r179.1 + r180.1)), (1, .ref (b0 o0)), (4, .int (2 + r1)), (5, .int (1 + r2)), (7, .int (1 + r4)), (9, .int r42)]) hx hb dL_law_677 hl (by decide) rfl (fun ls hl => ?_)
                      refine lv_iconst (v := 0) hx hb dL_law_679 (by decide) ?_
                      refine lv_istore (lv' := [(12, .int 0), (10, .long (r179.1 + r180.1)), (1, .ref (b0 o0)), (4, .int (2 + r1)), (5, .int (1 + r2)), (7, .int (1 + r4)), (9, .int r42)]) hx hb dL_law_680 hl (by decide) rfl (fun ls hl => ?_)
                      refine lv_iconst (v := 0) hx hb dL_law_682 (by decide) ?_
                      refine lv_istore (lv' := [(13, .int 0), (12, .int 0), (10, .long (r179.1 + r180.1)), (1, .ref (b0 o0)), (4, .int (2 + r1)), (5, .int (1 + r2)), (7, .int (1 + r4)), (9, .int r42)]) hx hb dL_law_683 hl (by decide) rfl (fun ls hl => ?_)
                      obtain ⟨hP, hD⟩ := B_perm (br := [WCB k b0 o0 r180.2, WCB k b1 o1 c142]) hP hD [1, 0] rfl rfl
                      have hP : va_P D vwCl [WCB k b0 o0 r180.2, WCB k b1 o1 c142].flatten _ := hP
                      have hD : va_D A [WCB k b0 o0 r180.2, WCB k b1 o1 c142].flatten := hD
                      refine w_L_law_L685 X b0 o0 s0 b1 o1 s1 N cv Y (2 + r1) (1 + r2) (1 + r4) r42 (r179.1 + r180.1) r180.2 c142 out _ ?_ N 0 0 _ _ _ hP hD hS (lv_sub hl [3, 4, 5, 6, 7, 2, 1, 0] rfl) hf
                      · intro i192 i193 H locs ls hP hD hS hl hf
                        refine lv_aload_n hx hb dL_law_710 rfl (lv_at hl 0 rfl) ?_
                        refine lv_iconst (v := 1) hx hb dL_law_711 (by decide) ?_
                        refine lv_iconst (v := 0) hx hb dL_law_712 (by decide) ?_
                        obtain ⟨r194, hg_r194, hf⟩ := ofbind hf
                        refine kcVC (bs := [WCB k b0 o0 r180.2, WCB k b1 o1 c142]) (br := [WCB k b1 o1 c142]) (bc := [WCB k b0 o0 r180.2]) (bc' := [WCB k b0 o0 r194.2]) X hP hD hS (c_W_addBraid l D k t b0 o0 r180.2 1 0 N r194 hg_r194) mv_L_126 hl [1] [0] 7 ⟨rfl, rfl⟩ ⟨Nat.le_of_ble_eq_true rfl, Nat.le_of_ble_eq_true rfl⟩ Y.1 rfl rfl rfl rfl rfl rfl rfl (Nat.le_of_ble_eq_true rfl) dL_law_713 (fun H locs hP hD hS => ?_)
                        have hP : va_P D vwCl [WCB k b1 o1 c142, WCB k b0 o0 r194.2].flatten _ := hP
                        have hD : va_D A [WCB k b1 o1 c142, WCB k b0 o0 r194.2].flatten := hD
                        refine lv_istore (lv' := [(13, .int r194.1), (1, .ref (b0 o0)), (4, .int (2 + r1)), (5, .int (1 + r2)), (7, .int (1 + r4)), (9, .int r42), (10, .long (r179.1 + r180.1)), (12, .int i192)]) hx hb dL_law_716 hl (by decide) rfl (fun ls hl => ?_)
                        refine lv_iconst (v := 0) hx hb dL_law_718 (by decide) ?_
                        refine lv_istore (lv' := [(14, .int 0), (13, .int r194.1), (1, .ref (b0 o0)), (4, .int (2 + r1)), (5, .int (1 + r2)), (7, .int (1 + r4)), (9, .int r42), (10, .long (r179.1 + r180.1)), (12, .int i192)]) hx hb dL_law_719 hl (by decide) rfl (fun ls hl => ?_)
                        refine lv_iconst (v := 0) hx hb dL_law_721 (by decide) ?_
                        refine lv_istore (lv' := [(15, .int 0), (14, .int 0), (13, .int r194.1), (1, .ref (b0 o0)), (4, .int (2 + r1)), (5, .int (1 + r2)), (7, .int (1 + r4)), (9, .int r42), (10, .long (r179.1 + r180.1)), (12, .int i192)]) hx hb dL_law_722 hl (by decide) rfl (fun ls hl => ?_)
                        obtain ⟨hP, hD⟩ := B_perm (br := [WCB k b0 o0 r194.2, WCB k b1 o1 c142]) hP hD [1, 0] rfl rfl
                        have hP : va_P D vwCl [WCB k b0 o0 r194.2, WCB k b1 o1 c142].flatten _ := hP
                        have hD : va_D A [WCB k b0 o0 r194.2, WCB k b1 o1 c142].flatten := hD
                        refine w_L_law_L724 X b0 o0 s0 b1 o1 s1 N cv Y (2 + r1) (1 + r2) (1 + r4) r42 (r179.1 + r180.1) i192 r194.1 r194.2 c142 out _ ?_ N 0 0 _ _ _ hP hD hS (lv_sub hl [3, 4, 5, 6, 7, 8, 9, 2, 1, 0] rfl) hf
                        · intro i208 i209 H locs ls hP hD hS hl hf
                          refine lv_iload hx hb dL_law_749 (lv_at hl 7 rfl) ?_
                          refine lv_iload hx hb dL_law_751 (lv_at hl 8 rfl) ?_
                          refine lv_iload hx hb dL_law_753 (lv_at hl 6 rfl) ?_
                          refine lv_isub hx hb dL_law_755 ?_
                          refine lv_icmp_ne (tgt := 789) hx hb dL_law_756 (by decide) (fun hc => ?_) (fun hc => ?_)
                          · have hf := ofneg hf hc
                            refine lv_iconst (v := 0) hx hb dL_law_789 (by decide) ?_
                            cases hf
                          · have hf := ofpos hf hc
                            refine lv_aload_n hx hb dL_law_759 rfl (lv_at hl 0 rfl) ?_
                            refine lv_iconst (v := 0) hx hb dL_law_760 (by decide) ?_
                            refine lv_iconst (v := 0) hx hb dL_law_761 (by decide) ?_
                            obtain ⟨r210, hg_r210, hf⟩ := ofbind hf
                            refine kcVC (bs := [WCB k b0 o0 r194.2, WCB k b1 o1 c142]) (br := [WCB k b1 o1 c142]) (bc := [WCB k b0 o0 r194.2]) (bc' := [WCB k b0 o0 r210.2]) X hP hD hS (c_W_total l D k t b0 o0 r194.2 0 0 N r210 hg_r210) mv_L_40 hl [1] [0] 7 ⟨rfl, rfl⟩ ⟨Nat.le_of_ble_eq_true rfl, Nat.le_of_ble_eq_true rfl⟩ Y.1 rfl rfl rfl rfl rfl rfl rfl (Nat.le_of_ble_eq_true rfl) dL_law_762 (fun H locs hP hD hS => ?_)
                            have hP : va_P D vwCl [WCB k b1 o1 c142, WCB k b0 o0 r210.2].flatten _ := hP
                            have hD : va_D A [WCB k b1 o1 c142, WCB k b0 o0 r210.2].flatten := hD
                            refine lv_lload hx hb dL_law_765 (lv_at hl 5 rfl) ?_
                            refine W.lcmp hx hb dL_law_767 ?_
                            refine lv_if_ne (tgt := 789) hx hb dL_law_768 (by decide) (fun hc => ?_) (fun hc => ?_)
                            · have hc := fun z => hc (lgq.mpr z)
                              have hf := ofneg hf hc
                              refine lv_iconst (v := 0) hx hb dL_law_789 (by decide) ?_
                              cases hf
                            · have hc := lgq.mp hc
                              have hf := ofpos hf hc
                              refine lv_aload_n hx hb dL_law_771 rfl (lv_at hl 0 rfl) ?_
                              refine lv_iconst (v := 0) hx hb dL_law_772 (by decide) ?_
                              obtain ⟨r211, hg_r211, hf⟩ := ofbind hf
                              refine kcSC (bs := [WCB k b1 o1 c142, WCB k b0 o0 r210.2]) (br := [WCB k b1 o1 c142]) (bc := [WCB k b0 o0 r210.2]) (bc' := [WCB k b0 o0 r211.2]) X hP hD hS (c_L_areCountersSound l D k t b0 o0 r210.2 0 N r211 hg_r211) ms_L_122 hl [0] [1] ⟨rfl, rfl⟩ ⟨Nat.le_of_ble_eq_true rfl, Nat.le_of_ble_eq_true rfl⟩ Y.1 rfl rfl rfl rfl (Nat.le_of_ble_eq_true rfl) dL_law_773 (fun H locs hP hD hS => ?_)
                              have hP : va_P D vwCl [WCB k b1 o1 c142, WCB k b0 o0 r211.2].flatten _ := hP
                              have hD : va_D A [WCB k b1 o1 c142, WCB k b0 o0 r211.2].flatten := hD
                              refine lv_if_eq (tgt := 789) hx hb dL_law_776 (by decide) (fun hc => ?_) (fun hc => ?_)
                              · have hf := ofpos hf hc
                                refine lv_iconst (v := 0) hx hb dL_law_789 (by decide) ?_
                                cases hf
                              · have hf := ofneg hf hc
                                refine lv_aload_n hx hb dL_law_779 rfl (lv_at hl 0 rfl) ?_
                                refine lv_iconst (v := 0) hx hb dL_law_780 (by decide) ?_
                                refine lv_bipush (v := 7) hx hb dL_law_781 (by decide) ?_
                                obtain ⟨r212, hg_r212, hf⟩ := ofbind hf
                                refine kcSC (bs := [WCB k b1 o1 c142, WCB k b0 o0 r211.2]) (br := [WCB k b1 o1 c142]) (bc := [WCB k b0 o0 r211.2]) (bc' := [WCB k b0 o0 r212.2]) X hP hD hS (c_L_areBoundsSound l D k t b0 o0 r211.2 0 7 N r212 hg_r212) ms_L_118 hl [0] [1] ⟨rfl, rfl⟩ ⟨Nat.le_of_ble_eq_true rfl, Nat.le_of_ble_eq_true rfl⟩ Y.1 rfl rfl rfl rfl (Nat.le_of_ble_eq_true rfl) dL_law_783 (fun H locs hP hD hS => ?_)
                                have hP : va_P D vwCl [WCB k b1 o1 c142, WCB k b0 o0 r212.2].flatten _ := hP
                                have hD : va_D A [WCB k b1 o1 c142, WCB k b0 o0 r212.2].flatten := hD
                                refine lv_if_ne (tgt := 791) hx hb dL_law_786 (by decide) (fun hc => ?_) (fun hc => ?_)
                                · have hf := ofneg hf hc
                                  refine lv_aload_n hx hb dL_law_791 rfl (lv_at hl 0 rfl) ?_
                                  refine lv_iconst (v := 0) hx hb dL_law_792 (by decide) ?_
                                  refine lv_iconst (v := 0) hx hb dL_law_793 (by decide) ?_
                                  obtain ⟨r213, hg_r213, hf⟩ := ofbind hf
                                  refine kcVC (bs := [WCB k b1 o1 c142, WCB k b0 o0 r212.2]) (br := [WCB k b1 o1 c142]) (bc := [WCB k b0 o0 r212.2]) (bc' := [WCB k b0 o0 r213.2]) X hP hD hS (c_W_total l D k t b0 o0 r212.2 0 0 N r213 hg_r213) mv_L_40 hl [0] [1] 7 ⟨rfl, rfl⟩ ⟨Nat.le_of_ble_eq_true rfl, Nat.le_of_ble_eq_true rfl⟩ Y.1 rfl rfl rfl rfl rfl rfl rfl (Nat.le_of_ble_eq_true rfl) dL_law_794 (fun H locs hP hD hS => ?_)
                                  have hP : va_P D vwCl [WCB k b1 o1 c142, WCB k b0 o0 r213.2].flatten _ := hP
                                  have hD : va_D A [WCB k b1 o1 c142, WCB k b0 o0 r213.2].flatten := hD
                                  refine lv_lstore (lv' := [(15, .long r213.1), (1, .ref (b0 o0)), (4, .int (2 + r1)), (5, .int (1 + r2)), (7, .int (1 + r4)), (9, .int r42), (10, .long (r179.1 + r180.1)), (12, .int i192), (13, .int r194.1), (14, .int i208)]) hx hb dL_law_797 hl (by decide) rfl (fun ls hl => ?_)
                                  refine lv_aload_n hx hb dL_law_799 rfl (lv_at hl 1 rfl) ?_
                                  refine lv_iconst (v := 1) hx hb dL_law_800 (by decide) ?_
                                  obtain ⟨r214, hg_r214, hf⟩ := ofbind hf
                                  refine kcVC (bs := [WCB k b1 o1 c142, WCB k b0 o0 r213.2]) (br := [WCB k b1 o1 c142]) (bc := [WCB k b0 o0 r213.2]) (bc' := [WCB k b0 o0 r214.2]) X hP hD hS (c_W_clear l D k t b0 o0 r213.2 1 N r214 hg_r214) mv_L_129 hl [0] [1] 7 ⟨rfl, rfl⟩ ⟨Nat.le_of_ble_eq_true rfl, Nat.le_of_ble_eq_true rfl⟩ Y.1 rfl rfl rfl rfl rfl rfl rfl (Nat.le_of_ble_eq_true rfl) dL_law_801 (fun H locs hP hD hS => ?_)
                                  have hP : va_P D vwCl [WCB k b1 o1 c142, WCB k b0 o0 r214.2].flatten _ := hP
                                  have hD : va_D A [WCB k b1 o1 c142, WCB k b0 o0 r214.2].flatten := hD
                                  refine lv_pop2_2 hx hb dL_law_804 rfl ?_
                                  refine lv_aload_n hx hb dL_law_805 rfl (lv_at hl 1 rfl) ?_
                                  refine lv_iconst (v := 0) hx hb dL_law_806 (by decide) ?_
                                  refine lv_iconst (v := 1) hx hb dL_law_807 (by decide) ?_
                                  obtain ⟨r215, hg_r215, hf⟩ := ofbind hf
                                  refine kcVC (bs := [WCB k b1 o1 c142, WCB k b0 o0 r214.2]) (br := [WCB k b1 o1 c142]) (bc := [WCB k b0 o0 r214.2]) (bc' := [WCB k b0 o0 r215.2]) X hP hD hS (c_W_addBraid l D k t b0 o0 r214.2 0 1 N r215 hg_r215) mv_L_126 hl [0] [1] 7 ⟨rfl, rfl⟩ ⟨Nat.le_of_ble_eq_true rfl, Nat.le_of_ble_eq_true rfl⟩ Y.1 rfl rfl rfl rfl rfl rfl rfl (Nat.le_of_ble_eq_true rfl) dL_law_808 (fun H locs hP hD hS => ?_)
                                  have hP : va_P D vwCl [WCB k b1 o1 c142, WCB k b0 o0 r215.2].flatten _ := hP
                                  have hD : va_D A [WCB k b1 o1 c142, WCB k b0 o0 r215.2].flatten := hD
                                  refine lv_iload hx hb dL_law_811 (lv_at hl 9 rfl) ?_
                                  refine lv_icmp_ne (tgt := 906) hx hb dL_law_813 (by decide) (fun hc => ?_) (fun hc => ?_)
                                  · have hf := ofneg hf hc
                                    obtain ⟨hP, hD⟩ := B_perm (br := [WCB k b0 o0 r215.2, WCB k b1 o1 c142]) hP hD [1, 0] rfl rfl
                                    have hP : va_P D vwCl [WCB k b0 o0 r215.2, WCB k b1 o1 c142].flatten _ := hP
                                    have hD : va_D A [WCB k b0 o0 r215.2, WCB k b1 o1 c142].flatten := hD
                                    exact w_L_law_J906 X b0 o0 s0 b1 o1 s1 N cv Y r215.2 c142 out _ _ _ hP hD hS (lv_sub hl [] rfl) hf
                                  · have hf := ofpos hf hc
                                    refine lv_aload_n hx hb dL_law_816 rfl (lv_at hl 1 rfl) ?_
                                    refine lv_iconst (v := 1) hx hb dL_law_817 (by decide) ?_
                                    refine lv_iconst (v := 0) hx hb dL_law_818 (by decide) ?_
                                    obtain ⟨r218, hg_r218, hf⟩ := ofbind hf
                                    refine kcVC (bs := [WCB k b1 o1 c142, WCB k b0 o0 r215.2]) (br := [WCB k b1 o1 c142]) (bc := [WCB k b0 o0 r215.2]) (bc' := [WCB k b0 o0 r218.2]) X hP hD hS (c_W_total l D k t b0 o0 r215.2 1 0 N r218 hg_r218) mv_L_40 hl [0] [1] 7 ⟨rfl, rfl⟩ ⟨Nat.le_of_ble_eq_true rfl, Nat.le_of_ble_eq_true rfl⟩ Y.1 rfl rfl rfl rfl rfl rfl rfl (Nat.le_of_ble_eq_true rfl) dL_law_819 (fun H locs hP hD hS => ?_)
                                    have hP : va_P D vwCl [WCB k b1 o1 c142, WCB k b0 o0 r218.2].flatten _ := hP
                                    have hD : va_D A [WCB k b1 o1 c142, WCB k b0 o0 r218.2].flatten := hD
                                    refine lv_lload hx hb dL_law_822 (lv_at hl 0 rfl) ?_
                                    refine W.lcmp hx hb dL_law_824 ?_
                                    refine lv_if_ne (tgt := 906) hx hb dL_law_825 (by decide) (fun hc => ?_) (fun hc => ?_)
                                    · have hc := fun z => hc (lgq.mpr z)
                                      have hf := ofneg hf hc
                                      obtain ⟨hP, hD⟩ := B_perm (br := [WCB k b0 o0 r218.2, WCB k b1 o1 c142]) hP hD [1, 0] rfl rfl
                                      have hP : va_P D vwCl [WCB k b0 o0 r218.2, WCB k b1 o1 c142].flatten _ := hP
                                      have hD : va_D A [WCB k b0 o0 r218.2, WCB k b1 o1 c142].flatten := hD
                                      exact w_L_law_J906 X b0 o0 s0 b1 o1 s1 N cv Y r218.2 c142 out _ _ _ hP hD hS (lv_sub hl [] rfl) hf
                                    · have hc := lgq.mp hc
                                      have hf := ofpos hf hc
                                      refine lv_aload_n hx hb dL_law_828 rfl (lv_at hl 1 rfl) ?_
                                      refine lv_iconst (v := 1) hx hb dL_law_829 (by decide) ?_
                                      refine lv_iconst (v := 2) hx hb dL_law_830 (by decide) ?_
                                      obtain ⟨r219, hg_r219, hf⟩ := ofbind hf
                                      refine kcVC (bs := [WCB k b1 o1 c142, WCB k b0 o0 r218.2]) (br := [WCB k b1 o1 c142]) (bc := [WCB k b0 o0 r218.2]) (bc' := [WCB k b0 o0 r219.2]) X hP hD hS (c_W_total l D k t b0 o0 r218.2 1 2 N r219 hg_r219) mv_L_40 hl [0] [1] 7 ⟨rfl, rfl⟩ ⟨Nat.le_of_ble_eq_true rfl, Nat.le_of_ble_eq_true rfl⟩ Y.1 rfl rfl rfl rfl rfl rfl rfl (Nat.le_of_ble_eq_true rfl) dL_law_831 (fun H locs hP hD hS => ?_)
                                      have hP : va_P D vwCl [WCB k b1 o1 c142, WCB k b0 o0 r219.2].flatten _ := hP
                                      have hD : va_D A [WCB k b1 o1 c142, WCB k b0 o0 r219.2].flatten := hD
                                      refine lv_aload_n hx hb dL_law_834 rfl (lv_at hl 1 rfl) ?_
                                      refine lv_iconst (v := 0) hx hb dL_law_835 (by decide) ?_
                                      refine lv_iconst (v := 2) hx hb dL_law_836 (by decide) ?_
                                      obtain ⟨r220, hg_r220, hf⟩ := ofbind hf
                                      refine kcVC (bs := [WCB k b1 o1 c142, WCB k b0 o0 r219.2]) (br := [WCB k b1 o1 c142]) (bc := [WCB k b0 o0 r219.2]) (bc' := [WCB k b0 o0 r220.2]) X hP hD hS (c_W_total l D k t b0 o0 r219.2 0 2 N r220 hg_r220) mv_L_40 hl [0] [1] 7 ⟨rfl, rfl⟩ ⟨Nat.le_of_ble_eq_true rfl, Nat.le_of_ble_eq_true rfl⟩ Y.1 rfl rfl rfl rfl rfl rfl rfl (Nat.le_of_ble_eq_true rfl) dL_law_837 (fun H locs hP hD hS => ?_)
                                      have hP : va_P D vwCl [WCB k b1 o1 c142, WCB k b0 o0 r220.2].flatten _ := hP
                                      have hD : va_D A [WCB k b1 o1 c142, WCB k b0 o0 r220.2].flatten := hD
                                      refine W.lcmp hx hb dL_law_840 ?_
                                      refine lv_if_ne (tgt := 906) hx hb dL_law_841 (by decide) (fun hc => ?_) (fun hc => ?_)
                                      · have hc := fun z => hc (lgq.mpr z)
                                        have hf := ofneg hf hc
                                        obtain ⟨hP, hD⟩ := B_perm (br := [WCB k b0 o0 r220.2, WCB k b1 o1 c142]) hP hD [1, 0] rfl rfl
                                        have hP : va_P D vwCl [WCB k b0 o0 r220.2, WCB k b1 o1 c142].flatten _ := hP
                                        have hD : va_D A [WCB k b0 o0 r220.2, WCB k b1 o1 c142].flatten := hD
                                        exact w_L_law_J906 X b0 o0 s0 b1 o1 s1 N cv Y r220.2 c142 out _ _ _ hP hD hS (lv_sub hl [] rfl) hf
                                      · have hc := lgq.mp hc
                                        have hf := ofpos hf hc
                                        refine lv_aload_n hx hb dL_law_844 rfl (lv_at hl 1 rfl) ?_
                                        refine lv_iconst (v := 1) hx hb dL_law_845 (by decide) ?_
                                        refine lv_iconst (v := 3) hx hb dL_law_846 (by decide) ?_
                                        obtain ⟨r221, hg_r221, hf⟩ := ofbind hf
                                        refine kcVC (bs := [WCB k b1 o1 c142, WCB k b0 o0 r220.2]) (br := [WCB k b1 o1 c142]) (bc := [WCB k b0 o0 r220.2]) (bc' := [WCB k b0 o0 r221.2]) X hP hD hS (c_W_total l D k t b0 o0 r220.2 1 3 N r221 hg_r221) mv_L_40 hl [0] [1] 7 ⟨rfl, rfl⟩ ⟨Nat.le_of_ble_eq_true rfl, Nat.le_of_ble_eq_true rfl⟩ Y.1 rfl rfl rfl rfl rfl rfl rfl (Nat.le_of_ble_eq_true rfl) dL_law_847 (fun H locs hP hD hS => ?_)
                                        have hP : va_P D vwCl [WCB k b1 o1 c142, WCB k b0 o0 r221.2].flatten _ := hP
                                        have hD : va_D A [WCB k b1 o1 c142, WCB k b0 o0 r221.2].flatten := hD
                                        refine lv_aload_n hx hb dL_law_850 rfl (lv_at hl 1 rfl) ?_
                                        refine lv_iconst (v := 0) hx hb dL_law_851 (by decide) ?_
                                        refine lv_iconst (v := 3) hx hb dL_law_852 (by decide) ?_
                                        obtain ⟨r222, hg_r222, hf⟩ := ofbind hf
                                        refine kcVC (bs := [WCB k b1 o1 c142, WCB k b0 o0 r221.2]) (br := [WCB k b1 o1 c142]) (bc := [WCB k b0 o0 r221.2]) (bc' := [WCB k b0 o0 r222.2]) X hP hD hS (c_W_total l D k t b0 o0 r221.2 0 3 N r222 hg_r222) mv_L_40 hl [0] [1] 7 ⟨rfl, rfl⟩ ⟨Nat.le_of_ble_eq_true rfl, Nat.le_of_ble_eq_true rfl⟩ Y.1 rfl rfl rfl rfl rfl rfl rfl (Nat.le_of_ble_eq_true rfl) dL_law_853 (fun H locs hP hD hS => ?_)
                                        have hP : va_P D vwCl [WCB k b1 o1 c142, WCB k b0 o0 r222.2].flatten _ := hP
                                        have hD : va_D A [WCB k b1 o1 c142, WCB k b0 o0 r222.2].flatten := hD
                                        refine W.lcmp hx hb dL_law_856 ?_
                                        refine lv_if_ne (tgt := 906) hx hb dL_law_857 (by decide) (fun hc => ?_) (fun hc => ?_)
                                        · have hc := fun z => hc (lgq.mpr z)
                                          have hf := ofneg hf hc
                                          obtain ⟨hP, hD⟩ := B_perm (br := [WCB k b0 o0 r222.2, WCB k b1 o1 c142]) hP hD [1, 0] rfl rfl
                                          have hP : va_P D vwCl [WCB k b0 o0 r222.2, WCB k b1 o1 c142].flatten _ := hP
                                          have hD : va_D A [WCB k b0 o0 r222.2, WCB k b1 o1 c142].flatten := hD
                                          exact w_L_law_J906 X b0 o0 s0 b1 o1 s1 N cv Y r222.2 c142 out _ _ _ hP hD hS (lv_sub hl [] rfl) hf
                                        · have hc := lgq.mp hc
                                          have hf := ofpos hf hc
                                          refine lv_aload_n hx hb dL_law_860 rfl (lv_at hl 1 rfl) ?_
                                          refine lv_iconst (v := 1) hx hb dL_law_861 (by decide) ?_
                                          obtain ⟨r223, hg_r223, hf⟩ := ofbind hf
                                          refine kcVC (bs := [WCB k b1 o1 c142, WCB k b0 o0 r222.2]) (br := [WCB k b1 o1 c142]) (bc := [WCB k b0 o0 r222.2]) (bc' := [WCB k b0 o0 r223.2]) X hP hD hS (c_W_lastRound l D k t b0 o0 r222.2 1 N r223 hg_r223) mv_L_43 hl [0] [1] 7 ⟨rfl, rfl⟩ ⟨Nat.le_of_ble_eq_true rfl, Nat.le_of_ble_eq_true rfl⟩ Y.1 rfl rfl rfl rfl rfl rfl rfl (Nat.le_of_ble_eq_true rfl) dL_law_862 (fun H locs hP hD hS => ?_)
                                          have hP : va_P D vwCl [WCB k b1 o1 c142, WCB k b0 o0 r223.2].flatten _ := hP
                                          have hD : va_D A [WCB k b1 o1 c142, WCB k b0 o0 r223.2].flatten := hD
                                          refine lv_aload_n hx hb dL_law_865 rfl (lv_at hl 1 rfl) ?_
                                          refine lv_iconst (v := 0) hx hb dL_law_866 (by decide) ?_
                                          obtain ⟨r224, hg_r224, hf⟩ := ofbind hf
                                          refine kcVC (bs := [WCB k b1 o1 c142, WCB k b0 o0 r223.2]) (br := [WCB k b1 o1 c142]) (bc := [WCB k b0 o0 r223.2]) (bc' := [WCB k b0 o0 r224.2]) X hP hD hS (c_W_lastRound l D k t b0 o0 r223.2 0 N r224 hg_r224) mv_L_43 hl [0] [1] 7 ⟨rfl, rfl⟩ ⟨Nat.le_of_ble_eq_true rfl, Nat.le_of_ble_eq_true rfl⟩ Y.1 rfl rfl rfl rfl rfl rfl rfl (Nat.le_of_ble_eq_true rfl) dL_law_867 (fun H locs hP hD hS => ?_)
                                          have hP : va_P D vwCl [WCB k b1 o1 c142, WCB k b0 o0 r224.2].flatten _ := hP
                                          have hD : va_D A [WCB k b1 o1 c142, WCB k b0 o0 r224.2].flatten := hD
                                          refine lv_icmp_ne (tgt := 906) hx hb dL_law_870 (by decide) (fun hc => ?_) (fun hc => ?_)
                                          · have hf := ofneg hf hc
                                            obtain ⟨hP, hD⟩ := B_perm (br := [WCB k b0 o0 r224.2, WCB k b1 o1 c142]) hP hD [1, 0] rfl rfl
                                            have hP : va_P D vwCl [WCB k b0 o0 r224.2, WCB k b1 o1 c142].flatten _ := hP
                                            have hD : va_D A [WCB k b0 o0 r224.2, WCB k b1 o1 c142].flatten := hD
                                            exact w_L_law_J906 X b0 o0 s0 b1 o1 s1 N cv Y r224.2 c142 out _ _ _ hP hD hS (lv_sub hl [] rfl) hf
                                          · have hf := ofpos hf hc
                                            refine lv_aload_n hx hb dL_law_873 rfl (lv_at hl 1 rfl) ?_
                                            refine lv_iconst (v := 0) hx hb dL_law_874 (by decide) ?_
                                            obtain ⟨r225, hg_r225, hf⟩ := ofbind hf
                                            refine kcVC (bs := [WCB k b1 o1 c142, WCB k b0 o0 r224.2]) (br := [WCB k b1 o1 c142]) (bc := [WCB k b0 o0 r224.2]) (bc' := [WCB k b0 o0 r225.2]) X hP hD hS (c_W_clear l D k t b0 o0 r224.2 0 N r225 hg_r225) mv_L_129 hl [0] [1] 7 ⟨rfl, rfl⟩ ⟨Nat.le_of_ble_eq_true rfl, Nat.le_of_ble_eq_true rfl⟩ Y.1 rfl rfl rfl rfl rfl rfl rfl (Nat.le_of_ble_eq_true rfl) dL_law_875 (fun H locs hP hD hS => ?_)
                                            have hP : va_P D vwCl [WCB k b1 o1 c142, WCB k b0 o0 r225.2].flatten _ := hP
                                            have hD : va_D A [WCB k b1 o1 c142, WCB k b0 o0 r225.2].flatten := hD
                                            refine lv_lload hx hb dL_law_878 (lv_at hl 0 rfl) ?_
                                            refine W.lcmp hx hb dL_law_880 ?_
                                            refine lv_if_ne (tgt := 906) hx hb dL_law_881 (by decide) (fun hc => ?_) (fun hc => ?_)
                                            · have hc := fun z => hc (lgq.mpr z)
                                              have hf := ofneg hf hc
                                              obtain ⟨hP, hD⟩ := B_perm (br := [WCB k b0 o0 r225.2, WCB k b1 o1 c142]) hP hD [1, 0] rfl rfl
                                              have hP : va_P D vwCl [WCB k b0 o0 r225.2, WCB k b1 o1 c142].flatten _ := hP
                                              have hD : va_D A [WCB k b0 o0 r225.2, WCB k b1 o1 c142].flatten := hD
                                              exact w_L_law_J906 X b0 o0 s0 b1 o1 s1 N cv Y r225.2 c142 out _ _ _ hP hD hS (lv_sub hl [] rfl) hf
                                            · have hc := lgq.mp hc
                                              have hf := ofpos hf hc
                                              refine lv_aload_n hx hb dL_law_884 rfl (lv_at hl 1 rfl) ?_
                                              refine lv_iconst (v := 0) hx hb dL_law_885 (by decide) ?_
                                              obtain ⟨r226, hg_r226, hf⟩ := ofbind hf
                                              refine kcVC (bs := [WCB k b1 o1 c142, WCB k b0 o0 r225.2]) (br := [WCB k b1 o1 c142]) (bc := [WCB k b0 o0 r225.2]) (bc' := [WCB k b0 o0 r226.2]) X hP hD hS (c_W_certain l D k t b0 o0 r225.2 0 N r226 hg_r226) mv_L_8 hl [0] [1] 7 ⟨rfl, rfl⟩ ⟨Nat.le_of_ble_eq_true rfl, Nat.le_of_ble_eq_true rfl⟩ Y.1 rfl rfl rfl rfl rfl rfl rfl (Nat.le_of_ble_eq_true rfl) dL_law_886 (fun H locs hP hD hS => ?_)
                                              have hP : va_P D vwCl [WCB k b1 o1 c142, WCB k b0 o0 r226.2].flatten _ := hP
                                              have hD : va_D A [WCB k b1 o1 c142, WCB k b0 o0 r226.2].flatten := hD
                                              refine lv_iconst (v := 1) hx hb dL_law_889 (by decide) ?_
                                              refine lv_iload hx hb dL_law_890 (lv_at hl 5 rfl) ?_
                                              refine lv_ishl hx hb dL_law_892 ?_
                                              refine lv_iconst (v := 1) hx hb dL_law_893 (by decide) ?_
                                              refine lv_isub hx hb dL_law_894 ?_
                                              refine lv_icmp_eq (tgt := 908) hx hb dL_law_895 (by decide) (fun hc => ?_) (fun hc => ?_)
                                              · have hf := ofpos hf hc
                                                obtain ⟨hP, hD⟩ := B_perm (br := [WCB k b0 o0 r226.2, WCB k b1 o1 c142]) hP hD [1, 0] rfl rfl
                                                have hP : va_P D vwCl [WCB k b0 o0 r226.2, WCB k b1 o1 c142].flatten _ := hP
                                                have hD : va_D A [WCB k b0 o0 r226.2, WCB k b1 o1 c142].flatten := hD
                                                exact w_L_law_J908 X b0 o0 s0 b1 o1 s1 N cv Y (2 + r1) (1 + r2) (1 + r4) r226.2 c142 out _ _ _ hP hD hS (lv_sub hl [1, 2, 3, 4] rfl) hf
                                              · have hf := ofneg hf hc
                                                refine lv_aload_n hx hb dL_law_898 rfl (lv_at hl 1 rfl) ?_
                                                refine lv_iconst (v := 5) hx hb dL_law_899 (by decide) ?_
                                                obtain ⟨r244, hg_r244, hf⟩ := ofbind hf
                                                refine kcVC (bs := [WCB k b1 o1 c142, WCB k b0 o0 r226.2]) (br := [WCB k b1 o1 c142]) (bc := [WCB k b0 o0 r226.2]) (bc' := [WCB k b0 o0 r226.2]) X hP hD hS (c_W_form l D k t b0 o0 r226.2 5 N r244 hg_r244) mv_L_14 hl [0] [1] 7 ⟨rfl, rfl⟩ ⟨Nat.le_of_ble_eq_true rfl, Nat.le_of_ble_eq_true rfl⟩ Y.1 rfl rfl rfl rfl rfl rfl rfl (Nat.le_of_ble_eq_true rfl) dL_law_900 (fun H locs hP hD hS => ?_)
                                                have hP : va_P D vwCl [WCB k b1 o1 c142, WCB k b0 o0 r226.2].flatten _ := hP
                                                have hD : va_D A [WCB k b1 o1 c142, WCB k b0 o0 r226.2].flatten := hD
                                                refine lv_if_le (tgt := 908) hx hb dL_law_903 (by decide) (fun hc => ?_) (fun hc => ?_)
                                                · have hf := ofpos hf hc
                                                  obtain ⟨hP, hD⟩ := B_perm (br := [WCB k b0 o0 r226.2, WCB k b1 o1 c142]) hP hD [1, 0] rfl rfl
                                                  have hP : va_P D vwCl [WCB k b0 o0 r226.2, WCB k b1 o1 c142].flatten _ := hP
                                                  have hD : va_D A [WCB k b0 o0 r226.2, WCB k b1 o1 c142].flatten := hD
                                                  exact w_L_law_J908 X b0 o0 s0 b1 o1 s1 N cv Y (2 + r1) (1 + r2) (1 + r4) r226.2 c142 out _ _ _ hP hD hS (lv_sub hl [1, 2, 3, 4] rfl) hf
                                                · have hf := ofneg hf hc
                                                  obtain ⟨hP, hD⟩ := B_perm (br := [WCB k b0 o0 r226.2, WCB k b1 o1 c142]) hP hD [1, 0] rfl rfl
                                                  have hP : va_P D vwCl [WCB k b0 o0 r226.2, WCB k b1 o1 c142].flatten _ := hP
                                                  have hD : va_D A [WCB k b0 o0 r226.2, WCB k b1 o1 c142].flatten := hD
                                                  exact w_L_law_J906 X b0 o0 s0 b1 o1 s1 N cv Y r226.2 c142 out _ _ _ hP hD hS (lv_sub hl [] rfl) hf
                                · have hf := ofpos hf hc
                                  refine lv_iconst (v := 0) hx hb dL_law_789 (by decide) ?_
                                  cases hf
              · intro i245 c246 c247 H locs ls hP hD hS hl hf
                refine lv_goto (tgt := 288) hx hb dL_law_269 (by decide) ?_
                refine lv_iconst (v := 0) hx hb dL_law_288 (by decide) ?_
                cases hf
            · have hf := ofneg hf hc
              refine lv_iconst (v := 0) hx hb dL_law_153 (by decide) ?_
              cases hf
