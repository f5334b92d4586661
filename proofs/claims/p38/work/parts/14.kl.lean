/-! calls at any count of cells and slots -/
section KL
variable {p : Program} {l : Launch} {e : Env} {R : Room} {s : State} {m : MethodId} {args : Array Value} {below : List Frame} {meth : Method} {c : Code} {H : Heap} {locs : List Loc} {cells slots : Nat} {Q : State → Prop}
variable {D : va_G} {k : Nat → ClassId} {t : Nat → Nat} {cc : ByteArray} {nL pc : Nat} {own : String} {ret : Option FieldType} {A : Nat → Prop} {ls : Array Slot} {rest st0 : List Value} {ws : va_W} {lv : List (Nat × Value)}
theorem kfinC {bs bc br bc' : List va_W} {rv : Option Value} {a : Array Value} (X : BX l D k t p s m args meth c cc nL own ret A) (hP : va_P D vwCl bs.flatten H) (hD : va_D A bs.flatten) (hS : va_S A s.heap H locs) (isR isC : List Nat) (hi : (isR ++ isC).map (fun i => bs[i]?) = (br ++ bc).map some) (hp : (isR ++ isC).isPerm (List.range bs.length) = true)
    (hr : va_Run p l e R s m args below meth c H locs cells slots 0 0 (F0 m pc ls st0) rest (QW D k (va_A bc.flatten H.size) rv bc'.flatten a) (va_A bc.flatten H.size))
    (kk : ∀ (H1 : Heap) (locs1 : List Loc), va_P D vwCl (br ++ bc').flatten H1 → va_D A (br ++ bc').flatten → va_S A s.heap H1 locs1 → W p l e R s m args below meth c H1 locs1 cells slots Q (F0 m (pc + 3) ls (rv.toList ++ rest))) : W p l e R s m args below meth c H locs cells slots Q (F0 m pc ls st0) := by
  have hpm := (idx_perm hi hp).flatten
  have hP0 := P_mem.mp (P_perm hP hpm)
  have hD0 := D_nd.mp (D_perm hD hpm)
  rw [List.flatten_append] at hP0 hD0
  rw [List.map_append] at hD0
  have hnd := List.nodup_append.mp hD0.1
  have hF : ∀ q, va_A bc.flatten H.size q → A q := by
    intro q h
    rcases h with ⟨j, e', h⟩ | h
    · exact hD0.2 (q, e') (List.mem_append_right _ (List.mem_of_getElem? h))
    · exact X.2.2.2.2.1 q (Nat.le_trans hS.1 h)
  have apart : ∀ q ∈ br.flatten, q.1 < H.size ∧ ¬ va_A bc.flatten H.size q.1 := by
    intro q hq
    have hl := (hP0 q (List.mem_append_left _ hq)).lt
    refine ⟨hl, fun h => ?_⟩
    rcases h with ⟨j, e', h⟩ | h
    · exact hnd.2.2 q.1 (List.mem_map.mpr ⟨q, hq, rfl⟩) q.1 (List.mem_map.mpr ⟨(q.1, e'), List.mem_of_getElem? h, rfl⟩) rfl
    · omega
  intro T hT Xs
  obtain ⟨v, st₀, t', T', L, h0, X', hL, e1, e2, ⟨hv, hP1, hK1, hD1, hz, hk⟩, st⟩ := hr T hT Xs
  cases hv
  rw [h0] at hz hk
  have hD1 := D_nd.mp hD1
  have hP1 := P_mem.mp hP1
  obtain ⟨t2, a1, b1⟩ := kk T'.heap (locs ++ L)
    (P_mem.mpr fun q hq => by
      rw [e1]
      rw [List.flatten_append] at hq
      rcases List.mem_append.mp hq with h | h
      · exact (hP0 q (List.mem_append_left _ h)).kept (hk q.1 (apart q h).1 (apart q h).2)
      · exact hP1 q h)
    (D_nd.mpr ⟨by
      rw [List.flatten_append, List.map_append]
      refine List.nodup_append.mpr ⟨hnd.1, hD1.1, fun x hx y hy e => ?_⟩
      obtain ⟨q, hq, rfl⟩ := List.mem_map.mp hx
      obtain ⟨q', hq', rfl⟩ := List.mem_map.mp hy
      exact (apart q hq).2 (by rw [e]; exact hD1.2 q' hq'), fun q hq => by
      rw [List.flatten_append] at hq
      rcases List.mem_append.mp hq with h | h
      · exact hD0.2 q (List.mem_append_left _ h)
      · exact hF _ (hD1.2 q h)⟩)
    ⟨Nat.le_trans hS.1 (by rw [e1]; exact hz), fun q h1 h2 => by rw [e1, hk q (Nat.lt_of_lt_of_le h1 hS.1) (fun z => h2 (hF q z))]; exact hS.2.1 q h1 h2, fun q hq => by
      rcases List.mem_append.mp hq with h | h
      · exact hS.2.2 q h
      · exact hF _ (hL q h)⟩ T' rfl X'
  exact ⟨t2, st t2 a1, b1⟩
theorem kcVC {bs bc br bc' : List va_W} {rv : Option Value} {As : List Value} {index n maxL : Nat} {y : MethodName} {bytes : ByteArray} {retc : Option FieldType} {rm : Room} {b : Nat} {fs : List Value} (X : BX l D k t p s m args meth c cc nL own ret A) (hP : va_P D vwCl bs.flatten H) (hD : va_D A bs.flatten) (hS : va_S A s.heap H locs)
    (hM : CT l D k t y bytes maxL retc rm (.ref b :: As) bc.flatten rv bc'.flatten) (mv : MV own index n y bytes maxL retc) (hl : lv_has ls nL lv) (isR isC : List Nat) (ci : Nat) {r : vw_C} (hrm : rm.cells = 0 ∧ rm.slots = 0) (hR : rm.frames + 1 ≤ R.frames ∧ 8 + (maxL + 11) + rm.locals ≤ R.locals) (hcs : cells ≤ R.cells ∧ slots ≤ R.slots) (hn : As.length = n)
    (hi : (isR ++ isC).map (fun i => bs[i]?) = (br ++ bc).map some) (hp : (isR ++ isC).isPerm (List.range bs.length) = true) (hc : vwCl[ci]? = some r) (hcy : r.1 = y.cls) (hb0 : bc.flatten[0]? = some (b, .inr (ci, fs))) (hst : st0 = As.reverse ++ .ref b :: rest) (hW : (rest.map fun v => v.category).sum ≤ 8) (hdg : decode cc pc = .ok (.invokevirtual index, 3))
    (kk : ∀ (H1 : Heap) (locs1 : List Loc), va_P D vwCl (br ++ bc').flatten H1 → va_D A (br ++ bc').flatten → va_S A s.heap H1 locs1 → W p l e R s m args below meth c H1 locs1 cells slots Q (F0 m (pc + 3) ls (rv.toList ++ rest))) : W p l e R s m args below meth c H locs cells slots Q (F0 m pc ls st0) := by
  subst hst
  have hpr := kpre (av := .ref b :: As) X hP hD hS isR isC hi hp
  have hPc : va_P D vwCl bc.flatten H := by
    have h1 := P_perm hP (idx_perm hi hp).flatten
    rw [List.flatten_append] at h1
    exact P_mem.mpr fun q hq => P_mem.mp h1 q (List.mem_append_right _ hq)
  have hrv := va_recv X.2.2.2.1 hPc hc hb0
  rw [hcy] at hrv
  refine kfinC X hP hD hS isR isC hi hp (va_runV (As := As) (rest := rest) X.1 (hM H.size) (cwV n X.1.2.2.2.2 (fun w hw => ?_) rfl hrm.1 hrm.2 ⟨rfl, mv.2.1, mv.2.2.1, mv.2.2.2⟩ hR) ⟨PW_blind, hrv, hpr⟩ rfl hn hl.1 rfl (lv_room hW) hdg hcs) kk
  unfold wsV at hw
  rcases List.mem_append.mp hw with h | h
  · simp only [List.mem_cons, List.not_mem_nil, or_false] at h
    rcases h with rfl | rfl | rfl | rfl
    · exact ALL_good _ mv.1.1
    · exact ALL_good _ mv.1.2.1
    · exact ALL_good _ mv.1.2.2.1
    · exact ALL_good _ mv.1.2.2.2.1
  · exact gU mv.1.2.2.2.2 w h
theorem kcSC {bs bc br bc' : List va_W} {rv : Option Value} {As : List Value} {index n maxL : Nat} {y : MethodName} {bytes : ByteArray} {retc : Option FieldType} {rm : Room} (X : BX l D k t p s m args meth c cc nL own ret A) (hP : va_P D vwCl bs.flatten H) (hD : va_D A bs.flatten) (hS : va_S A s.heap H locs)
    (hM : CT l D k t y bytes maxL retc rm As bc.flatten rv bc'.flatten) (mv : MS own index n y bytes maxL retc) (hl : lv_has ls nL lv) (isR isC : List Nat) (hrm : rm.cells = 0 ∧ rm.slots = 0) (hR : rm.frames + 1 ≤ R.frames ∧ 8 + (maxL + 11) + rm.locals ≤ R.locals) (hcs : cells ≤ R.cells ∧ slots ≤ R.slots) (hn : As.length = n)
    (hi : (isR ++ isC).map (fun i => bs[i]?) = (br ++ bc).map some) (hp : (isR ++ isC).isPerm (List.range bs.length) = true) (hst : st0 = As.reverse ++ rest) (hW : (rest.map fun v => v.category).sum ≤ 8) (hdg : decode cc pc = .ok (.invokestatic index, 3))
    (kk : ∀ (H1 : Heap) (locs1 : List Loc), va_P D vwCl (br ++ bc').flatten H1 → va_D A (br ++ bc').flatten → va_S A s.heap H1 locs1 → W p l e R s m args below meth c H1 locs1 cells slots Q (F0 m (pc + 3) ls (rv.toList ++ rest))) : W p l e R s m args below meth c H locs cells slots Q (F0 m pc ls st0) := by
  subst hst
  have hpr := kpre (av := As) X hP hD hS isR isC hi hp
  refine kfinC X hP hD hS isR isC hi hp (va_runS (As := As) (rest := rest) X.1 (hM H.size) (va_cwS n X.1.2.2.2.2 (fun w hw => ?_) rfl hrm.1 hrm.2 ⟨mv.2.1, mv.2.2.1, mv.2.2.2⟩ hR) ⟨PW_blind, hpr⟩ rfl hn hl.1 rfl (lv_room hW) hdg hcs) kk
  unfold va_wsS at hw
  rcases List.mem_append.mp hw with h | h
  · simp only [List.mem_cons, List.not_mem_nil, or_false] at h
    rcases h with rfl | rfl | rfl
    · exact ALL_good _ mv.1.1
    · exact ALL_good _ mv.1.2.1
    · exact ALL_good _ mv.1.2.2.1
  · exact gU mv.1.2.2.2 w h
end KL
/-! the script's cells -/
def cellv (L : Nat) (xs : Nat → Int32) (i : Int32) : Int32 := if Int32.ofNat L ≤ i then 7919 * (i + 3) * (i + 11) else xs i.toNatClampNeg
abbrev rm_L_cell : Room := ({ frames := 0, cells := 0, slots := 0, locals := 0 } : Room)
set_option maxRecDepth 100000 in
set_option maxHeartbeats 1000000 in
theorem c_L_cell (l : Launch) (D : va_G) (k : Nat → ClassId) (t : Nat → Nat) (b L : Nat) (xs : Nat → Int32) (i : Int32) (hi : 0 ≤ i) (hL : L ≤ 260) (sz : Nat) : Met l yL_cell (.code yL_cell cL_cell 2 (some .int) :: ALL) rm_L_cell (va_Pc [.ref b, .int i] (fun U => PW D k t [] sz U ∧ va_T .int b L (fun j => .int (xs j)) (va_A [] sz) U U.heap)) (QW D k (va_A [] sz) (some (.int (cellv L xs i))) []) 0 0 (va_A [] sz) := by
  refine Met.ofW (cc := cL_cell) (maxL := 2) (ret := some .int) (by decide) rfl ?_
  intro p e s m args below meth c s₁ B hml hv
  obtain ⟨rfl, ⟨hsz, hP, hK, hD0, hE⟩, hT⟩ := hv
  subst hsz
  have hts := atoms_spec (ws := .code yL_cell cL_cell 2 (some .int) :: ALL) B.pre
  have hl := lv_entry ([.ref b, .int i]) (n := 2) (Nat.le_of_ble_eq_true rfl)
  rw [lg_entry_eq]
  generalize (lg_sl ([.ref b, .int i]) ++ List.replicate (2 - (lg_sl ([.ref b, .int i])).length) Slot.unset).toArray = ls at hl ⊢
  have hl : lv_has ls 2 [(0, .ref b), (1, .int i)] := hl
  have X : BX l D k t p s m (#[.ref b, .int i] : Array Value) meth c cL_cell 2 yL_cell.cls (some .int) (va_A [] s.heap.size) := ⟨⟨B.exec, B.bytes, hml, findClass_of_methodNamed B.named, fun w hw => hts w (List.mem_cons_of_mem _ hw)⟩, B.returns, B.notSynchronized, hK, fun q h => Or.inr h, hE⟩
  have hx := X.1.1
  have hb := X.1.2.1
  have hS : va_S (va_A [] s.heap.size) s.heap s.heap [] := va_S.rf
  have hD : va_D (va_A [] s.heap.size) [] := hD0.self
  refine lv_iload_n hx hb dL_cell_0 rfl (lv_at hl 1 rfl) ?_
  refine lv_aload_n hx hb dL_cell_1 rfl (lv_at hl 0 rfl) ?_
  refine va_tlen hx hb hT hS rfl dL_cell_2 ?_
  refine lv_icmp_ge (tgt := 12) hx hb dL_cell_3 (by decide) (fun hc => ?_) (fun hc => ?_)
  · have e1 : cellv L xs i = 7919 * (i + 3) * (i + 11) := if_pos hc
    rw [e1]
    refine lv_sipush (v := 7919) hx hb dL_cell_12 (by decide) ?_
    refine lv_iload_n hx hb dL_cell_15 rfl (lv_at hl 1 rfl) ?_
    refine lv_iconst (v := 3) hx hb dL_cell_16 (by decide) ?_
    refine lv_iadd hx hb dL_cell_17 ?_
    refine lv_imul hx hb dL_cell_18 ?_
    refine lv_iload_n hx hb dL_cell_19 rfl (lv_at hl 1 rfl) ?_
    refine lv_bipush (v := 11) hx hb dL_cell_20 (by decide) ?_
    refine lv_iadd hx hb dL_cell_22 ?_
    refine lv_imul hx hb dL_cell_23 ?_
    exact kiret X hP hD hS dL_cell_24
  · have e1 : cellv L xs i = xs i.toNatClampNeg := if_neg hc
    rw [e1]
    have hin : vp_in i L := by
      intro q
      rcases q with q | q
      · exact Int32.not_lt.mpr hi q
      · refine hc (Int32.le_iff_toInt_le.mpr ?_)
        have h2 : (Int32.ofNat L).toInt = (L : Int) := nI_toInt (by omega)
        have h3 : i.toNatClampNeg = i.toInt.toNat := rfl
        have h4 : (0 : Int32).toInt ≤ i.toInt := Int32.le_iff_toInt_le.mp hi
        have h5 : (0 : Int32).toInt = 0 := rfl
        rw [h2]
        omega
    refine lv_aload_n hx hb dL_cell_6 rfl (lv_at hl 0 rfl) ?_
    refine lv_iload_n hx hb dL_cell_7 rfl (lv_at hl 1 rfl) ?_
    refine va_ti (v := .int (xs i.toNatClampNeg)) hx hb hT hS hin rfl dL_cell_8 ?_
    refine lv_goto (tgt := 24) hx hb dL_cell_9 (by decide) ?_
    exact kiret X hP hD hS dL_cell_24
/-- what every row of the law's own walk needs -/
abbrev LB (l : Launch) (p : Program) (e : Env) (s : State) (m : MethodId) (args : Array Value) (below : List Frame) (meth : Method) (c : Code) (A : Nat → Prop) (cells slots : Nat) (Q : State → Prop) (b L : Nat) (xs : Nat → Int32) (cv : Int32 → Int32) : Prop :=
  (cells ≤ room_1.cells ∧ slots ≤ room_1.slots) ∧ va_X b L xs s s.heap ∧ b < s.heap.size ∧ ¬ A b ∧ (L ≤ 260 ∧ cv = cellv L xs) ∧ (∀ (H : Heap) (locs : List Loc) (ls : Array Slot), va_S A s.heap H locs → W p l e room_1 s m args below meth c H locs cells slots Q (F0 m 1039 ls [.int 1]))
section KM
variable {p : Program} {l : Launch} {e : Env} {s : State} {m : MethodId} {args : Array Value} {below : List Frame} {meth : Method} {c : Code} {H : Heap} {locs : List Loc} {cells slots : Nat} {Q : State → Prop}
variable {D : va_G} {k : Nat → ClassId} {t : Nat → Nat} {pc : Nat} {A : Nat → Prop} {ls : Array Slot} {rest : List Value} {lv : List (Nat × Value)} {b L : Nat} {xs : Nat → Int32} {cv : Int32 → Int32}
theorem ms_L_71 : MS RL 71 2 yL_cell cL_cell 2 (some .int) := ⟨⟨(wm_r4 (List.mem_of_getElem? (i := 20) rfl)), (wm_r4 (List.mem_of_getElem? (i := 21) rfl)), (wm_r4 (List.mem_of_getElem? (i := 22) rfl)), (wm_r4 (List.mem_of_getElem? (i := 23) rfl))⟩, by decide +kernel, by decide +kernel, by decide +kernel⟩
set_option maxRecDepth 100000 in
set_option maxHeartbeats 1000000 in
theorem kcell {bs : List va_W} {i : Int32} (X : BX l D k t p s m args meth c cL_law 20 RL (some .boolean) A) (Y : LB l p e s m args below meth c A cells slots Q b L xs cv) (hP : va_P D vwCl bs.flatten H) (hD : va_D A bs.flatten) (hS : va_S A s.heap H locs) (hl : lv_has ls 20 lv) (isR : List Nat) (hi : (isR ++ []).map (fun i => bs[i]?) = (bs ++ []).map some) (hp : (isR ++ []).isPerm (List.range bs.length) = true) (hz : (0 : Int32) ≤ i) (hW : (rest.map fun v => v.category).sum ≤ 8) (hdg : decode cL_law pc = .ok (.invokestatic 71, 3))
    (kk : ∀ (H1 : Heap) (locs1 : List Loc), va_P D vwCl bs.flatten H1 → va_D A bs.flatten → va_S A s.heap H1 locs1 → W p l e room_1 s m args below meth c H1 locs1 cells slots Q (F0 m (pc + 3) ls (.int (cv i) :: rest))) : W p l e room_1 s m args below meth c H locs cells slots Q (F0 m pc ls (.int i :: .ref b :: rest)) := by
  obtain ⟨y1, y2, y3, y4, ⟨y5, y6⟩, -⟩ := Y
  have mv := ms_L_71
  refine kfinC (bs := bs) (br := bs) (bc := []) (bc' := []) X hP hD hS isR [] hi hp (va_runS (As := [.ref b, .int i]) (rest := rest) X.1 (c_L_cell l D k t b L xs i hz y5 H.size) (va_cwS 2 X.1.2.2.2.2 (fun w hw => ?_) rfl rfl rfl ⟨mv.2.1, mv.2.2.1, mv.2.2.2⟩ ⟨Nat.le_of_ble_eq_true rfl, Nat.le_of_ble_eq_true rfl⟩) ⟨?_, fun U hU hWU => ⟨rfl, (kpre (av := []) X hP hD hS isR [] hi hp U hU hWU).2, ?_⟩⟩ rfl rfl hl.1 rfl (lv_room hW) hdg y1) (fun H1 locs1 hP1 hD1 hS1 => ?_)
  · unfold va_wsS at hw
    rcases List.mem_append.mp hw with h | h
    · simp only [List.mem_cons, List.not_mem_nil, or_false] at h
      rcases h with rfl | rfl | rfl
      · exact ALL_good _ mv.1.1
      · exact ALL_good _ mv.1.2.1
      · exact ALL_good _ mv.1.2.2.1
    · exact gU mv.1.2.2.2 w h
  · intro a U g mk q
    obtain ⟨q0, ⟨z1, z2, z3, z4, z5⟩, qT⟩ := q
    exact ⟨q0, ⟨z1, z2, va_K.moved (u := U) (U := U.calling g mk a) (Vm.Alike.refl U.vm) z3, z4, z5.same rfl⟩, va_T.moved (u := U) (U := U.calling g mk a) (Vm.Alike.refl U.vm) qT⟩
  · obtain ⟨scr, x1, x2, x3, x4, x5⟩ := y2
    refine ⟨scr, by rw [hU, hS.2.1 b y3 y4]; exact x1, State.isArrayOf_alike hWU.alike x2, x3, Nat.le_of_eq x4.symm, by rw [x4], x5, ?_⟩
    intro q
    rcases q with ⟨j, e', h⟩ | h
    · simp at h
    · have := hS.1
      omega
  · rw [List.append_nil] at hP1 hD1
    have h2 := kk H1 locs1 hP1 hD1 hS1
    rw [y6] at h2
    exact h2
end KM
