/-! History, by hand: the slots' rows stay, their order turns -/
def f_History_dropOldest (h : HistoryS) : HistoryS := (h.2.1, h.2.2.1, h.2.2.2.1, h.2.2.2.2.1, h.1, 4)
def hput (h : HistoryS) (q : StateS) : Option HistoryS := if h.2.2.2.2.2 = 0 then some ((h.1.1, q), h.2.1, h.2.2.1, h.2.2.2.1, h.2.2.2.2.1, h.2.2.2.2.2 + 1) else if h.2.2.2.2.2 = 1 then some (h.1, (h.2.1.1, q), h.2.2.1, h.2.2.2.1, h.2.2.2.2.1, h.2.2.2.2.2 + 1) else if h.2.2.2.2.2 = 2 then some (h.1, h.2.1, (h.2.2.1.1, q), h.2.2.2.1, h.2.2.2.2.1, h.2.2.2.2.2 + 1) else if h.2.2.2.2.2 = 3 then some (h.1, h.2.1, h.2.2.1, (h.2.2.2.1.1, q), h.2.2.2.2.1, h.2.2.2.2.2 + 1) else if h.2.2.2.2.2 = 4 then some (h.1, h.2.1, h.2.2.1, h.2.2.2.1, (h.2.2.2.2.1.1, q), h.2.2.2.2.2 + 1) else none
def f_History_push (h : HistoryS) (q : StateS) : Option HistoryS := if h.2.2.2.2.2 < 5 then hput h q else hput (f_History_dropOldest h) q
def hget (h : HistoryS) (y : Int32) : Option (Int32 × HistoryS × StateS) := if y = 0 then some (y, (h.1, h.2.1, h.2.2.1, h.2.2.2.1, h.2.2.2.2.1, y), h.1.2) else if y = 1 then some (y, (h.1, h.2.1, h.2.2.1, h.2.2.2.1, h.2.2.2.2.1, y), h.2.1.2) else if y = 2 then some (y, (h.1, h.2.1, h.2.2.1, h.2.2.2.1, h.2.2.2.2.1, y), h.2.2.1.2) else if y = 3 then some (y, (h.1, h.2.1, h.2.2.1, h.2.2.2.1, h.2.2.2.2.1, y), h.2.2.2.1.2) else if y = 4 then some (y, (h.1, h.2.1, h.2.2.1, h.2.2.2.1, h.2.2.2.2.1, y), h.2.2.2.2.1.2) else none
def f_History_pop (h : HistoryS) (q : StateS) : Option (Int32 × HistoryS × StateS) := if 1 ≤ h.2.2.2.2.2 then hget h (h.2.2.2.2.2 - 1) else some (-4, h, q)
theorem cell_q {cA : ClassId} {n : Nat} {f g : Nat → Option Nat} (h : ∀ j, j < n → f j = g j) : vp_cell cA (n, .inr (.inr (.inr (.inr f)))) = vp_cell cA (n, .inr (.inr (.inr (.inr g)))) := by
  rw [vp_cell_q, vp_cell_q]
  exact arrV_congr fun j hj => by rw [h j hj]
section KH
variable {p : Program} {l : Launch} {e : Env} {R : Room} {s : State} {m : MethodId} {args : Array Value} {below : List Frame} {meth : Method} {c : Code} {H : Heap} {locs : List Loc} {Q : State → Prop}
variable {D : va_G} {k : Nat → ClassId} {t : Nat → Nat} {cc : ByteArray} {nL pc : Nat} {own : String} {ret : Option FieldType} {A : Nat → Prop} {ls : Array Slot} {rest st0 : List Value} {ws : va_W} {lv : List (Nat × Value)}
theorem kaldq {n a v : Nat} {f : Nat → Option Nat} {i : Int32} (X : BX l D k t p s m args meth c cc nL own ret A) (hP : va_P D vwCl ws H) (q0 : Nat) (ha : ws[q0]? = some (a, .inl (k 2, n, .inr (.inr (.inr (.inr f)))))) (hv : f i.toNatClampNeg = some v) (hin : vp_in i n) (hdg : decode cc pc = .ok (.aaload, 1))
    (kk : W p l e R s m args below meth c H locs 0 0 Q (F0 m (pc + 1) ls (.ref v :: rest))) : W p l e R s m args below meth c H locs 0 0 Q (F0 m pc ls (.int i :: .ref a :: rest)) := by
  have e : va_rf (f i.toNatClampNeg) = .ref v := by rw [hv]; rfl
  refine va_aldq (C := RX5) X.1.1 X.1.2.1 X.2.2.2.1 hP q0 2 ha rfl hin hdg ?_
  rw [e]
  exact kk
theorem kastq {n a v : Nat} {vs : List Value} {f g : Nat → Option Nat} {i : Int32} (X : BX l D k t p s m args meth c cc nL own ret A) (hP : va_P D vwCl ws H) (hD : va_D A ws) (hS : va_S A s.heap H locs) (q0 qk : Nat) (ha : ws[q0]? = some (a, .inl (k 2, n, .inr (.inr (.inr (.inr f)))))) (hv : ws[qk]? = some (v, .inr (5, vs))) (hin : vp_in i n) (hg : va_up f i.toNatClampNeg (some v) = g) (hdg : decode cc pc = .ok (.aastore, 1))
    (kk : ∀ (H1 : Heap) (locs1 : List Loc), va_P D vwCl (ws.set q0 (a, .inl (k 2, n, .inr (.inr (.inr (.inr g)))))) H1 → va_D A (ws.set q0 (a, .inl (k 2, n, .inr (.inr (.inr (.inr g)))))) → va_S A s.heap H1 locs1 → W p l e R s m args below meth c H1 locs1 0 0 Q (F0 m (pc + 1) ls rest)) : W p l e R s m args below meth c H locs 0 0 Q (F0 m pc ls (.ref v :: .int i :: .ref a :: rest)) := by
  subst hg
  exact va_astq (r := (RX5, TX5, 5)) X.1.1 X.1.2.1 X.2.2.2.1 hP hD hS q0 2 qk 5 ha rfl hv rfl hin hdg kk
end KH
theorem vin_c {i : Int32} {n : Nat} (h : ck i n = true) : vp_in i n := ck_in h
theorem ff_X4_11 : FF RX4 11 4 0 := ⟨(RX4, TX4, 2), rfl, by decide, inlX4, (wm_r3 (List.mem_of_getElem? (i := 17) rfl)), rfl⟩
theorem ff_X4_18 : FF RX4 18 4 1 := ⟨(RX4, TX4, 2), rfl, by decide, inlX4, (wm_r5 (List.mem_of_getElem? (i := 12) rfl)), rfl⟩
theorem fp_X4_18 : FP RX4 18 4 1 .int := ⟨(RX4, TX4, 2), rfl, by decide, inlX4, (wm_r5 (List.mem_of_getElem? (i := 12) rfl)), rfl, rfl, by decide +kernel, ⟨tyX4, tyX4_ok⟩, nmX4⟩
theorem mv_X4_22 : MV RX4 22 0 yX4_dropOldest cX4_dropOldest 3 none := ⟨⟨(wm_r9 (List.mem_of_getElem? (i := 0) rfl)), (wm_r9 (List.mem_of_getElem? (i := 1) rfl)), (wm_r9 (List.mem_of_getElem? (i := 2) rfl)), (wm_r1 (List.mem_of_getElem? (i := 18) rfl)), (wm_r9 (List.mem_of_getElem? (i := 3) rfl))⟩, by decide +kernel, by decide +kernel, by decide +kernel⟩
theorem mv_X4_25 : MV RX4 25 1 yX5_copyFrom cX5_copyFrom 2 none := ⟨⟨(wm_r5 (List.mem_of_getElem? (i := 13) rfl)), (wm_r5 (List.mem_of_getElem? (i := 14) rfl)), (wm_r5 (List.mem_of_getElem? (i := 15) rfl)), (wm_r1 (List.mem_of_getElem? (i := 14) rfl)), (wm_r5 (List.mem_of_getElem? (i := 16) rfl))⟩, by decide +kernel, by decide +kernel, by decide +kernel⟩
abbrev rm_History_dropOldest : Room := ({ frames := 0, cells := 0, slots := 0, locals := 0 } : Room)
set_option maxRecDepth 100000 in
set_option maxHeartbeats 1000000 in
theorem c_History_dropOldest (l : Launch) (D : va_G) (k : Nat → ClassId) (t : Nat → Nat) (b : Nat → Nat) (o : Nat) (h : HistoryS) : CT l D k t yX4_dropOldest cX4_dropOldest 3 none rm_History_dropOldest [.ref (b o)] [W_History k b o h].flatten none [W_History k b o (f_History_dropOldest h)].flatten := by
  refine kofW (by decide) (Nat.le_of_ble_eq_true rfl) ?_
  intro p e s m below meth c A ls X hP hD hS hl
  have hx := X.1.1
  have hb := X.1.2.1
  have hl : lv_has ls 3 [(0, .ref (b o))] := hl
  obtain ⟨⟨g0, s0⟩, ⟨g1, s1⟩, ⟨g2, s2⟩, ⟨g3, s3⟩, ⟨g4, s4⟩, kk⟩ := h
  obtain ⟨f0, hf0⟩ : ∃ F, F = hadr ((g0, s0), (g1, s1), (g2, s2), (g3, s3), (g4, s4), kk) := ⟨_, rfl⟩
  have hP : va_P D vwCl [[(b o, .inr (4, [.ref (b (o+1)), .int kk]))], [(b (o+1), .inl (k 2, 5, .inr (.inr (.inr (.inr (hadr ((g0, s0), (g1, s1), (g2, s2), (g3, s3), (g4, s4), kk)))))))], WS k g0 0 s0, WS k g1 0 s1, WS k g2 0 s2, WS k g3 0 s3, WS k g4 0 s4].flatten _ := hP
  have hD : va_D A [[(b o, .inr (4, [.ref (b (o+1)), .int kk]))], [(b (o+1), .inl (k 2, 5, .inr (.inr (.inr (.inr (hadr ((g0, s0), (g1, s1), (g2, s2), (g3, s3), (g4, s4), kk)))))))], WS k g0 0 s0, WS k g1 0 s1, WS k g2 0 s2, WS k g3 0 s3, WS k g4 0 s4].flatten := hD
  rw [← hf0] at hP hD
  refine lv_aload_n hx hb dX4_dropOldest_0 rfl (lv_at hl 0 rfl) ?_
  refine kget (v := .ref (b (o+1))) X hP ff_X4_11 0 rfl rfl dX4_dropOldest_1 ?_
  refine lv_iconst (v := 0) hx hb dX4_dropOldest_4 (by decide) ?_
  refine kaldq (f := f0) (v := g0 0) X hP 1 rfl (by rw [hf0]; rfl) (ck_in rfl) dX4_dropOldest_5 ?_
  refine lv_astore_n (lv' := [(1, .ref (g0 0)), (0, .ref (b o))]) hx hb dX4_dropOldest_6 rfl hl (by decide) rfl (fun ls hl => ?_)
  refine lv_iconst (v := 1) hx hb dX4_dropOldest_7 (by decide) ?_
  refine lv_istore_n (lv' := [(2, .int 1), (1, .ref (g0 0)), (0, .ref (b o))]) hx hb dX4_dropOldest_8 rfl hl (by decide) rfl (fun ls hl => ?_)
  refine lv_iload_n hx hb dX4_dropOldest_9 rfl (lv_at hl 0 rfl) ?_
  refine lv_iconst (v := 5) hx hb dX4_dropOldest_10 (by decide) ?_
  refine lv_icmp_ge (tgt := 34) hx hb dX4_dropOldest_11 (by decide) (fun hc => absurd hc (by decide)) (fun _ => ?_)
  refine lv_aload_n hx hb dX4_dropOldest_14 rfl (lv_at hl 2 rfl) ?_
  refine kget (v := .ref (b (o+1))) X hP ff_X4_11 0 rfl rfl dX4_dropOldest_15 ?_
  refine lv_iload_n hx hb dX4_dropOldest_18 rfl (lv_at hl 0 rfl) ?_
  refine lv_iconst (v := 1) hx hb dX4_dropOldest_19 (by decide) ?_
  refine lv_isub hx hb dX4_dropOldest_20 ?_
  refine lv_aload_n hx hb dX4_dropOldest_21 rfl (lv_at hl 2 rfl) ?_
  refine kget (v := .ref (b (o+1))) X hP ff_X4_11 0 rfl rfl dX4_dropOldest_22 ?_
  refine lv_iload_n hx hb dX4_dropOldest_25 rfl (lv_at hl 0 rfl) ?_
  refine kaldq (f := f0) (v := g1 0) X hP 1 rfl (by rw [hf0]; rfl) (ck_in rfl) dX4_dropOldest_26 ?_
  obtain ⟨f1, hf1⟩ : ∃ F, F = va_up f0 (1 - 1 : Int32).toNatClampNeg (some (g1 0)) := ⟨_, rfl⟩
  refine kastq (f := f0) (g := f1) X hP hD hS 1 15 rfl rfl (ck_in rfl) hf1.symm dX4_dropOldest_27 (fun H locs hP hD hS => ?_)
  have hP : va_P D vwCl [[(b o, .inr (4, [.ref (b (o+1)), .int kk]))], [(b (o+1), .inl (k 2, 5, .inr (.inr (.inr (.inr f1)))))], WS k g0 0 s0, WS k g1 0 s1, WS k g2 0 s2, WS k g3 0 s3, WS k g4 0 s4].flatten _ := hP
  have hD : va_D A [[(b o, .inr (4, [.ref (b (o+1)), .int kk]))], [(b (o+1), .inl (k 2, 5, .inr (.inr (.inr (.inr f1)))))], WS k g0 0 s0, WS k g1 0 s1, WS k g2 0 s2, WS k g3 0 s3, WS k g4 0 s4].flatten := hD
  refine lv_iinc (v := 2) (lv' := [(2, .int 2), (1, .ref (g0 0)), (0, .ref (b o))]) hx hb dX4_dropOldest_28 hl (k := 0) rfl (by decide) (by decide) rfl (fun ls hl => ?_)
  refine lv_goto (tgt := 9) hx hb dX4_dropOldest_31 (by decide) ?_
  refine lv_iload_n hx hb dX4_dropOldest_9 rfl (lv_at hl 0 rfl) ?_
  refine lv_iconst (v := 5) hx hb dX4_dropOldest_10 (by decide) ?_
  refine lv_icmp_ge (tgt := 34) hx hb dX4_dropOldest_11 (by decide) (fun hc => absurd hc (by decide)) (fun _ => ?_)
  refine lv_aload_n hx hb dX4_dropOldest_14 rfl (lv_at hl 2 rfl) ?_
  refine kget (v := .ref (b (o+1))) X hP ff_X4_11 0 rfl rfl dX4_dropOldest_15 ?_
  refine lv_iload_n hx hb dX4_dropOldest_18 rfl (lv_at hl 0 rfl) ?_
  refine lv_iconst (v := 1) hx hb dX4_dropOldest_19 (by decide) ?_
  refine lv_isub hx hb dX4_dropOldest_20 ?_
  refine lv_aload_n hx hb dX4_dropOldest_21 rfl (lv_at hl 2 rfl) ?_
  refine kget (v := .ref (b (o+1))) X hP ff_X4_11 0 rfl rfl dX4_dropOldest_22 ?_
  refine lv_iload_n hx hb dX4_dropOldest_25 rfl (lv_at hl 0 rfl) ?_
  refine kaldq (f := f1) (v := g2 0) X hP 1 rfl (by rw [hf1, hf0]; rfl) (ck_in rfl) dX4_dropOldest_26 ?_
  obtain ⟨f2, hf2⟩ : ∃ F, F = va_up f1 (2 - 1 : Int32).toNatClampNeg (some (g2 0)) := ⟨_, rfl⟩
  refine kastq (f := f1) (g := f2) X hP hD hS 1 28 rfl rfl (ck_in rfl) hf2.symm dX4_dropOldest_27 (fun H locs hP hD hS => ?_)
  have hP : va_P D vwCl [[(b o, .inr (4, [.ref (b (o+1)), .int kk]))], [(b (o+1), .inl (k 2, 5, .inr (.inr (.inr (.inr f2)))))], WS k g0 0 s0, WS k g1 0 s1, WS k g2 0 s2, WS k g3 0 s3, WS k g4 0 s4].flatten _ := hP
  have hD : va_D A [[(b o, .inr (4, [.ref (b (o+1)), .int kk]))], [(b (o+1), .inl (k 2, 5, .inr (.inr (.inr (.inr f2)))))], WS k g0 0 s0, WS k g1 0 s1, WS k g2 0 s2, WS k g3 0 s3, WS k g4 0 s4].flatten := hD
  refine lv_iinc (v := 3) (lv' := [(2, .int 3), (1, .ref (g0 0)), (0, .ref (b o))]) hx hb dX4_dropOldest_28 hl (k := 0) rfl (by decide) (by decide) rfl (fun ls hl => ?_)
  refine lv_goto (tgt := 9) hx hb dX4_dropOldest_31 (by decide) ?_
  refine lv_iload_n hx hb dX4_dropOldest_9 rfl (lv_at hl 0 rfl) ?_
  refine lv_iconst (v := 5) hx hb dX4_dropOldest_10 (by decide) ?_
  refine lv_icmp_ge (tgt := 34) hx hb dX4_dropOldest_11 (by decide) (fun hc => absurd hc (by decide)) (fun _ => ?_)
  refine lv_aload_n hx hb dX4_dropOldest_14 rfl (lv_at hl 2 rfl) ?_
  refine kget (v := .ref (b (o+1))) X hP ff_X4_11 0 rfl rfl dX4_dropOldest_15 ?_
  refine lv_iload_n hx hb dX4_dropOldest_18 rfl (lv_at hl 0 rfl) ?_
  refine lv_iconst (v := 1) hx hb dX4_dropOldest_19 (by decide) ?_
  refine lv_isub hx hb dX4_dropOldest_20 ?_
  refine lv_aload_n hx hb dX4_dropOldest_21 rfl (lv_at hl 2 rfl) ?_
  refine kget (v := .ref (b (o+1))) X hP ff_X4_11 0 rfl rfl dX4_dropOldest_22 ?_
  refine lv_iload_n hx hb dX4_dropOldest_25 rfl (lv_at hl 0 rfl) ?_
  refine kaldq (f := f2) (v := g3 0) X hP 1 rfl (by rw [hf2, hf1, hf0]; rfl) (ck_in rfl) dX4_dropOldest_26 ?_
  obtain ⟨f3, hf3⟩ : ∃ F, F = va_up f2 (3 - 1 : Int32).toNatClampNeg (some (g3 0)) := ⟨_, rfl⟩
  refine kastq (f := f2) (g := f3) X hP hD hS 1 41 rfl rfl (ck_in rfl) hf3.symm dX4_dropOldest_27 (fun H locs hP hD hS => ?_)
  have hP : va_P D vwCl [[(b o, .inr (4, [.ref (b (o+1)), .int kk]))], [(b (o+1), .inl (k 2, 5, .inr (.inr (.inr (.inr f3)))))], WS k g0 0 s0, WS k g1 0 s1, WS k g2 0 s2, WS k g3 0 s3, WS k g4 0 s4].flatten _ := hP
  have hD : va_D A [[(b o, .inr (4, [.ref (b (o+1)), .int kk]))], [(b (o+1), .inl (k 2, 5, .inr (.inr (.inr (.inr f3)))))], WS k g0 0 s0, WS k g1 0 s1, WS k g2 0 s2, WS k g3 0 s3, WS k g4 0 s4].flatten := hD
  refine lv_iinc (v := 4) (lv' := [(2, .int 4), (1, .ref (g0 0)), (0, .ref (b o))]) hx hb dX4_dropOldest_28 hl (k := 0) rfl (by decide) (by decide) rfl (fun ls hl => ?_)
  refine lv_goto (tgt := 9) hx hb dX4_dropOldest_31 (by decide) ?_
  refine lv_iload_n hx hb dX4_dropOldest_9 rfl (lv_at hl 0 rfl) ?_
  refine lv_iconst (v := 5) hx hb dX4_dropOldest_10 (by decide) ?_
  refine lv_icmp_ge (tgt := 34) hx hb dX4_dropOldest_11 (by decide) (fun hc => absurd hc (by decide)) (fun _ => ?_)
  refine lv_aload_n hx hb dX4_dropOldest_14 rfl (lv_at hl 2 rfl) ?_
  refine kget (v := .ref (b (o+1))) X hP ff_X4_11 0 rfl rfl dX4_dropOldest_15 ?_
  refine lv_iload_n hx hb dX4_dropOldest_18 rfl (lv_at hl 0 rfl) ?_
  refine lv_iconst (v := 1) hx hb dX4_dropOldest_19 (by decide) ?_
  refine lv_isub hx hb dX4_dropOldest_20 ?_
  refine lv_aload_n hx hb dX4_dropOldest_21 rfl (lv_at hl 2 rfl) ?_
  refine kget (v := .ref (b (o+1))) X hP ff_X4_11 0 rfl rfl dX4_dropOldest_22 ?_
  refine lv_iload_n hx hb dX4_dropOldest_25 rfl (lv_at hl 0 rfl) ?_
  refine kaldq (f := f3) (v := g4 0) X hP 1 rfl (by rw [hf3, hf2, hf1, hf0]; rfl) (ck_in rfl) dX4_dropOldest_26 ?_
  obtain ⟨f4, hf4⟩ : ∃ F, F = va_up f3 (4 - 1 : Int32).toNatClampNeg (some (g4 0)) := ⟨_, rfl⟩
  refine kastq (f := f3) (g := f4) X hP hD hS 1 54 rfl rfl (ck_in rfl) hf4.symm dX4_dropOldest_27 (fun H locs hP hD hS => ?_)
  have hP : va_P D vwCl [[(b o, .inr (4, [.ref (b (o+1)), .int kk]))], [(b (o+1), .inl (k 2, 5, .inr (.inr (.inr (.inr f4)))))], WS k g0 0 s0, WS k g1 0 s1, WS k g2 0 s2, WS k g3 0 s3, WS k g4 0 s4].flatten _ := hP
  have hD : va_D A [[(b o, .inr (4, [.ref (b (o+1)), .int kk]))], [(b (o+1), .inl (k 2, 5, .inr (.inr (.inr (.inr f4)))))], WS k g0 0 s0, WS k g1 0 s1, WS k g2 0 s2, WS k g3 0 s3, WS k g4 0 s4].flatten := hD
  refine lv_iinc (v := 5) (lv' := [(2, .int 5), (1, .ref (g0 0)), (0, .ref (b o))]) hx hb dX4_dropOldest_28 hl (k := 0) rfl (by decide) (by decide) rfl (fun ls hl => ?_)
  refine lv_goto (tgt := 9) hx hb dX4_dropOldest_31 (by decide) ?_
  refine lv_iload_n hx hb dX4_dropOldest_9 rfl (lv_at hl 0 rfl) ?_
  refine lv_iconst (v := 5) hx hb dX4_dropOldest_10 (by decide) ?_
  refine lv_icmp_ge (tgt := 34) hx hb dX4_dropOldest_11 (by decide) (fun _ => ?_) (fun hc => absurd (by decide) hc)
  refine lv_aload_n hx hb dX4_dropOldest_34 rfl (lv_at hl 2 rfl) ?_
  refine kget (v := .ref (b (o+1))) X hP ff_X4_11 0 rfl rfl dX4_dropOldest_35 ?_
  refine lv_iconst (v := 4) hx hb dX4_dropOldest_38 (by decide) ?_
  refine lv_aload_n hx hb dX4_dropOldest_39 rfl (lv_at hl 1 rfl) ?_
  refine kastq (f := f4) (g := va_up f4 (4 : Int32).toNatClampNeg (some (g0 0))) X hP hD hS 1 2 rfl rfl (ck_in rfl) rfl dX4_dropOldest_40 (fun H locs hP hD hS => ?_)
  have hP : va_P D vwCl ([[(b o, .inr (4, [.ref (b (o+1)), .int kk]))], [(b (o+1), .inl (k 2, 5, .inr (.inr (.inr (.inr f4)))))], WS k g0 0 s0, WS k g1 0 s1, WS k g2 0 s2, WS k g3 0 s3, WS k g4 0 s4].flatten.set 1 (b (o+1), .inl (k 2, 5, .inr (.inr (.inr (.inr (hadr ((g1, s1), (g2, s2), (g3, s3), (g4, s4), (g0, s0), 4))))))) ) H := P_setc hP (fun h => by
      show H[b (o+1)]? = some (vp_cell _ _)
      rw [cell_q (g := va_up f4 (4 : Int32).toNatClampNeg (some (g0 0))) (fun j hj => ?_)]
      · exact h
      · rw [hf4, hf3, hf2, hf1, hf0]
        rcases (show j = 0 ∨ j = 1 ∨ j = 2 ∨ j = 3 ∨ j = 4 by omega) with rfl | rfl | rfl | rfl | rfl <;> rfl)
  have hP : va_P D vwCl [[(b o, .inr (4, [.ref (b (o+1)), .int kk]))], [(b (o+1), .inl (k 2, 5, .inr (.inr (.inr (.inr (hadr ((g1, s1), (g2, s2), (g3, s3), (g4, s4), (g0, s0), 4)))))))], WS k g0 0 s0, WS k g1 0 s1, WS k g2 0 s2, WS k g3 0 s3, WS k g4 0 s4].flatten _ := hP
  have hD : va_D A [[(b o, .inr (4, [.ref (b (o+1)), .int kk]))], [(b (o+1), .inl (k 2, 5, .inr (.inr (.inr (.inr (hadr ((g1, s1), (g2, s2), (g3, s3), (g4, s4), (g0, s0), 4)))))))], WS k g0 0 s0, WS k g1 0 s1, WS k g2 0 s2, WS k g3 0 s3, WS k g4 0 s4].flatten := hD.set (p := 1) rfl
  refine lv_aload_n hx hb dX4_dropOldest_41 rfl (lv_at hl 2 rfl) ?_
  refine lv_iconst (v := 4) hx hb dX4_dropOldest_42 (by decide) ?_
  refine kputi (v := 4) X hP hD hS fp_X4_18 0 rfl (Nat.le_of_ble_eq_true rfl) dX4_dropOldest_43 (fun H locs hP hD hS => ?_)
  have hP : va_P D vwCl [[(b o, .inr (4, [.ref (b (o+1)), .int 4]))], [(b (o+1), .inl (k 2, 5, .inr (.inr (.inr (.inr (hadr ((g1, s1), (g2, s2), (g3, s3), (g4, s4), (g0, s0), 4)))))))], WS k g0 0 s0, WS k g1 0 s1, WS k g2 0 s2, WS k g3 0 s3, WS k g4 0 s4].flatten _ := hP
  have hD : va_D A [[(b o, .inr (4, [.ref (b (o+1)), .int 4]))], [(b (o+1), .inl (k 2, 5, .inr (.inr (.inr (.inr (hadr ((g1, s1), (g2, s2), (g3, s3), (g4, s4), (g0, s0), 4)))))))], WS k g0 0 s0, WS k g1 0 s1, WS k g2 0 s2, WS k g3 0 s3, WS k g4 0 s4].flatten := hD
  obtain ⟨hP, hD⟩ := B_perm (br := [[(b o, .inr (4, [.ref (b (o+1)), .int 4]))], [(b (o+1), .inl (k 2, 5, .inr (.inr (.inr (.inr (hadr ((g1, s1), (g2, s2), (g3, s3), (g4, s4), (g0, s0), 4)))))))], WS k g1 0 s1, WS k g2 0 s2, WS k g3 0 s3, WS k g4 0 s4, WS k g0 0 s0]) hP hD [0, 1, 3, 4, 5, 6, 2] rfl rfl
  exact kvret X hP hD hS dX4_dropOldest_46
abbrev rm_History_push : Room := ({ frames := 3, cells := 0, slots := 0, locals := 102 } : Room)
abbrev rm_History_pop : Room := ({ frames := 3, cells := 0, slots := 0, locals := 102 } : Room)
set_option maxRecDepth 100000 in
set_option maxHeartbeats 1000000 in
theorem w_History_push {p : Program} {l : Launch} {e : Env} {s : State} {m : MethodId} {below : List Frame} {meth : Method} {c : Code} {args : Array Value} {A : Nat → Prop} {D : va_G} {k : Nat → ClassId} {t : Nat → Nat} (X : BX l D k t p s m args meth c cX4_push 2 RX4 none A) (b : Nat → Nat) (o : Nat) (h : HistoryS) (b1 : Nat → Nat) (o1 : Nat) (q : StateS) (out : HistoryS) (H : Heap) (locs : List Loc) (ls : Array Slot) (hP : va_P D vwCl [W_History k b o h, WS k b1 o1 q].flatten H) (hD : va_D A [W_History k b o h, WS k b1 o1 q].flatten) (hS : va_S A s.heap H locs) (hl : lv_has ls 2 [(0, .ref (b o)), (1, .ref (b1 o1))]) (hf : hput h q = some out) : W p l e rm_History_push s m args below meth c H locs 0 0 (MQ below (QW D k A none [W_History k b o out, WS k b1 o1 q].flatten) args s 0 0 A) (F0 m 12 ls []) := by
  have hx := X.1.1
  have hb := X.1.2.1
  obtain ⟨⟨g0, s0⟩, ⟨g1, s1⟩, ⟨g2, s2⟩, ⟨g3, s3⟩, ⟨g4, s4⟩, kk⟩ := h
  unfold hput at hf
  dsimp only at hf
  have hP : va_P D vwCl [[(b o, .inr (4, [.ref (b (o+1)), .int kk]))], [(b (o+1), .inl (k 2, 5, .inr (.inr (.inr (.inr (hadr ((g0, s0), (g1, s1), (g2, s2), (g3, s3), (g4, s4), kk)))))))], WS k g0 0 s0, WS k g1 0 s1, WS k g2 0 s2, WS k g3 0 s3, WS k g4 0 s4, WS k b1 o1 q].flatten _ := hP
  have hD : va_D A [[(b o, .inr (4, [.ref (b (o+1)), .int kk]))], [(b (o+1), .inl (k 2, 5, .inr (.inr (.inr (.inr (hadr ((g0, s0), (g1, s1), (g2, s2), (g3, s3), (g4, s4), kk)))))))], WS k g0 0 s0, WS k g1 0 s1, WS k g2 0 s2, WS k g3 0 s3, WS k g4 0 s4, WS k b1 o1 q].flatten := hD
  by_cases hc : kk = 0
  · have hf := ofpos hf hc
    subst hc
    have hf := Option.some.inj hf
    refine lv_aload_n hx hb dX4_push_12 rfl (lv_at hl 0 rfl) ?_
    refine kget (v := .ref (b (o+1))) X hP ff_X4_11 0 rfl rfl dX4_push_13 ?_
    refine lv_aload_n hx hb dX4_push_16 rfl (lv_at hl 0 rfl) ?_
    refine kget (v := .int 0) X hP ff_X4_18 0 rfl rfl dX4_push_17 ?_
    refine kaldq (f := hadr ((g0, s0), (g1, s1), (g2, s2), (g3, s3), (g4, s4), 0)) (v := g0 0) X hP 1 rfl rfl (ck_in rfl) dX4_push_20 ?_
    refine lv_aload_n hx hb dX4_push_21 rfl (lv_at hl 1 rfl) ?_
    refine kcV (bs := [[(b o, .inr (4, [.ref (b (o+1)), .int 0]))], [(b (o+1), .inl (k 2, 5, .inr (.inr (.inr (.inr (hadr ((g0, s0), (g1, s1), (g2, s2), (g3, s3), (g4, s4), 0)))))))], WS k g0 0 s0, WS k g1 0 s1, WS k g2 0 s2, WS k g3 0 s3, WS k g4 0 s4, WS k b1 o1 q]) (br := [[(b o, .inr (4, [.ref (b (o+1)), .int 0]))], [(b (o+1), .inl (k 2, 5, .inr (.inr (.inr (.inr (hadr ((g0, s0), (g1, s1), (g2, s2), (g3, s3), (g4, s4), 0)))))))], WS k g1 0 s1, WS k g2 0 s2, WS k g3 0 s3, WS k g4 0 s4]) (bc := [WS k g0 0 s0, WS k b1 o1 q]) (bc' := [WS k g0 0 q, WS k b1 o1 q]) X hP hD hS (c_State_copyFrom l D k t g0 0 s0.1.1.1.1.1.1 s0.1.1.1.1.1.2 s0.1.1.1.1.2 s0.1.1.1.2.1.1 s0.1.1.1.2.1.2 s0.1.1.1.2.2 s0.1.1.2 s0.1.2 s0.2.1.1.1 s0.2.1.1.2 s0.2.1.2.1 s0.2.1.2.2 s0.2.2.1.1 s0.2.2.1.2 s0.2.2.2.1 s0.2.2.2.2 b1 o1 q.1.1.1.1.1.1 q.1.1.1.1.1.2 q.1.1.1.1.2 q.1.1.1.2.1.1 q.1.1.1.2.1.2 q.1.1.1.2.2 q.1.1.2 q.1.2 q.2.1.1.1 q.2.1.1.2 q.2.1.2.1 q.2.1.2.2 q.2.2.1.1 q.2.2.1.2 q.2.2.2.1 q.2.2.2.2) mv_X4_25 hl [0, 1, 3, 4, 5, 6] [2, 7] 5 ⟨rfl, rfl⟩ ⟨Nat.le_of_ble_eq_true rfl, Nat.le_of_ble_eq_true rfl⟩ rfl rfl rfl rfl rfl rfl rfl (Nat.le_of_ble_eq_true rfl) dX4_push_22 (fun H locs hP hD hS => ?_)
    have hP : va_P D vwCl [[(b o, .inr (4, [.ref (b (o+1)), .int 0]))], [(b (o+1), .inl (k 2, 5, .inr (.inr (.inr (.inr (hadr ((g0, s0), (g1, s1), (g2, s2), (g3, s3), (g4, s4), 0)))))))], WS k g1 0 s1, WS k g2 0 s2, WS k g3 0 s3, WS k g4 0 s4, WS k g0 0 q, WS k b1 o1 q].flatten _ := hP
    have hD : va_D A [[(b o, .inr (4, [.ref (b (o+1)), .int 0]))], [(b (o+1), .inl (k 2, 5, .inr (.inr (.inr (.inr (hadr ((g0, s0), (g1, s1), (g2, s2), (g3, s3), (g4, s4), 0)))))))], WS k g1 0 s1, WS k g2 0 s2, WS k g3 0 s3, WS k g4 0 s4, WS k g0 0 q, WS k b1 o1 q].flatten := hD
    refine lv_aload_n hx hb dX4_push_25 rfl (lv_at hl 0 rfl) ?_
    refine lv_dup hx hb dX4_push_26 rfl ?_
    refine kget (v := .int 0) X hP ff_X4_18 0 rfl rfl dX4_push_27 ?_
    refine lv_iconst (v := 1) hx hb dX4_push_30 (by decide) ?_
    refine lv_iadd hx hb dX4_push_31 ?_
    refine kputi (v := (0 + 1 : Int32)) X hP hD hS fp_X4_18 0 rfl (Nat.le_of_ble_eq_true rfl) dX4_push_32 (fun H locs hP hD hS => ?_)
    have hP : va_P D vwCl [[(b o, .inr (4, [.ref (b (o+1)), .int (0 + 1)]))], [(b (o+1), .inl (k 2, 5, .inr (.inr (.inr (.inr (hadr ((g0, s0), (g1, s1), (g2, s2), (g3, s3), (g4, s4), 0)))))))], WS k g1 0 s1, WS k g2 0 s2, WS k g3 0 s3, WS k g4 0 s4, WS k g0 0 q, WS k b1 o1 q].flatten _ := hP
    have hD : va_D A [[(b o, .inr (4, [.ref (b (o+1)), .int (0 + 1)]))], [(b (o+1), .inl (k 2, 5, .inr (.inr (.inr (.inr (hadr ((g0, s0), (g1, s1), (g2, s2), (g3, s3), (g4, s4), 0)))))))], WS k g1 0 s1, WS k g2 0 s2, WS k g3 0 s3, WS k g4 0 s4, WS k g0 0 q, WS k b1 o1 q].flatten := hD
    obtain ⟨hP, hD⟩ := B_perm (br := [[(b o, .inr (4, [.ref (b (o+1)), .int (0 + 1)]))], [(b (o+1), .inl (k 2, 5, .inr (.inr (.inr (.inr (hadr ((g0, s0), (g1, s1), (g2, s2), (g3, s3), (g4, s4), 0)))))))], WS k g0 0 q, WS k g1 0 s1, WS k g2 0 s2, WS k g3 0 s3, WS k g4 0 s4, WS k b1 o1 q]) hP hD [0, 1, 6, 2, 3, 4, 5, 7] rfl rfl
    subst hf
    exact kvret X hP hD hS dX4_push_35
  · have hf := ofneg hf hc
    by_cases hc : kk = 1
    · have hf := ofpos hf hc
      subst hc
      have hf := Option.some.inj hf
      refine lv_aload_n hx hb dX4_push_12 rfl (lv_at hl 0 rfl) ?_
      refine kget (v := .ref (b (o+1))) X hP ff_X4_11 0 rfl rfl dX4_push_13 ?_
      refine lv_aload_n hx hb dX4_push_16 rfl (lv_at hl 0 rfl) ?_
      refine kget (v := .int 1) X hP ff_X4_18 0 rfl rfl dX4_push_17 ?_
      refine kaldq (f := hadr ((g0, s0), (g1, s1), (g2, s2), (g3, s3), (g4, s4), 1)) (v := g1 0) X hP 1 rfl rfl (ck_in rfl) dX4_push_20 ?_
      refine lv_aload_n hx hb dX4_push_21 rfl (lv_at hl 1 rfl) ?_
      refine kcV (bs := [[(b o, .inr (4, [.ref (b (o+1)), .int 1]))], [(b (o+1), .inl (k 2, 5, .inr (.inr (.inr (.inr (hadr ((g0, s0), (g1, s1), (g2, s2), (g3, s3), (g4, s4), 1)))))))], WS k g0 0 s0, WS k g1 0 s1, WS k g2 0 s2, WS k g3 0 s3, WS k g4 0 s4, WS k b1 o1 q]) (br := [[(b o, .inr (4, [.ref (b (o+1)), .int 1]))], [(b (o+1), .inl (k 2, 5, .inr (.inr (.inr (.inr (hadr ((g0, s0), (g1, s1), (g2, s2), (g3, s3), (g4, s4), 1)))))))], WS k g0 0 s0, WS k g2 0 s2, WS k g3 0 s3, WS k g4 0 s4]) (bc := [WS k g1 0 s1, WS k b1 o1 q]) (bc' := [WS k g1 0 q, WS k b1 o1 q]) X hP hD hS (c_State_copyFrom l D k t g1 0 s1.1.1.1.1.1.1 s1.1.1.1.1.1.2 s1.1.1.1.1.2 s1.1.1.1.2.1.1 s1.1.1.1.2.1.2 s1.1.1.1.2.2 s1.1.1.2 s1.1.2 s1.2.1.1.1 s1.2.1.1.2 s1.2.1.2.1 s1.2.1.2.2 s1.2.2.1.1 s1.2.2.1.2 s1.2.2.2.1 s1.2.2.2.2 b1 o1 q.1.1.1.1.1.1 q.1.1.1.1.1.2 q.1.1.1.1.2 q.1.1.1.2.1.1 q.1.1.1.2.1.2 q.1.1.1.2.2 q.1.1.2 q.1.2 q.2.1.1.1 q.2.1.1.2 q.2.1.2.1 q.2.1.2.2 q.2.2.1.1 q.2.2.1.2 q.2.2.2.1 q.2.2.2.2) mv_X4_25 hl [0, 1, 2, 4, 5, 6] [3, 7] 5 ⟨rfl, rfl⟩ ⟨Nat.le_of_ble_eq_true rfl, Nat.le_of_ble_eq_true rfl⟩ rfl rfl rfl rfl rfl rfl rfl (Nat.le_of_ble_eq_true rfl) dX4_push_22 (fun H locs hP hD hS => ?_)
      have hP : va_P D vwCl [[(b o, .inr (4, [.ref (b (o+1)), .int 1]))], [(b (o+1), .inl (k 2, 5, .inr (.inr (.inr (.inr (hadr ((g0, s0), (g1, s1), (g2, s2), (g3, s3), (g4, s4), 1)))))))], WS k g0 0 s0, WS k g2 0 s2, WS k g3 0 s3, WS k g4 0 s4, WS k g1 0 q, WS k b1 o1 q].flatten _ := hP
      have hD : va_D A [[(b o, .inr (4, [.ref (b (o+1)), .int 1]))], [(b (o+1), .inl (k 2, 5, .inr (.inr (.inr (.inr (hadr ((g0, s0), (g1, s1), (g2, s2), (g3, s3), (g4, s4), 1)))))))], WS k g0 0 s0, WS k g2 0 s2, WS k g3 0 s3, WS k g4 0 s4, WS k g1 0 q, WS k b1 o1 q].flatten := hD
      refine lv_aload_n hx hb dX4_push_25 rfl (lv_at hl 0 rfl) ?_
      refine lv_dup hx hb dX4_push_26 rfl ?_
      refine kget (v := .int 1) X hP ff_X4_18 0 rfl rfl dX4_push_27 ?_
      refine lv_iconst (v := 1) hx hb dX4_push_30 (by decide) ?_
      refine lv_iadd hx hb dX4_push_31 ?_
      refine kputi (v := (1 + 1 : Int32)) X hP hD hS fp_X4_18 0 rfl (Nat.le_of_ble_eq_true rfl) dX4_push_32 (fun H locs hP hD hS => ?_)
      have hP : va_P D vwCl [[(b o, .inr (4, [.ref (b (o+1)), .int (1 + 1)]))], [(b (o+1), .inl (k 2, 5, .inr (.inr (.inr (.inr (hadr ((g0, s0), (g1, s1), (g2, s2), (g3, s3), (g4, s4), 1)))))))], WS k g0 0 s0, WS k g2 0 s2, WS k g3 0 s3, WS k g4 0 s4, WS k g1 0 q, WS k b1 o1 q].flatten _ := hP
      have hD : va_D A [[(b o, .inr (4, [.ref (b (o+1)), .int (1 + 1)]))], [(b (o+1), .inl (k 2, 5, .inr (.inr (.inr (.inr (hadr ((g0, s0), (g1, s1), (g2, s2), (g3, s3), (g4, s4), 1)))))))], WS k g0 0 s0, WS k g2 0 s2, WS k g3 0 s3, WS k g4 0 s4, WS k g1 0 q, WS k b1 o1 q].flatten := hD
      obtain ⟨hP, hD⟩ := B_perm (br := [[(b o, .inr (4, [.ref (b (o+1)), .int (1 + 1)]))], [(b (o+1), .inl (k 2, 5, .inr (.inr (.inr (.inr (hadr ((g0, s0), (g1, s1), (g2, s2), (g3, s3), (g4, s4), 1)))))))], WS k g0 0 s0, WS k g1 0 q, WS k g2 0 s2, WS k g3 0 s3, WS k g4 0 s4, WS k b1 o1 q]) hP hD [0, 1, 2, 6, 3, 4, 5, 7] rfl rfl
      subst hf
      exact kvret X hP hD hS dX4_push_35
    · have hf := ofneg hf hc
      by_cases hc : kk = 2
      · have hf := ofpos hf hc
        subst hc
        have hf := Option.some.inj hf
        refine lv_aload_n hx hb dX4_push_12 rfl (lv_at hl 0 rfl) ?_
        refine kget (v := .ref (b (o+1))) X hP ff_X4_11 0 rfl rfl dX4_push_13 ?_
        refine lv_aload_n hx hb dX4_push_16 rfl (lv_at hl 0 rfl) ?_
        refine kget (v := .int 2) X hP ff_X4_18 0 rfl rfl dX4_push_17 ?_
        refine kaldq (f := hadr ((g0, s0), (g1, s1), (g2, s2), (g3, s3), (g4, s4), 2)) (v := g2 0) X hP 1 rfl rfl (ck_in rfl) dX4_push_20 ?_
        refine lv_aload_n hx hb dX4_push_21 rfl (lv_at hl 1 rfl) ?_
        refine kcV (bs := [[(b o, .inr (4, [.ref (b (o+1)), .int 2]))], [(b (o+1), .inl (k 2, 5, .inr (.inr (.inr (.inr (hadr ((g0, s0), (g1, s1), (g2, s2), (g3, s3), (g4, s4), 2)))))))], WS k g0 0 s0, WS k g1 0 s1, WS k g2 0 s2, WS k g3 0 s3, WS k g4 0 s4, WS k b1 o1 q]) (br := [[(b o, .inr (4, [.ref (b (o+1)), .int 2]))], [(b (o+1), .inl (k 2, 5, .inr (.inr (.inr (.inr (hadr ((g0, s0), (g1, s1), (g2, s2), (g3, s3), (g4, s4), 2)))))))], WS k g0 0 s0, WS k g1 0 s1, WS k g3 0 s3, WS k g4 0 s4]) (bc := [WS k g2 0 s2, WS k b1 o1 q]) (bc' := [WS k g2 0 q, WS k b1 o1 q]) X hP hD hS (c_State_copyFrom l D k t g2 0 s2.1.1.1.1.1.1 s2.1.1.1.1.1.2 s2.1.1.1.1.2 s2.1.1.1.2.1.1 s2.1.1.1.2.1.2 s2.1.1.1.2.2 s2.1.1.2 s2.1.2 s2.2.1.1.1 s2.2.1.1.2 s2.2.1.2.1 s2.2.1.2.2 s2.2.2.1.1 s2.2.2.1.2 s2.2.2.2.1 s2.2.2.2.2 b1 o1 q.1.1.1.1.1.1 q.1.1.1.1.1.2 q.1.1.1.1.2 q.1.1.1.2.1.1 q.1.1.1.2.1.2 q.1.1.1.2.2 q.1.1.2 q.1.2 q.2.1.1.1 q.2.1.1.2 q.2.1.2.1 q.2.1.2.2 q.2.2.1.1 q.2.2.1.2 q.2.2.2.1 q.2.2.2.2) mv_X4_25 hl [0, 1, 2, 3, 5, 6] [4, 7] 5 ⟨rfl, rfl⟩ ⟨Nat.le_of_ble_eq_true rfl, Nat.le_of_ble_eq_true rfl⟩ rfl rfl rfl rfl rfl rfl rfl (Nat.le_of_ble_eq_true rfl) dX4_push_22 (fun H locs hP hD hS => ?_)
        have hP : va_P D vwCl [[(b o, .inr (4, [.ref (b (o+1)), .int 2]))], [(b (o+1), .inl (k 2, 5, .inr (.inr (.inr (.inr (hadr ((g0, s0), (g1, s1), (g2, s2), (g3, s3), (g4, s4), 2)))))))], WS k g0 0 s0, WS k g1 0 s1, WS k g3 0 s3, WS k g4 0 s4, WS k g2 0 q, WS k b1 o1 q].flatten _ := hP
        have hD : va_D A [[(b o, .inr (4, [.ref (b (o+1)), .int 2]))], [(b (o+1), .inl (k 2, 5, .inr (.inr (.inr (.inr (hadr ((g0, s0), (g1, s1), (g2, s2), (g3, s3), (g4, s4), 2)))))))], WS k g0 0 s0, WS k g1 0 s1, WS k g3 0 s3, WS k g4 0 s4, WS k g2 0 q, WS k b1 o1 q].flatten := hD
        refine lv_aload_n hx hb dX4_push_25 rfl (lv_at hl 0 rfl) ?_
        refine lv_dup hx hb dX4_push_26 rfl ?_
        refine kget (v := .int 2) X hP ff_X4_18 0 rfl rfl dX4_push_27 ?_
        refine lv_iconst (v := 1) hx hb dX4_push_30 (by decide) ?_
        refine lv_iadd hx hb dX4_push_31 ?_
        refine kputi (v := (2 + 1 : Int32)) X hP hD hS fp_X4_18 0 rfl (Nat.le_of_ble_eq_true rfl) dX4_push_32 (fun H locs hP hD hS => ?_)
        have hP : va_P D vwCl [[(b o, .inr (4, [.ref (b (o+1)), .int (2 + 1)]))], [(b (o+1), .inl (k 2, 5, .inr (.inr (.inr (.inr (hadr ((g0, s0), (g1, s1), (g2, s2), (g3, s3), (g4, s4), 2)))))))], WS k g0 0 s0, WS k g1 0 s1, WS k g3 0 s3, WS k g4 0 s4, WS k g2 0 q, WS k b1 o1 q].flatten _ := hP
        have hD : va_D A [[(b o, .inr (4, [.ref (b (o+1)), .int (2 + 1)]))], [(b (o+1), .inl (k 2, 5, .inr (.inr (.inr (.inr (hadr ((g0, s0), (g1, s1), (g2, s2), (g3, s3), (g4, s4), 2)))))))], WS k g0 0 s0, WS k g1 0 s1, WS k g3 0 s3, WS k g4 0 s4, WS k g2 0 q, WS k b1 o1 q].flatten := hD
        obtain ⟨hP, hD⟩ := B_perm (br := [[(b o, .inr (4, [.ref (b (o+1)), .int (2 + 1)]))], [(b (o+1), .inl (k 2, 5, .inr (.inr (.inr (.inr (hadr ((g0, s0), (g1, s1), (g2, s2), (g3, s3), (g4, s4), 2)))))))], WS k g0 0 s0, WS k g1 0 s1, WS k g2 0 q, WS k g3 0 s3, WS k g4 0 s4, WS k b1 o1 q]) hP hD [0, 1, 2, 3, 6, 4, 5, 7] rfl rfl
        subst hf
        exact kvret X hP hD hS dX4_push_35
      · have hf := ofneg hf hc
        by_cases hc : kk = 3
        · have hf := ofpos hf hc
          subst hc
          have hf := Option.some.inj hf
          refine lv_aload_n hx hb dX4_push_12 rfl (lv_at hl 0 rfl) ?_
          refine kget (v := .ref (b (o+1))) X hP ff_X4_11 0 rfl rfl dX4_push_13 ?_
          refine lv_aload_n hx hb dX4_push_16 rfl (lv_at hl 0 rfl) ?_
          refine kget (v := .int 3) X hP ff_X4_18 0 rfl rfl dX4_push_17 ?_
          refine kaldq (f := hadr ((g0, s0), (g1, s1), (g2, s2), (g3, s3), (g4, s4), 3)) (v := g3 0) X hP 1 rfl rfl (ck_in rfl) dX4_push_20 ?_
          refine lv_aload_n hx hb dX4_push_21 rfl (lv_at hl 1 rfl) ?_
          refine kcV (bs := [[(b o, .inr (4, [.ref (b (o+1)), .int 3]))], [(b (o+1), .inl (k 2, 5, .inr (.inr (.inr (.inr (hadr ((g0, s0), (g1, s1), (g2, s2), (g3, s3), (g4, s4), 3)))))))], WS k g0 0 s0, WS k g1 0 s1, WS k g2 0 s2, WS k g3 0 s3, WS k g4 0 s4, WS k b1 o1 q]) (br := [[(b o, .inr (4, [.ref (b (o+1)), .int 3]))], [(b (o+1), .inl (k 2, 5, .inr (.inr (.inr (.inr (hadr ((g0, s0), (g1, s1), (g2, s2), (g3, s3), (g4, s4), 3)))))))], WS k g0 0 s0, WS k g1 0 s1, WS k g2 0 s2, WS k g4 0 s4]) (bc := [WS k g3 0 s3, WS k b1 o1 q]) (bc' := [WS k g3 0 q, WS k b1 o1 q]) X hP hD hS (c_State_copyFrom l D k t g3 0 s3.1.1.1.1.1.1 s3.1.1.1.1.1.2 s3.1.1.1.1.2 s3.1.1.1.2.1.1 s3.1.1.1.2.1.2 s3.1.1.1.2.2 s3.1.1.2 s3.1.2 s3.2.1.1.1 s3.2.1.1.2 s3.2.1.2.1 s3.2.1.2.2 s3.2.2.1.1 s3.2.2.1.2 s3.2.2.2.1 s3.2.2.2.2 b1 o1 q.1.1.1.1.1.1 q.1.1.1.1.1.2 q.1.1.1.1.2 q.1.1.1.2.1.1 q.1.1.1.2.1.2 q.1.1.1.2.2 q.1.1.2 q.1.2 q.2.1.1.1 q.2.1.1.2 q.2.1.2.1 q.2.1.2.2 q.2.2.1.1 q.2.2.1.2 q.2.2.2.1 q.2.2.2.2) mv_X4_25 hl [0, 1, 2, 3, 4, 6] [5, 7] 5 ⟨rfl, rfl⟩ ⟨Nat.le_of_ble_eq_true rfl, Nat.le_of_ble_eq_true rfl⟩ rfl rfl rfl rfl rfl rfl rfl (Nat.le_of_ble_eq_true rfl) dX4_push_22 (fun H locs hP hD hS => ?_)
          have hP : va_P D vwCl [[(b o, .inr (4, [.ref (b (o+1)), .int 3]))], [(b (o+1), .inl (k 2, 5, .inr (.inr (.inr (.inr (hadr ((g0, s0), (g1, s1), (g2, s2), (g3, s3), (g4, s4), 3)))))))], WS k g0 0 s0, WS k g1 0 s1, WS k g2 0 s2, WS k g4 0 s4, WS k g3 0 q, WS k b1 o1 q].flatten _ := hP
          have hD : va_D A [[(b o, .inr (4, [.ref (b (o+1)), .int 3]))], [(b (o+1), .inl (k 2, 5, .inr (.inr (.inr (.inr (hadr ((g0, s0), (g1, s1), (g2, s2), (g3, s3), (g4, s4), 3)))))))], WS k g0 0 s0, WS k g1 0 s1, WS k g2 0 s2, WS k g4 0 s4, WS k g3 0 q, WS k b1 o1 q].flatten := hD
          refine lv_aload_n hx hb dX4_push_25 rfl (lv_at hl 0 rfl) ?_
          refine lv_dup hx hb dX4_push_26 rfl ?_
          refine kget (v := .int 3) X hP ff_X4_18 0 rfl rfl dX4_push_27 ?_
          refine lv_iconst (v := 1) hx hb dX4_push_30 (by decide) ?_
          refine lv_iadd hx hb dX4_push_31 ?_
          refine kputi (v := (3 + 1 : Int32)) X hP hD hS fp_X4_18 0 rfl (Nat.le_of_ble_eq_true rfl) dX4_push_32 (fun H locs hP hD hS => ?_)
          have hP : va_P D vwCl [[(b o, .inr (4, [.ref (b (o+1)), .int (3 + 1)]))], [(b (o+1), .inl (k 2, 5, .inr (.inr (.inr (.inr (hadr ((g0, s0), (g1, s1), (g2, s2), (g3, s3), (g4, s4), 3)))))))], WS k g0 0 s0, WS k g1 0 s1, WS k g2 0 s2, WS k g4 0 s4, WS k g3 0 q, WS k b1 o1 q].flatten _ := hP
          have hD : va_D A [[(b o, .inr (4, [.ref (b (o+1)), .int (3 + 1)]))], [(b (o+1), .inl (k 2, 5, .inr (.inr (.inr (.inr (hadr ((g0, s0), (g1, s1), (g2, s2), (g3, s3), (g4, s4), 3)))))))], WS k g0 0 s0, WS k g1 0 s1, WS k g2 0 s2, WS k g4 0 s4, WS k g3 0 q, WS k b1 o1 q].flatten := hD
          obtain ⟨hP, hD⟩ := B_perm (br := [[(b o, .inr (4, [.ref (b (o+1)), .int (3 + 1)]))], [(b (o+1), .inl (k 2, 5, .inr (.inr (.inr (.inr (hadr ((g0, s0), (g1, s1), (g2, s2), (g3, s3), (g4, s4), 3)))))))], WS k g0 0 s0, WS k g1 0 s1, WS k g2 0 s2, WS k g3 0 q, WS k g4 0 s4, WS k b1 o1 q]) hP hD [0, 1, 2, 3, 4, 6, 5, 7] rfl rfl
          subst hf
          exact kvret X hP hD hS dX4_push_35
        · have hf := ofneg hf hc
          by_cases hc : kk = 4
          · have hf := ofpos hf hc
            subst hc
            have hf := Option.some.inj hf
            refine lv_aload_n hx hb dX4_push_12 rfl (lv_at hl 0 rfl) ?_
            refine kget (v := .ref (b (o+1))) X hP ff_X4_11 0 rfl rfl dX4_push_13 ?_
            refine lv_aload_n hx hb dX4_push_16 rfl (lv_at hl 0 rfl) ?_
            refine kget (v := .int 4) X hP ff_X4_18 0 rfl rfl dX4_push_17 ?_
            refine kaldq (f := hadr ((g0, s0), (g1, s1), (g2, s2), (g3, s3), (g4, s4), 4)) (v := g4 0) X hP 1 rfl rfl (ck_in rfl) dX4_push_20 ?_
            refine lv_aload_n hx hb dX4_push_21 rfl (lv_at hl 1 rfl) ?_
            refine kcV (bs := [[(b o, .inr (4, [.ref (b (o+1)), .int 4]))], [(b (o+1), .inl (k 2, 5, .inr (.inr (.inr (.inr (hadr ((g0, s0), (g1, s1), (g2, s2), (g3, s3), (g4, s4), 4)))))))], WS k g0 0 s0, WS k g1 0 s1, WS k g2 0 s2, WS k g3 0 s3, WS k g4 0 s4, WS k b1 o1 q]) (br := [[(b o, .inr (4, [.ref (b (o+1)), .int 4]))], [(b (o+1), .inl (k 2, 5, .inr (.inr (.inr (.inr (hadr ((g0, s0), (g1, s1), (g2, s2), (g3, s3), (g4, s4), 4)))))))], WS k g0 0 s0, WS k g1 0 s1, WS k g2 0 s2, WS k g3 0 s3]) (bc := [WS k g4 0 s4, WS k b1 o1 q]) (bc' := [WS k g4 0 q, WS k b1 o1 q]) X hP hD hS (c_State_copyFrom l D k t g4 0 s4.1.1.1.1.1.1 s4.1.1.1.1.1.2 s4.1.1.1.1.2 s4.1.1.1.2.1.1 s4.1.1.1.2.1.2 s4.1.1.1.2.2 s4.1.1.2 s4.1.2 s4.2.1.1.1 s4.2.1.1.2 s4.2.1.2.1 s4.2.1.2.2 s4.2.2.1.1 s4.2.2.1.2 s4.2.2.2.1 s4.2.2.2.2 b1 o1 q.1.1.1.1.1.1 q.1.1.1.1.1.2 q.1.1.1.1.2 q.1.1.1.2.1.1 q.1.1.1.2.1.2 q.1.1.1.2.2 q.1.1.2 q.1.2 q.2.1.1.1 q.2.1.1.2 q.2.1.2.1 q.2.1.2.2 q.2.2.1.1 q.2.2.1.2 q.2.2.2.1 q.2.2.2.2) mv_X4_25 hl [0, 1, 2, 3, 4, 5] [6, 7] 5 ⟨rfl, rfl⟩ ⟨Nat.le_of_ble_eq_true rfl, Nat.le_of_ble_eq_true rfl⟩ rfl rfl rfl rfl rfl rfl rfl (Nat.le_of_ble_eq_true rfl) dX4_push_22 (fun H locs hP hD hS => ?_)
            have hP : va_P D vwCl [[(b o, .inr (4, [.ref (b (o+1)), .int 4]))], [(b (o+1), .inl (k 2, 5, .inr (.inr (.inr (.inr (hadr ((g0, s0), (g1, s1), (g2, s2), (g3, s3), (g4, s4), 4)))))))], WS k g0 0 s0, WS k g1 0 s1, WS k g2 0 s2, WS k g3 0 s3, WS k g4 0 q, WS k b1 o1 q].flatten _ := hP
            have hD : va_D A [[(b o, .inr (4, [.ref (b (o+1)), .int 4]))], [(b (o+1), .inl (k 2, 5, .inr (.inr (.inr (.inr (hadr ((g0, s0), (g1, s1), (g2, s2), (g3, s3), (g4, s4), 4)))))))], WS k g0 0 s0, WS k g1 0 s1, WS k g2 0 s2, WS k g3 0 s3, WS k g4 0 q, WS k b1 o1 q].flatten := hD
            refine lv_aload_n hx hb dX4_push_25 rfl (lv_at hl 0 rfl) ?_
            refine lv_dup hx hb dX4_push_26 rfl ?_
            refine kget (v := .int 4) X hP ff_X4_18 0 rfl rfl dX4_push_27 ?_
            refine lv_iconst (v := 1) hx hb dX4_push_30 (by decide) ?_
            refine lv_iadd hx hb dX4_push_31 ?_
            refine kputi (v := (4 + 1 : Int32)) X hP hD hS fp_X4_18 0 rfl (Nat.le_of_ble_eq_true rfl) dX4_push_32 (fun H locs hP hD hS => ?_)
            have hP : va_P D vwCl [[(b o, .inr (4, [.ref (b (o+1)), .int (4 + 1)]))], [(b (o+1), .inl (k 2, 5, .inr (.inr (.inr (.inr (hadr ((g0, s0), (g1, s1), (g2, s2), (g3, s3), (g4, s4), 4)))))))], WS k g0 0 s0, WS k g1 0 s1, WS k g2 0 s2, WS k g3 0 s3, WS k g4 0 q, WS k b1 o1 q].flatten _ := hP
            have hD : va_D A [[(b o, .inr (4, [.ref (b (o+1)), .int (4 + 1)]))], [(b (o+1), .inl (k 2, 5, .inr (.inr (.inr (.inr (hadr ((g0, s0), (g1, s1), (g2, s2), (g3, s3), (g4, s4), 4)))))))], WS k g0 0 s0, WS k g1 0 s1, WS k g2 0 s2, WS k g3 0 s3, WS k g4 0 q, WS k b1 o1 q].flatten := hD
            obtain ⟨hP, hD⟩ := B_perm (br := [[(b o, .inr (4, [.ref (b (o+1)), .int (4 + 1)]))], [(b (o+1), .inl (k 2, 5, .inr (.inr (.inr (.inr (hadr ((g0, s0), (g1, s1), (g2, s2), (g3, s3), (g4, s4), 4)))))))], WS k g0 0 s0, WS k g1 0 s1, WS k g2 0 s2, WS k g3 0 s3, WS k g4 0 q, WS k b1 o1 q]) hP hD [0, 1, 2, 3, 4, 5, 6, 7] rfl rfl
            subst hf
            exact kvret X hP hD hS dX4_push_35
          · have hf := ofneg hf hc
            exact absurd hf (by simp)
set_option maxRecDepth 100000 in
set_option maxHeartbeats 1000000 in
theorem ct_History_push (l : Launch) (D : va_G) (k : Nat → ClassId) (t : Nat → Nat) (b0 : Nat → Nat) (o0 : Nat) (s0 : HistoryS) (b1 : Nat → Nat) (o1 : Nat) (s1 : StateS) (out : HistoryS) (hf : f_History_push s0 s1 = some out) : CT l D k t yX4_push cX4_push 2 none rm_History_push [.ref (b0 o0), .ref (b1 o1)] [W_History k b0 o0 s0, WS k b1 o1 s1].flatten none [W_History k b0 o0 out, WS k b1 o1 s1].flatten := by
  refine kofW (by decide) (Nat.le_of_ble_eq_true rfl) ?_
  intro p e s m below meth c A ls X hP hD hS hl
  have hx := X.1.1
  have hb := X.1.2.1
  have hl : lv_has ls 2 [(0, .ref (b0 o0)), (1, .ref (b1 o1))] := hl
  unfold f_History_push at hf
  refine lv_aload_n hx hb dX4_push_0 rfl (lv_at hl 0 rfl) ?_
  refine kget (v := .int s0.2.2.2.2.2) X hP ff_X4_18 0 rfl rfl dX4_push_1 ?_
  refine lv_iconst (v := 5) hx hb dX4_push_4 (by decide) ?_
  refine lv_icmp_lt (tgt := 12) hx hb dX4_push_5 (by decide) (fun hc => ?_) (fun hc => ?_)
  · have hf := ofpos hf hc
    exact w_History_push X b0 o0 s0 b1 o1 s1 out _ _ _ hP hD hS hl hf
  · have hf := ofneg hf hc
    refine lv_aload_n hx hb dX4_push_8 rfl (lv_at hl 0 rfl) ?_
    refine kcV (bs := [W_History k b0 o0 s0, WS k b1 o1 s1]) (br := [WS k b1 o1 s1]) (bc := [W_History k b0 o0 s0]) (bc' := [W_History k b0 o0 (f_History_dropOldest s0)]) X hP hD hS (c_History_dropOldest l D k t b0 o0 s0) mv_X4_22 hl [1] [0] 4 ⟨rfl, rfl⟩ ⟨Nat.le_of_ble_eq_true rfl, Nat.le_of_ble_eq_true rfl⟩ rfl rfl rfl rfl rfl rfl rfl (Nat.le_of_ble_eq_true rfl) dX4_push_9 (fun H locs hP hD hS => ?_)
    obtain ⟨hP, hD⟩ := B_perm (bs := [WS k b1 o1 s1, W_History k b0 o0 (f_History_dropOldest s0)]) (br := [W_History k b0 o0 (f_History_dropOldest s0), WS k b1 o1 s1]) hP hD [1, 0] rfl rfl
    exact w_History_push X b0 o0 _ b1 o1 s1 out _ _ _ hP hD hS hl hf
set_option maxRecDepth 100000 in
set_option maxHeartbeats 1000000 in
theorem ct_History_pop (l : Launch) (D : va_G) (k : Nat → ClassId) (t : Nat → Nat) (b0 : Nat → Nat) (o0 : Nat) (s0 : HistoryS) (b1 : Nat → Nat) (o1 : Nat) (s1 : StateS) (out : Int32 × HistoryS × StateS) (hf : f_History_pop s0 s1 = some out) : CT l D k t yX4_pop cX4_pop 2 (some .int) rm_History_pop [.ref (b0 o0), .ref (b1 o1)] [W_History k b0 o0 s0, WS k b1 o1 s1].flatten (some (.int out.1)) [W_History k b0 o0 out.2.1, WS k b1 o1 out.2.2].flatten := by
  refine kofW (by decide) (Nat.le_of_ble_eq_true rfl) ?_
  intro p e s m below meth c A ls X hP hD hS hl
  have hx := X.1.1
  have hb := X.1.2.1
  have hl : lv_has ls 2 [(0, .ref (b0 o0)), (1, .ref (b1 o1))] := hl
  unfold f_History_pop at hf
  refine lv_aload_n hx hb dX4_pop_0 rfl (lv_at hl 0 rfl) ?_
  refine kget (v := .int s0.2.2.2.2.2) X hP ff_X4_18 0 rfl rfl dX4_pop_1 ?_
  refine lv_iconst (v := 1) hx hb dX4_pop_4 (by decide) ?_
  refine lv_icmp_ge (tgt := 11) hx hb dX4_pop_5 (by decide) (fun hc => ?_) (fun hc => ?_)
  · have hf := ofpos hf hc
    obtain ⟨⟨g0, h0⟩, ⟨g1, h1⟩, ⟨g2, h2⟩, ⟨g3, h3⟩, ⟨g4, h4⟩, kk⟩ := s0
    unfold hget at hf
    dsimp only at hf
    have hP : va_P D vwCl [[(b0 o0, .inr (4, [.ref (b0 (o0+1)), .int kk]))], [(b0 (o0+1), .inl (k 2, 5, .inr (.inr (.inr (.inr (hadr ((g0, h0), (g1, h1), (g2, h2), (g3, h3), (g4, h4), kk)))))))], WS k g0 0 h0, WS k g1 0 h1, WS k g2 0 h2, WS k g3 0 h3, WS k g4 0 h4, WS k b1 o1 s1].flatten _ := hP
    have hD : va_D A [[(b0 o0, .inr (4, [.ref (b0 (o0+1)), .int kk]))], [(b0 (o0+1), .inl (k 2, 5, .inr (.inr (.inr (.inr (hadr ((g0, h0), (g1, h1), (g2, h2), (g3, h3), (g4, h4), kk)))))))], WS k g0 0 h0, WS k g1 0 h1, WS k g2 0 h2, WS k g3 0 h3, WS k g4 0 h4, WS k b1 o1 s1].flatten := hD
    refine lv_aload_n hx hb dX4_pop_11 rfl (lv_at hl 0 rfl) ?_
    refine lv_dup hx hb dX4_pop_12 rfl ?_
    refine kget (v := .int kk) X hP ff_X4_18 0 rfl rfl dX4_pop_13 ?_
    refine lv_iconst (v := 1) hx hb dX4_pop_16 (by decide) ?_
    refine lv_isub hx hb dX4_pop_17 ?_
    generalize hy : kk - 1 = y at hf ⊢
    refine kputi (v := y) X hP hD hS fp_X4_18 0 rfl (Nat.le_of_ble_eq_true rfl) dX4_pop_18 (fun H locs hP hD hS => ?_)
    have hP : va_P D vwCl [[(b0 o0, .inr (4, [.ref (b0 (o0+1)), .int y]))], [(b0 (o0+1), .inl (k 2, 5, .inr (.inr (.inr (.inr (hadr ((g0, h0), (g1, h1), (g2, h2), (g3, h3), (g4, h4), kk)))))))], WS k g0 0 h0, WS k g1 0 h1, WS k g2 0 h2, WS k g3 0 h3, WS k g4 0 h4, WS k b1 o1 s1].flatten _ := hP
    have hD : va_D A [[(b0 o0, .inr (4, [.ref (b0 (o0+1)), .int y]))], [(b0 (o0+1), .inl (k 2, 5, .inr (.inr (.inr (.inr (hadr ((g0, h0), (g1, h1), (g2, h2), (g3, h3), (g4, h4), kk)))))))], WS k g0 0 h0, WS k g1 0 h1, WS k g2 0 h2, WS k g3 0 h3, WS k g4 0 h4, WS k b1 o1 s1].flatten := hD
    refine lv_aload_n hx hb dX4_pop_21 rfl (lv_at hl 1 rfl) ?_
    refine lv_aload_n hx hb dX4_pop_22 rfl (lv_at hl 0 rfl) ?_
    refine kget (v := .ref (b0 (o0+1))) X hP ff_X4_11 0 rfl rfl dX4_pop_23 ?_
    refine lv_aload_n hx hb dX4_pop_26 rfl (lv_at hl 0 rfl) ?_
    refine kget (v := .int y) X hP ff_X4_18 0 rfl rfl dX4_pop_27 ?_
    by_cases hc : y = 0
    · have hf := ofpos hf hc
      have hf := Option.some.inj hf
      have hv : hadr ((g0, h0), (g1, h1), (g2, h2), (g3, h3), (g4, h4), kk) y.toNatClampNeg = some (g0 0) := by rw [hc]; rfl
      refine kaldq (f := hadr ((g0, h0), (g1, h1), (g2, h2), (g3, h3), (g4, h4), kk)) (v := g0 0) X hP 1 rfl hv (by rw [hc]; exact ck_in rfl) dX4_pop_30 ?_
      refine kcV (bs := [[(b0 o0, .inr (4, [.ref (b0 (o0+1)), .int y]))], [(b0 (o0+1), .inl (k 2, 5, .inr (.inr (.inr (.inr (hadr ((g0, h0), (g1, h1), (g2, h2), (g3, h3), (g4, h4), kk)))))))], WS k g0 0 h0, WS k g1 0 h1, WS k g2 0 h2, WS k g3 0 h3, WS k g4 0 h4, WS k b1 o1 s1]) (br := [[(b0 o0, .inr (4, [.ref (b0 (o0+1)), .int y]))], [(b0 (o0+1), .inl (k 2, 5, .inr (.inr (.inr (.inr (hadr ((g0, h0), (g1, h1), (g2, h2), (g3, h3), (g4, h4), kk)))))))], WS k g1 0 h1, WS k g2 0 h2, WS k g3 0 h3, WS k g4 0 h4]) (bc := [WS k b1 o1 s1, WS k g0 0 h0]) (bc' := [WS k b1 o1 h0, WS k g0 0 h0]) X hP hD hS (c_State_copyFrom l D k t b1 o1 s1.1.1.1.1.1.1 s1.1.1.1.1.1.2 s1.1.1.1.1.2 s1.1.1.1.2.1.1 s1.1.1.1.2.1.2 s1.1.1.1.2.2 s1.1.1.2 s1.1.2 s1.2.1.1.1 s1.2.1.1.2 s1.2.1.2.1 s1.2.1.2.2 s1.2.2.1.1 s1.2.2.1.2 s1.2.2.2.1 s1.2.2.2.2 g0 0 h0.1.1.1.1.1.1 h0.1.1.1.1.1.2 h0.1.1.1.1.2 h0.1.1.1.2.1.1 h0.1.1.1.2.1.2 h0.1.1.1.2.2 h0.1.1.2 h0.1.2 h0.2.1.1.1 h0.2.1.1.2 h0.2.1.2.1 h0.2.1.2.2 h0.2.2.1.1 h0.2.2.1.2 h0.2.2.2.1 h0.2.2.2.2) mv_X4_25 hl [0, 1, 3, 4, 5, 6] [7, 2] 5 ⟨rfl, rfl⟩ ⟨Nat.le_of_ble_eq_true rfl, Nat.le_of_ble_eq_true rfl⟩ rfl rfl rfl rfl rfl rfl rfl (Nat.le_of_ble_eq_true rfl) dX4_pop_31 (fun H locs hP hD hS => ?_)
      have hP : va_P D vwCl [[(b0 o0, .inr (4, [.ref (b0 (o0+1)), .int y]))], [(b0 (o0+1), .inl (k 2, 5, .inr (.inr (.inr (.inr (hadr ((g0, h0), (g1, h1), (g2, h2), (g3, h3), (g4, h4), kk)))))))], WS k g1 0 h1, WS k g2 0 h2, WS k g3 0 h3, WS k g4 0 h4, WS k b1 o1 h0, WS k g0 0 h0].flatten _ := hP
      have hD : va_D A [[(b0 o0, .inr (4, [.ref (b0 (o0+1)), .int y]))], [(b0 (o0+1), .inl (k 2, 5, .inr (.inr (.inr (.inr (hadr ((g0, h0), (g1, h1), (g2, h2), (g3, h3), (g4, h4), kk)))))))], WS k g1 0 h1, WS k g2 0 h2, WS k g3 0 h3, WS k g4 0 h4, WS k b1 o1 h0, WS k g0 0 h0].flatten := hD
      refine lv_aload_n hx hb dX4_pop_34 rfl (lv_at hl 0 rfl) ?_
      refine kget (v := .int y) X hP ff_X4_18 0 rfl rfl dX4_pop_35 ?_
      obtain ⟨hP, hD⟩ := B_perm (br := [[(b0 o0, .inr (4, [.ref (b0 (o0+1)), .int y]))], [(b0 (o0+1), .inl (k 2, 5, .inr (.inr (.inr (.inr (hadr ((g0, h0), (g1, h1), (g2, h2), (g3, h3), (g4, h4), kk)))))))], WS k g0 0 h0, WS k g1 0 h1, WS k g2 0 h2, WS k g3 0 h3, WS k g4 0 h4, WS k b1 o1 h0]) hP hD [0, 1, 7, 2, 3, 4, 5, 6] rfl rfl
      subst hf
      exact kiret (v := y) X hP hD hS dX4_pop_38
    · have hf := ofneg hf hc
      by_cases hc : y = 1
      · have hf := ofpos hf hc
        have hf := Option.some.inj hf
        have hv : hadr ((g0, h0), (g1, h1), (g2, h2), (g3, h3), (g4, h4), kk) y.toNatClampNeg = some (g1 0) := by rw [hc]; rfl
        refine kaldq (f := hadr ((g0, h0), (g1, h1), (g2, h2), (g3, h3), (g4, h4), kk)) (v := g1 0) X hP 1 rfl hv (by rw [hc]; exact ck_in rfl) dX4_pop_30 ?_
        refine kcV (bs := [[(b0 o0, .inr (4, [.ref (b0 (o0+1)), .int y]))], [(b0 (o0+1), .inl (k 2, 5, .inr (.inr (.inr (.inr (hadr ((g0, h0), (g1, h1), (g2, h2), (g3, h3), (g4, h4), kk)))))))], WS k g0 0 h0, WS k g1 0 h1, WS k g2 0 h2, WS k g3 0 h3, WS k g4 0 h4, WS k b1 o1 s1]) (br := [[(b0 o0, .inr (4, [.ref (b0 (o0+1)), .int y]))], [(b0 (o0+1), .inl (k 2, 5, .inr (.inr (.inr (.inr (hadr ((g0, h0), (g1, h1), (g2, h2), (g3, h3), (g4, h4), kk)))))))], WS k g0 0 h0, WS k g2 0 h2, WS k g3 0 h3, WS k g4 0 h4]) (bc := [WS k b1 o1 s1, WS k g1 0 h1]) (bc' := [WS k b1 o1 h1, WS k g1 0 h1]) X hP hD hS (c_State_copyFrom l D k t b1 o1 s1.1.1.1.1.1.1 s1.1.1.1.1.1.2 s1.1.1.1.1.2 s1.1.1.1.2.1.1 s1.1.1.1.2.1.2 s1.1.1.1.2.2 s1.1.1.2 s1.1.2 s1.2.1.1.1 s1.2.1.1.2 s1.2.1.2.1 s1.2.1.2.2 s1.2.2.1.1 s1.2.2.1.2 s1.2.2.2.1 s1.2.2.2.2 g1 0 h1.1.1.1.1.1.1 h1.1.1.1.1.1.2 h1.1.1.1.1.2 h1.1.1.1.2.1.1 h1.1.1.1.2.1.2 h1.1.1.1.2.2 h1.1.1.2 h1.1.2 h1.2.1.1.1 h1.2.1.1.2 h1.2.1.2.1 h1.2.1.2.2 h1.2.2.1.1 h1.2.2.1.2 h1.2.2.2.1 h1.2.2.2.2) mv_X4_25 hl [0, 1, 2, 4, 5, 6] [7, 3] 5 ⟨rfl, rfl⟩ ⟨Nat.le_of_ble_eq_true rfl, Nat.le_of_ble_eq_true rfl⟩ rfl rfl rfl rfl rfl rfl rfl (Nat.le_of_ble_eq_true rfl) dX4_pop_31 (fun H locs hP hD hS => ?_)
        have hP : va_P D vwCl [[(b0 o0, .inr (4, [.ref (b0 (o0+1)), .int y]))], [(b0 (o0+1), .inl (k 2, 5, .inr (.inr (.inr (.inr (hadr ((g0, h0), (g1, h1), (g2, h2), (g3, h3), (g4, h4), kk)))))))], WS k g0 0 h0, WS k g2 0 h2, WS k g3 0 h3, WS k g4 0 h4, WS k b1 o1 h1, WS k g1 0 h1].flatten _ := hP
        have hD : va_D A [[(b0 o0, .inr (4, [.ref (b0 (o0+1)), .int y]))], [(b0 (o0+1), .inl (k 2, 5, .inr (.inr (.inr (.inr (hadr ((g0, h0), (g1, h1), (g2, h2), (g3, h3), (g4, h4), kk)))))))], WS k g0 0 h0, WS k g2 0 h2, WS k g3 0 h3, WS k g4 0 h4, WS k b1 o1 h1, WS k g1 0 h1].flatten := hD
        refine lv_aload_n hx hb dX4_pop_34 rfl (lv_at hl 0 rfl) ?_
        refine kget (v := .int y) X hP ff_X4_18 0 rfl rfl dX4_pop_35 ?_
        obtain ⟨hP, hD⟩ := B_perm (br := [[(b0 o0, .inr (4, [.ref (b0 (o0+1)), .int y]))], [(b0 (o0+1), .inl (k 2, 5, .inr (.inr (.inr (.inr (hadr ((g0, h0), (g1, h1), (g2, h2), (g3, h3), (g4, h4), kk)))))))], WS k g0 0 h0, WS k g1 0 h1, WS k g2 0 h2, WS k g3 0 h3, WS k g4 0 h4, WS k b1 o1 h1]) hP hD [0, 1, 2, 7, 3, 4, 5, 6] rfl rfl
        subst hf
        exact kiret (v := y) X hP hD hS dX4_pop_38
      · have hf := ofneg hf hc
        by_cases hc : y = 2
        · have hf := ofpos hf hc
          have hf := Option.some.inj hf
          have hv : hadr ((g0, h0), (g1, h1), (g2, h2), (g3, h3), (g4, h4), kk) y.toNatClampNeg = some (g2 0) := by rw [hc]; rfl
          refine kaldq (f := hadr ((g0, h0), (g1, h1), (g2, h2), (g3, h3), (g4, h4), kk)) (v := g2 0) X hP 1 rfl hv (by rw [hc]; exact ck_in rfl) dX4_pop_30 ?_
          refine kcV (bs := [[(b0 o0, .inr (4, [.ref (b0 (o0+1)), .int y]))], [(b0 (o0+1), .inl (k 2, 5, .inr (.inr (.inr (.inr (hadr ((g0, h0), (g1, h1), (g2, h2), (g3, h3), (g4, h4), kk)))))))], WS k g0 0 h0, WS k g1 0 h1, WS k g2 0 h2, WS k g3 0 h3, WS k g4 0 h4, WS k b1 o1 s1]) (br := [[(b0 o0, .inr (4, [.ref (b0 (o0+1)), .int y]))], [(b0 (o0+1), .inl (k 2, 5, .inr (.inr (.inr (.inr (hadr ((g0, h0), (g1, h1), (g2, h2), (g3, h3), (g4, h4), kk)))))))], WS k g0 0 h0, WS k g1 0 h1, WS k g3 0 h3, WS k g4 0 h4]) (bc := [WS k b1 o1 s1, WS k g2 0 h2]) (bc' := [WS k b1 o1 h2, WS k g2 0 h2]) X hP hD hS (c_State_copyFrom l D k t b1 o1 s1.1.1.1.1.1.1 s1.1.1.1.1.1.2 s1.1.1.1.1.2 s1.1.1.1.2.1.1 s1.1.1.1.2.1.2 s1.1.1.1.2.2 s1.1.1.2 s1.1.2 s1.2.1.1.1 s1.2.1.1.2 s1.2.1.2.1 s1.2.1.2.2 s1.2.2.1.1 s1.2.2.1.2 s1.2.2.2.1 s1.2.2.2.2 g2 0 h2.1.1.1.1.1.1 h2.1.1.1.1.1.2 h2.1.1.1.1.2 h2.1.1.1.2.1.1 h2.1.1.1.2.1.2 h2.1.1.1.2.2 h2.1.1.2 h2.1.2 h2.2.1.1.1 h2.2.1.1.2 h2.2.1.2.1 h2.2.1.2.2 h2.2.2.1.1 h2.2.2.1.2 h2.2.2.2.1 h2.2.2.2.2) mv_X4_25 hl [0, 1, 2, 3, 5, 6] [7, 4] 5 ⟨rfl, rfl⟩ ⟨Nat.le_of_ble_eq_true rfl, Nat.le_of_ble_eq_true rfl⟩ rfl rfl rfl rfl rfl rfl rfl (Nat.le_of_ble_eq_true rfl) dX4_pop_31 (fun H locs hP hD hS => ?_)
          have hP : va_P D vwCl [[(b0 o0, .inr (4, [.ref (b0 (o0+1)), .int y]))], [(b0 (o0+1), .inl (k 2, 5, .inr (.inr (.inr (.inr (hadr ((g0, h0), (g1, h1), (g2, h2), (g3, h3), (g4, h4), kk)))))))], WS k g0 0 h0, WS k g1 0 h1, WS k g3 0 h3, WS k g4 0 h4, WS k b1 o1 h2, WS k g2 0 h2].flatten _ := hP
          have hD : va_D A [[(b0 o0, .inr (4, [.ref (b0 (o0+1)), .int y]))], [(b0 (o0+1), .inl (k 2, 5, .inr (.inr (.inr (.inr (hadr ((g0, h0), (g1, h1), (g2, h2), (g3, h3), (g4, h4), kk)))))))], WS k g0 0 h0, WS k g1 0 h1, WS k g3 0 h3, WS k g4 0 h4, WS k b1 o1 h2, WS k g2 0 h2].flatten := hD
          refine lv_aload_n hx hb dX4_pop_34 rfl (lv_at hl 0 rfl) ?_
          refine kget (v := .int y) X hP ff_X4_18 0 rfl rfl dX4_pop_35 ?_
          obtain ⟨hP, hD⟩ := B_perm (br := [[(b0 o0, .inr (4, [.ref (b0 (o0+1)), .int y]))], [(b0 (o0+1), .inl (k 2, 5, .inr (.inr (.inr (.inr (hadr ((g0, h0), (g1, h1), (g2, h2), (g3, h3), (g4, h4), kk)))))))], WS k g0 0 h0, WS k g1 0 h1, WS k g2 0 h2, WS k g3 0 h3, WS k g4 0 h4, WS k b1 o1 h2]) hP hD [0, 1, 2, 3, 7, 4, 5, 6] rfl rfl
          subst hf
          exact kiret (v := y) X hP hD hS dX4_pop_38
        · have hf := ofneg hf hc
          by_cases hc : y = 3
          · have hf := ofpos hf hc
            have hf := Option.some.inj hf
            have hv : hadr ((g0, h0), (g1, h1), (g2, h2), (g3, h3), (g4, h4), kk) y.toNatClampNeg = some (g3 0) := by rw [hc]; rfl
            refine kaldq (f := hadr ((g0, h0), (g1, h1), (g2, h2), (g3, h3), (g4, h4), kk)) (v := g3 0) X hP 1 rfl hv (by rw [hc]; exact ck_in rfl) dX4_pop_30 ?_
            refine kcV (bs := [[(b0 o0, .inr (4, [.ref (b0 (o0+1)), .int y]))], [(b0 (o0+1), .inl (k 2, 5, .inr (.inr (.inr (.inr (hadr ((g0, h0), (g1, h1), (g2, h2), (g3, h3), (g4, h4), kk)))))))], WS k g0 0 h0, WS k g1 0 h1, WS k g2 0 h2, WS k g3 0 h3, WS k g4 0 h4, WS k b1 o1 s1]) (br := [[(b0 o0, .inr (4, [.ref (b0 (o0+1)), .int y]))], [(b0 (o0+1), .inl (k 2, 5, .inr (.inr (.inr (.inr (hadr ((g0, h0), (g1, h1), (g2, h2), (g3, h3), (g4, h4), kk)))))))], WS k g0 0 h0, WS k g1 0 h1, WS k g2 0 h2, WS k g4 0 h4]) (bc := [WS k b1 o1 s1, WS k g3 0 h3]) (bc' := [WS k b1 o1 h3, WS k g3 0 h3]) X hP hD hS (c_State_copyFrom l D k t b1 o1 s1.1.1.1.1.1.1 s1.1.1.1.1.1.2 s1.1.1.1.1.2 s1.1.1.1.2.1.1 s1.1.1.1.2.1.2 s1.1.1.1.2.2 s1.1.1.2 s1.1.2 s1.2.1.1.1 s1.2.1.1.2 s1.2.1.2.1 s1.2.1.2.2 s1.2.2.1.1 s1.2.2.1.2 s1.2.2.2.1 s1.2.2.2.2 g3 0 h3.1.1.1.1.1.1 h3.1.1.1.1.1.2 h3.1.1.1.1.2 h3.1.1.1.2.1.1 h3.1.1.1.2.1.2 h3.1.1.1.2.2 h3.1.1.2 h3.1.2 h3.2.1.1.1 h3.2.1.1.2 h3.2.1.2.1 h3.2.1.2.2 h3.2.2.1.1 h3.2.2.1.2 h3.2.2.2.1 h3.2.2.2.2) mv_X4_25 hl [0, 1, 2, 3, 4, 6] [7, 5] 5 ⟨rfl, rfl⟩ ⟨Nat.le_of_ble_eq_true rfl, Nat.le_of_ble_eq_true rfl⟩ rfl rfl rfl rfl rfl rfl rfl (Nat.le_of_ble_eq_true rfl) dX4_pop_31 (fun H locs hP hD hS => ?_)
            have hP : va_P D vwCl [[(b0 o0, .inr (4, [.ref (b0 (o0+1)), .int y]))], [(b0 (o0+1), .inl (k 2, 5, .inr (.inr (.inr (.inr (hadr ((g0, h0), (g1, h1), (g2, h2), (g3, h3), (g4, h4), kk)))))))], WS k g0 0 h0, WS k g1 0 h1, WS k g2 0 h2, WS k g4 0 h4, WS k b1 o1 h3, WS k g3 0 h3].flatten _ := hP
            have hD : va_D A [[(b0 o0, .inr (4, [.ref (b0 (o0+1)), .int y]))], [(b0 (o0+1), .inl (k 2, 5, .inr (.inr (.inr (.inr (hadr ((g0, h0), (g1, h1), (g2, h2), (g3, h3), (g4, h4), kk)))))))], WS k g0 0 h0, WS k g1 0 h1, WS k g2 0 h2, WS k g4 0 h4, WS k b1 o1 h3, WS k g3 0 h3].flatten := hD
            refine lv_aload_n hx hb dX4_pop_34 rfl (lv_at hl 0 rfl) ?_
            refine kget (v := .int y) X hP ff_X4_18 0 rfl rfl dX4_pop_35 ?_
            obtain ⟨hP, hD⟩ := B_perm (br := [[(b0 o0, .inr (4, [.ref (b0 (o0+1)), .int y]))], [(b0 (o0+1), .inl (k 2, 5, .inr (.inr (.inr (.inr (hadr ((g0, h0), (g1, h1), (g2, h2), (g3, h3), (g4, h4), kk)))))))], WS k g0 0 h0, WS k g1 0 h1, WS k g2 0 h2, WS k g3 0 h3, WS k g4 0 h4, WS k b1 o1 h3]) hP hD [0, 1, 2, 3, 4, 7, 5, 6] rfl rfl
            subst hf
            exact kiret (v := y) X hP hD hS dX4_pop_38
          · have hf := ofneg hf hc
            by_cases hc : y = 4
            · have hf := ofpos hf hc
              have hf := Option.some.inj hf
              have hv : hadr ((g0, h0), (g1, h1), (g2, h2), (g3, h3), (g4, h4), kk) y.toNatClampNeg = some (g4 0) := by rw [hc]; rfl
              refine kaldq (f := hadr ((g0, h0), (g1, h1), (g2, h2), (g3, h3), (g4, h4), kk)) (v := g4 0) X hP 1 rfl hv (by rw [hc]; exact ck_in rfl) dX4_pop_30 ?_
              refine kcV (bs := [[(b0 o0, .inr (4, [.ref (b0 (o0+1)), .int y]))], [(b0 (o0+1), .inl (k 2, 5, .inr (.inr (.inr (.inr (hadr ((g0, h0), (g1, h1), (g2, h2), (g3, h3), (g4, h4), kk)))))))], WS k g0 0 h0, WS k g1 0 h1, WS k g2 0 h2, WS k g3 0 h3, WS k g4 0 h4, WS k b1 o1 s1]) (br := [[(b0 o0, .inr (4, [.ref (b0 (o0+1)), .int y]))], [(b0 (o0+1), .inl (k 2, 5, .inr (.inr (.inr (.inr (hadr ((g0, h0), (g1, h1), (g2, h2), (g3, h3), (g4, h4), kk)))))))], WS k g0 0 h0, WS k g1 0 h1, WS k g2 0 h2, WS k g3 0 h3]) (bc := [WS k b1 o1 s1, WS k g4 0 h4]) (bc' := [WS k b1 o1 h4, WS k g4 0 h4]) X hP hD hS (c_State_copyFrom l D k t b1 o1 s1.1.1.1.1.1.1 s1.1.1.1.1.1.2 s1.1.1.1.1.2 s1.1.1.1.2.1.1 s1.1.1.1.2.1.2 s1.1.1.1.2.2 s1.1.1.2 s1.1.2 s1.2.1.1.1 s1.2.1.1.2 s1.2.1.2.1 s1.2.1.2.2 s1.2.2.1.1 s1.2.2.1.2 s1.2.2.2.1 s1.2.2.2.2 g4 0 h4.1.1.1.1.1.1 h4.1.1.1.1.1.2 h4.1.1.1.1.2 h4.1.1.1.2.1.1 h4.1.1.1.2.1.2 h4.1.1.1.2.2 h4.1.1.2 h4.1.2 h4.2.1.1.1 h4.2.1.1.2 h4.2.1.2.1 h4.2.1.2.2 h4.2.2.1.1 h4.2.2.1.2 h4.2.2.2.1 h4.2.2.2.2) mv_X4_25 hl [0, 1, 2, 3, 4, 5] [7, 6] 5 ⟨rfl, rfl⟩ ⟨Nat.le_of_ble_eq_true rfl, Nat.le_of_ble_eq_true rfl⟩ rfl rfl rfl rfl rfl rfl rfl (Nat.le_of_ble_eq_true rfl) dX4_pop_31 (fun H locs hP hD hS => ?_)
              have hP : va_P D vwCl [[(b0 o0, .inr (4, [.ref (b0 (o0+1)), .int y]))], [(b0 (o0+1), .inl (k 2, 5, .inr (.inr (.inr (.inr (hadr ((g0, h0), (g1, h1), (g2, h2), (g3, h3), (g4, h4), kk)))))))], WS k g0 0 h0, WS k g1 0 h1, WS k g2 0 h2, WS k g3 0 h3, WS k b1 o1 h4, WS k g4 0 h4].flatten _ := hP
              have hD : va_D A [[(b0 o0, .inr (4, [.ref (b0 (o0+1)), .int y]))], [(b0 (o0+1), .inl (k 2, 5, .inr (.inr (.inr (.inr (hadr ((g0, h0), (g1, h1), (g2, h2), (g3, h3), (g4, h4), kk)))))))], WS k g0 0 h0, WS k g1 0 h1, WS k g2 0 h2, WS k g3 0 h3, WS k b1 o1 h4, WS k g4 0 h4].flatten := hD
              refine lv_aload_n hx hb dX4_pop_34 rfl (lv_at hl 0 rfl) ?_
              refine kget (v := .int y) X hP ff_X4_18 0 rfl rfl dX4_pop_35 ?_
              obtain ⟨hP, hD⟩ := B_perm (br := [[(b0 o0, .inr (4, [.ref (b0 (o0+1)), .int y]))], [(b0 (o0+1), .inl (k 2, 5, .inr (.inr (.inr (.inr (hadr ((g0, h0), (g1, h1), (g2, h2), (g3, h3), (g4, h4), kk)))))))], WS k g0 0 h0, WS k g1 0 h1, WS k g2 0 h2, WS k g3 0 h3, WS k g4 0 h4, WS k b1 o1 h4]) hP hD [0, 1, 2, 3, 4, 5, 7, 6] rfl rfl
              subst hf
              exact kiret (v := y) X hP hD hS dX4_pop_38
            · have hf := ofneg hf hc
              exact absurd hf (by simp)
  · have hf := ofneg hf hc
    have hf := Option.some.inj hf
    subst hf
    refine lv_bipush (v := (-4)) hx hb dX4_pop_8 (by decide) ?_
    exact kiret (v := (-4)) X hP hD hS dX4_pop_10
theorem c_History_push (l : Launch) (D : va_G) (k : Nat → ClassId) (t : Nat → Nat) (b0 : Nat → Nat) (o0 : Nat) (s0 : HistoryS) (b1 : Nat → Nat) (o1 : Nat) (x_form_counters : Int32) (x_form_bits : Int32) (x_form_functions : Int32) (x_form_countersAbove : Int32) (x_form_functionsAbove : Int32) (x_form_rounds : Int32) (x_flows : Int32) (x_keys : FI) (x_first_truths : FJ) (x_first_rests : FI) (x_first_marks : FI) (x_first_numbers : FJ) (x_second_truths : FJ) (x_second_rests : FI) (x_second_marks : FI) (x_second_numbers : FJ) (out : HistoryS) (hf : f_History_push s0 ((((((x_form_counters, x_form_bits), x_form_functions), ((x_form_countersAbove, x_form_functionsAbove), x_form_rounds)), x_flows), x_keys), (((x_first_truths, x_first_rests), (x_first_marks, x_first_numbers)), ((x_second_truths, x_second_rests), (x_second_marks, x_second_numbers)))) = some out) : CT l D k t yX4_push cX4_push 2 none rm_History_push [.ref (b0 o0), .ref (b1 o1)] [W_History k b0 o0 s0, W_State k b1 o1 x_form_counters x_form_bits x_form_functions x_form_countersAbove x_form_functionsAbove x_form_rounds x_flows x_keys x_first_truths x_first_rests x_first_marks x_first_numbers x_second_truths x_second_rests x_second_marks x_second_numbers].flatten none [W_History k b0 o0 out, W_State k b1 o1 x_form_counters x_form_bits x_form_functions x_form_countersAbove x_form_functionsAbove x_form_rounds x_flows x_keys x_first_truths x_first_rests x_first_marks x_first_numbers x_second_truths x_second_rests x_second_marks x_second_numbers].flatten := ct_History_push l D k t b0 o0 s0 b1 o1 ((((((x_form_counters, x_form_bits), x_form_functions), ((x_form_countersAbove, x_form_functionsAbove), x_form_rounds)), x_flows), x_keys), (((x_first_truths, x_first_rests), (x_first_marks, x_first_numbers)), ((x_second_truths, x_second_rests), (x_second_marks, x_second_numbers)))) out hf
theorem c_History_pop (l : Launch) (D : va_G) (k : Nat → ClassId) (t : Nat → Nat) (b0 : Nat → Nat) (o0 : Nat) (s0 : HistoryS) (b1 : Nat → Nat) (o1 : Nat) (x_form_counters : Int32) (x_form_bits : Int32) (x_form_functions : Int32) (x_form_countersAbove : Int32) (x_form_functionsAbove : Int32) (x_form_rounds : Int32) (x_flows : Int32) (x_keys : FI) (x_first_truths : FJ) (x_first_rests : FI) (x_first_marks : FI) (x_first_numbers : FJ) (x_second_truths : FJ) (x_second_rests : FI) (x_second_marks : FI) (x_second_numbers : FJ) (out : Int32 × HistoryS × StateS) (hf : f_History_pop s0 ((((((x_form_counters, x_form_bits), x_form_functions), ((x_form_countersAbove, x_form_functionsAbove), x_form_rounds)), x_flows), x_keys), (((x_first_truths, x_first_rests), (x_first_marks, x_first_numbers)), ((x_second_truths, x_second_rests), (x_second_marks, x_second_numbers)))) = some out) : CT l D k t yX4_pop cX4_pop 2 (some .int) rm_History_pop [.ref (b0 o0), .ref (b1 o1)] [W_History k b0 o0 s0, W_State k b1 o1 x_form_counters x_form_bits x_form_functions x_form_countersAbove x_form_functionsAbove x_form_rounds x_flows x_keys x_first_truths x_first_rests x_first_marks x_first_numbers x_second_truths x_second_rests x_second_marks x_second_numbers].flatten (some (.int out.1)) [W_History k b0 o0 out.2.1, WS k b1 o1 out.2.2].flatten := ct_History_pop l D k t b0 o0 s0 b1 o1 ((((((x_form_counters, x_form_bits), x_form_functions), ((x_form_countersAbove, x_form_functionsAbove), x_form_rounds)), x_flows), x_keys), (((x_first_truths, x_first_rests), (x_first_marks, x_first_numbers)), ((x_second_truths, x_second_rests), (x_second_marks, x_second_numbers)))) out hf
