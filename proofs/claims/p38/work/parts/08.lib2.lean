/-! arrays filled and copied whole; a row of a grid; an answer that is a cell -/
theorem arrV_congr {cA : ClassId} {n : Nat} {f g : Nat → Value} (h : ∀ j, j < n → f j = g j) : arrV cA n f = arrV cA n g := by
  unfold arrV
  congr 1
  apply Array.ext
  · simp
  · intro i h1 h2
    simp only [Array.getElem_ofFn]
    exact h i (by simpa using h1)
theorem cell_i {cA : ClassId} {n : Nat} {f g : FI} (h : ∀ j, j < n → f j = g j) : vp_cell cA (n, .inl f) = vp_cell cA (n, .inl g) := by
  rw [vp_cell_i, vp_cell_i]
  exact arrV_congr fun j hj => by rw [h j hj]
theorem cell_l {cA : ClassId} {n : Nat} {f g : FJ} (h : ∀ j, j < n → f j = g j) : vp_cell cA (n, .inr (.inl f)) = vp_cell cA (n, .inr (.inl g)) := by
  rw [vp_cell_l, vp_cell_l]
  exact arrV_congr fun j hj => by rw [h j hj]
theorem P_setc {D : va_G} {cl : List vw_C} {ws : va_W} {q a : Nat} {e1 e2 : va_E} {H : Heap} (h : va_P D cl (ws.set q (a, e1)) H) (he : va_at D cl (a, e1) H → va_at D cl (a, e2) H) : va_P D cl (ws.set q (a, e2)) H := by
  intro i x hx
  by_cases hi : i = q
  · subst hi
    by_cases hl : i < ws.length
    · rw [List.getElem?_set_self hl] at hx
      cases hx
      exact he (h i _ (List.getElem?_set_self hl))
    · rw [List.getElem?_eq_none (by simpa using hl)] at hx
      cases hx
  · rw [List.getElem?_set_ne (Ne.symm hi)] at hx
    exact h i x (by rw [List.getElem?_set_ne (Ne.symm hi)]; exact hx)
section KX
variable {p : Program} {l : Launch} {e : Env} {R : Room} {s : State} {m : MethodId} {args : Array Value} {below : List Frame} {meth : Method} {c : Code} {H : Heap} {locs : List Loc} {Q : State → Prop}
variable {D : va_G} {k : Nat → ClassId} {t : Nat → Nat} {cc : ByteArray} {nL pc : Nat} {own : String} {ret : Option FieldType} {A : Nat → Prop} {ls : Array Slot} {rest st0 : List Value} {ws : va_W} {lv : List (Nat × Value)}
theorem karet {a : Nat} {n : String} (X : BX l D k t p s m args meth c cc nL own (some (.object n)) A) (hP : va_P D vwCl ws H) (hD : va_D A ws) (hS : va_S A s.heap H locs) (hdg : decode cc pc = .ok (.areturn, 1)) : W p l e R s m args below meth c H locs 0 0 (MQ below (QW D k A (some (.ref a)) ws) args s 0 0 A) (F0 m pc ls [.ref a]) :=
  W.aret X.1.1 X.1.2.1 X.2.1 (Or.inl ⟨_, rfl⟩) (Or.inr ⟨_, rfl⟩) (fun t ht hW => ⟨rfl, by rw [ht]; exact hP, va_K.moved hW.alike X.2.2.2.1, hD, hS.F ht⟩) hS.2.2 hdg X.2.2.1
abbrev CPY (own : String) (index : Nat) : Prop := Cond.methodLink own index arraycopyName ∈ ALL ∧ Cond.native arraycopyName ∈ ALL ∧ Cond.static arraycopyName ∈ ALL ∧ Cond.initialized "java/lang/System" ∈ ALL
theorem kcpyi {index : Nat} {f g : FI} {n a0 a : Nat} {z : Int32} (X : BX l D k t p s m args meth c cc nL own ret A) (hl : lv_has ls nL lv) (hP : va_P D vwCl ws H) (hD : va_D A ws) (hS : va_S A s.heap H locs) (mj : CPY own index) (q0 q1 : Nat) (ha0 : ws[q0]? = some (a0, .inl (k 0, n, .inl f))) (ha1 : ws[q1]? = some (a, .inl (k 0, n, .inl g))) (hz : z.toNatClampNeg = n)
    (hframes : 1 ≤ R.frames) (hlocals : (rest.map fun v => v.category).sum + (nativeFrameWords "java/lang/System" "arraycopy" 5 + 11) ≤ R.locals) (hdg : decode cc pc = .ok (.invokestatic index, 3))
    (kk : ∀ (H1 : Heap) (locs1 : List Loc), va_P D vwCl (ws.set q1 (a, .inl (k 0, n, .inl f))) H1 → va_D A (ws.set q1 (a, .inl (k 0, n, .inl f))) → va_S A s.heap H1 locs1 → W p l e R s m args below meth c H1 locs1 0 0 Q (F0 m (pc + 3) ls rest)) (h3 : ¬ z < 0 := by decide) : W p l e R s m args below meth c H locs 0 0 Q (F0 m pc ls (.int z :: .int 0 :: .ref a :: .int 0 :: .ref a0 :: rest)) := by
  refine va_copyi X.1.1 X.1.2.1 (X.1.2.2.1.trans hl.1.symm) X.1.2.2.2.1 (X.1.2.2.2.2 _ mj.1) (X.1.2.2.2.2 _ mj.2.1) (X.1.2.2.2.2 _ mj.2.2.1) (X.1.2.2.2.2 _ mj.2.2.2) X.2.2.2.1 hP hD hS q0 q1 0 0 ha0 ha1 rfl rfl rfl (by decide) (by decide) h3 (by rw [hz]; show 0 + n ≤ n; omega) (by rw [hz]; show 0 + n ≤ n; omega) (fun i _ => rfl) hframes hlocals hdg (fun H1 locs1 hP1 hD1 hS1 => ?_)
  refine kk H1 locs1 (P_setc hP1 fun h => ?_) (hD.set ha1) hS1
  show H1[a]? = some (vp_cell _ _)
  rw [cell_i (g := va_cpy f g (0 : Int32).toNatClampNeg (0 : Int32).toNatClampNeg z.toNatClampNeg) (fun j hj => ?_)]
  · exact h
  · show f j = va_cpy f g 0 0 z.toNatClampNeg j
    rw [hz, pk_cpy_in (Nat.zero_le _) (by omega), Nat.zero_add, Nat.sub_zero]
theorem kcpyl {index : Nat} {f g : FJ} {n a0 a : Nat} {z : Int32} (X : BX l D k t p s m args meth c cc nL own ret A) (hl : lv_has ls nL lv) (hP : va_P D vwCl ws H) (hD : va_D A ws) (hS : va_S A s.heap H locs) (mj : CPY own index) (q0 q1 : Nat) (ha0 : ws[q0]? = some (a0, .inl (k 1, n, .inr (.inl f)))) (ha1 : ws[q1]? = some (a, .inl (k 1, n, .inr (.inl g)))) (hz : z.toNatClampNeg = n)
    (hframes : 1 ≤ R.frames) (hlocals : (rest.map fun v => v.category).sum + (nativeFrameWords "java/lang/System" "arraycopy" 5 + 11) ≤ R.locals) (hdg : decode cc pc = .ok (.invokestatic index, 3))
    (kk : ∀ (H1 : Heap) (locs1 : List Loc), va_P D vwCl (ws.set q1 (a, .inl (k 1, n, .inr (.inl f)))) H1 → va_D A (ws.set q1 (a, .inl (k 1, n, .inr (.inl f)))) → va_S A s.heap H1 locs1 → W p l e R s m args below meth c H1 locs1 0 0 Q (F0 m (pc + 3) ls rest)) (h3 : ¬ z < 0 := by decide) : W p l e R s m args below meth c H locs 0 0 Q (F0 m pc ls (.int z :: .int 0 :: .ref a :: .int 0 :: .ref a0 :: rest)) := by
  refine va_copyl X.1.1 X.1.2.1 (X.1.2.2.1.trans hl.1.symm) X.1.2.2.2.1 (X.1.2.2.2.2 _ mj.1) (X.1.2.2.2.2 _ mj.2.1) (X.1.2.2.2.2 _ mj.2.2.1) (X.1.2.2.2.2 _ mj.2.2.2) X.2.2.2.1 hP hD hS q0 q1 1 1 ha0 ha1 rfl rfl rfl (by decide) (by decide) h3 (by rw [hz]; show 0 + n ≤ n; omega) (by rw [hz]; show 0 + n ≤ n; omega) (fun i _ => rfl) hframes hlocals hdg (fun H1 locs1 hP1 hD1 hS1 => ?_)
  refine kk H1 locs1 (P_setc hP1 fun h => ?_) (hD.set ha1) hS1
  show H1[a]? = some (vp_cell _ _)
  rw [cell_l (g := va_cpy f g (0 : Int32).toNatClampNeg (0 : Int32).toNatClampNeg z.toNatClampNeg) (fun j hj => ?_)]
  · exact h
  · show f j = va_cpy f g 0 0 z.toNatClampNeg j
    rw [hz, pk_cpy_in (Nat.zero_le _) (by omega), Nat.zero_add, Nat.sub_zero]
theorem grid_at {b : Nat → Nat} {o i : Nat} {x0 x1 x2 x3 x4 x5 : FJ} {M : Nat → FI} {x7 : FI} {x8 : Int32} (hi : i < 24) : [W_Bounds k b o x0 x1 x2 x3 x4 x5 M x7 x8].flatten[9 + i]? = some (b (o + 9 + i), .inl (k 0, 4, .inl (M i))) := by
  rw [List.flatten_singleton]
  unfold W_Bounds gRows
  rw [List.getElem?_append_right (by show 9 ≤ 9 + i; omega)]
  show ((List.range 24).map _)[9 + i - 9]? = _
  rw [Nat.add_sub_cancel_left, List.getElem?_map, List.getElem?_range hi]
  rfl
theorem grid_set {b : Nat → Nat} {o i j : Nat} {x0 x1 x2 x3 x4 x5 : FJ} {M : Nat → FI} {x7 : FI} {x8 : Int32} {x : Int32} (hi : i < 24) : [W_Bounds k b o x0 x1 x2 x3 x4 x5 M x7 x8].flatten.set (9 + i) (b (o + 9 + i), .inl (k 0, 4, .inl (upd (M i) j x))) = [W_Bounds k b o x0 x1 x2 x3 x4 x5 (gupd M i j x) x7 x8].flatten := by
  rw [List.flatten_singleton, List.flatten_singleton]
  unfold W_Bounds gRows
  rw [List.set_append_right _ _ (by show 9 ≤ 9 + i; omega)]
  show _ ++ ((List.range 24).map _).set (9 + i - 9) _ = _
  rw [Nat.add_sub_cancel_left]
  congr 1
  apply List.ext_getElem?
  intro q
  by_cases hq : i = q
  · subst hq
    rw [List.getElem?_set_self (by simpa using hi), List.getElem?_map, List.getElem?_range hi]
    simp [gupd]
  · rw [List.getElem?_set_ne hq, List.getElem?_map, List.getElem?_map]
    by_cases hl : q < 24
    · rw [List.getElem?_range hl]
      simp [gupd, Ne.symm hq]
    · rw [List.getElem?_eq_none (by simpa using hl)]
      rfl
theorem kaald {n a v : Nat} {f : Nat → Option Nat} {i : Int32} (X : BX l D k t p s m args meth c cc nL own ret A) (hP : va_P D vwCl ws H) (q0 : Nat) (ha : ws[q0]? = some (a, .inl (k 3, n, .inr (.inr (.inr (.inr f)))))) (hv : f i.toNatClampNeg = some v) (hin : vp_in i n) (hdg : decode cc pc = .ok (.aaload, 1))
    (kk : W p l e R s m args below meth c H locs 0 0 Q (F0 m (pc + 1) ls (.ref v :: rest))) : W p l e R s m args below meth c H locs 0 0 Q (F0 m pc ls (.int i :: .ref a :: rest)) := by
  have hlt : i.toNatClampNeg < n := Nat.not_le.mp fun q => hin (Or.inr q)
  have h3 : (TYS k)[3]? = some (k 3, FieldType.array .int) := rfl
  have e : va_rf (f i.toNatClampNeg) = .ref v := by rw [hv]; rfl
  refine W.aald (v := va_rf (f i.toNatClampNeg)) (ty := .array .int) X.1.1 X.1.2.1 (hP q0 _ ha) ((X.2.2.2.1.2 3 _ h3).1 n (fun j => va_rf (f j))) rfl (fun q => by cases q) (by show ¬ (i < 0 ∨ (arrV _ _ _).slots.size ≤ _); rw [arrV_size]; exact hin) (by show (arrV _ _ _).slots[_]? = _; rw [arrV_read _ _ hlt]) rfl rfl hdg ?_
  rw [e]
  exact kk
theorem kg_row {b : Nat → Nat} {o : Nat} {x0 x1 x2 x3 x4 x5 : FJ} {M : Nat → FI} {x7 : FI} {x8 : Int32} {i : Int32} (X : BX l D k t p s m args meth c cc nL own ret A) (hP : va_P D vwCl [W_Bounds k b o x0 x1 x2 x3 x4 x5 M x7 x8].flatten H) (hin : vp_in i 24) (hdg : decode cc pc = .ok (.aaload, 1))
    (kk : W p l e R s m args below meth c H locs 0 0 Q (F0 m (pc + 1) ls (.ref (b (o + 9 + i.toNatClampNeg)) :: rest))) : W p l e R s m args below meth c H locs 0 0 Q (F0 m pc ls (.int i :: .ref (b (o + 7)) :: rest)) :=
  kaald (f := fun i => some (b (o + 9 + i))) (n := 24) X hP 7 rfl rfl hin hdg kk
theorem kg_ld {b : Nat → Nat} {o : Nat} {x0 x1 x2 x3 x4 x5 : FJ} {M : Nat → FI} {x7 : FI} {x8 : Int32} {i j : Int32} (X : BX l D k t p s m args meth c cc nL own ret A) (hP : va_P D vwCl [W_Bounds k b o x0 x1 x2 x3 x4 x5 M x7 x8].flatten H) (hrow : vp_in i 24) (hin : vp_in j 4) (hdg : decode cc pc = .ok (.iaload, 1))
    (kk : W p l e R s m args below meth c H locs 0 0 Q (F0 m (pc + 1) ls (.int (M i.toNatClampNeg j.toNatClampNeg) :: rest))) : W p l e R s m args below meth c H locs 0 0 Q (F0 m pc ls (.int j :: .ref (b (o + 9 + i.toNatClampNeg)) :: rest)) := by
  have hlt : i.toNatClampNeg < 24 := Nat.not_le.mp fun q => hrow (Or.inr q)
  exact kiald (f := M i.toNatClampNeg) (n := 4) X hP (9 + i.toNatClampNeg) (grid_at hlt) hin hdg kk
theorem kg_st {b : Nat → Nat} {o : Nat} {x0 x1 x2 x3 x4 x5 : FJ} {M : Nat → FI} {x7 : FI} {x8 : Int32} {i j x : Int32} (X : BX l D k t p s m args meth c cc nL own ret A) (hP : va_P D vwCl [W_Bounds k b o x0 x1 x2 x3 x4 x5 M x7 x8].flatten H) (hD : va_D A [W_Bounds k b o x0 x1 x2 x3 x4 x5 M x7 x8].flatten) (hS : va_S A s.heap H locs) (hrow : vp_in i 24) (hin : vp_in j 4) (hdg : decode cc pc = .ok (.iastore, 1))
    (kk : ∀ (H1 : Heap) (locs1 : List Loc), va_P D vwCl [W_Bounds k b o x0 x1 x2 x3 x4 x5 (gupd M i.toNatClampNeg j.toNatClampNeg x) x7 x8].flatten H1 → va_D A [W_Bounds k b o x0 x1 x2 x3 x4 x5 (gupd M i.toNatClampNeg j.toNatClampNeg x) x7 x8].flatten → va_S A s.heap H1 locs1 → W p l e R s m args below meth c H1 locs1 0 0 Q (F0 m (pc + 1) ls rest)) : W p l e R s m args below meth c H locs 0 0 Q (F0 m pc ls (.int x :: .int j :: .ref (b (o + 9 + i.toNatClampNeg)) :: rest)) := by
  have hlt : i.toNatClampNeg < 24 := Nat.not_le.mp fun q => hrow (Or.inr q)
  refine kiast (f := M i.toNatClampNeg) (n := 4) X hP hD hS (9 + i.toNatClampNeg) (grid_at hlt) hin hdg (fun H1 locs1 hP1 hD1 hS1 => ?_)
  rw [grid_set hlt] at hP1 hD1
  exact kk H1 locs1 hP1 hD1 hS1
theorem kg_st2 {b : Nat → Nat} {o : Nat} {x0 x1 x2 x3 x4 x5 : FJ} {M : Nat → FI} {x7 : FI} {x8 : Int32} {g : Nat → FI} {i j x : Int32} (X : BX l D k t p s m args meth c cc nL own ret A) (hP : va_P D vwCl [W_Bounds k b o x0 x1 x2 x3 x4 x5 M x7 x8].flatten H) (hD : va_D A [W_Bounds k b o x0 x1 x2 x3 x4 x5 M x7 x8].flatten) (hS : va_S A s.heap H locs) (hrow : vp_in i 24) (hin : vp_in j 4) (hg : gupd M i.toNatClampNeg j.toNatClampNeg x = g) (hdg : decode cc pc = .ok (.iastore, 1))
    (kk : ∀ (H1 : Heap) (locs1 : List Loc), va_P D vwCl [W_Bounds k b o x0 x1 x2 x3 x4 x5 g x7 x8].flatten H1 → va_D A [W_Bounds k b o x0 x1 x2 x3 x4 x5 g x7 x8].flatten → va_S A s.heap H1 locs1 → W p l e R s m args below meth c H1 locs1 0 0 Q (F0 m (pc + 1) ls rest)) : W p l e R s m args below meth c H locs 0 0 Q (F0 m pc ls (.int x :: .int j :: .ref (b (o + 9 + i.toNatClampNeg)) :: rest)) := by
  subst hg
  exact kg_st X hP hD hS hrow hin hdg kk
end KX
/-! Arrays.fill -/
abbrev rm_fill : Room := ({ frames := 0, cells := 0, slots := 0, locals := 0 } : Room)
set_option maxRecDepth 100000 in
set_option maxHeartbeats 4000000 in
theorem w_fillI {p : Program} {l : Launch} {e : Env} {s : State} {m : MethodId} {below : List Frame} {meth : Method} {c : Code} {args : Array Value} {A : Nat → Prop} {D : va_G} {k : Nat → ClassId} {t : Nat → Nat} (X : BX l D k t p s m args meth c cJ7_fill_53178 4 RJ7 none A) (a N : Nat) (x : Int32) (hN : N < 2147483648) : ∀ (n i : Nat) (g : FI) (H : Heap) (locs : List Loc) (ls : Array Slot), i ≤ N → N < i + n → (∀ j, j < i → g j = x) → va_P D vwCl [[(a, .inl (k 0, N, .inl g))]].flatten H → va_D A [[(a, .inl (k 0, N, .inl g))]].flatten → va_S A s.heap H locs → lv_has ls 4 [(0, .ref a), (1, .int x), (2, .int (nI i)), (3, .int (nI N))] → W p l e rm_fill s m args below meth c H locs 0 0 (MQ below (QW D k A none [[(a, .inl (k 0, N, .inl (fun _ => x)))]].flatten) args s 0 0 A) (F0 m 5 ls []) := by
  have hx := X.1.1
  have hb := X.1.2.1
  intro n
  induction n with
  | zero => intro i g H locs ls h1 h2; exact absurd h2 (by omega)
  | succ n ih =>
    intro i g H locs ls hi hn hg hP hD hS hl
    refine lv_iload_n hx hb dJ7_fill_53178_5 rfl (lv_at hl 2 rfl) ?_
    refine lv_iload_n hx hb dJ7_fill_53178_6 rfl (lv_at hl 3 rfl) ?_
    refine lv_icmp_ge (tgt := 20) hx hb dJ7_fill_53178_7 (by decide) (fun hc => ?_) (fun hc => ?_)
    · have e : i = N := by
        have := (nI_leI hN (by omega)).mp hc
        omega
      subst e
      have hP2 : va_P D vwCl [[(a, .inl (k 0, i, .inl (fun _ => x)))]].flatten H := P_setc (ws := [[(a, .inl (k 0, i, .inl g))]].flatten) (q := 0) (e1 := .inl (k 0, i, .inl g)) hP (fun h => by
        show H[a]? = some (vp_cell _ _)
        rw [← cell_i (f := g) (fun j hj => hg j hj)]
        exact h)
      have hD2 : va_D A [[(a, .inl (k 0, i, .inl (fun _ => x)))]].flatten := hD.set (p := 0) (e0 := .inl (k 0, i, .inl g)) rfl
      exact kvret X hP2 hD2 hS dJ7_fill_53178_20
    · have hlt : i < N := by
        rcases Nat.lt_or_ge i N with q | q
        · exact q
        · exact absurd ((nI_leI hN (by omega)).mpr q) hc
      refine lv_aload_n hx hb dJ7_fill_53178_10 rfl (lv_at hl 0 rfl) ?_
      refine lv_iload_n hx hb dJ7_fill_53178_11 rfl (lv_at hl 2 rfl) ?_
      refine lv_iload_n hx hb dJ7_fill_53178_12 rfl (lv_at hl 1 rfl) ?_
      refine kiast (f := g) (n := N) X hP hD hS 0 rfl (vp_in_nI hlt hN) dJ7_fill_53178_13 (fun H locs hP hD hS => ?_)
      rw [nI_clamp (by omega)] at hP hD
      refine lv_iinc (v := nI (i + 1)) (lv' := [(2, .int (nI (i + 1))), (0, .ref a), (1, .int x), (3, .int (nI N))]) hx hb dJ7_fill_53178_14 hl (k := 2) rfl (nI_1 i) (by decide) rfl (fun ls hl => ?_)
      refine lv_goto (tgt := 5) hx hb dJ7_fill_53178_17 (by decide) ?_
      exact ih (i + 1) (upd g i x) H locs ls hlt (by omega) (fun j hj => by
        by_cases q : j = i
        · subst q; exact pk_us
        · rw [pk_un q]; exact hg j (by omega)) hP hD hS (lv_sub hl [1, 2, 0, 3] rfl)
set_option maxRecDepth 100000 in
set_option maxHeartbeats 4000000 in
theorem c_fillI (l : Launch) (D : va_G) (k : Nat → ClassId) (t : Nat → Nat) (a N : Nat) (f : FI) (x : Int32) (hN : N < 2147483648 := by decide) : CT l D k t yJ7_fill_53178 cJ7_fill_53178 4 none rm_fill [.ref a, .int x] [[(a, .inl (k 0, N, .inl f))]].flatten none [[(a, .inl (k 0, N, .inl (fun _ => x)))]].flatten := by
  refine kofW (by decide) (Nat.le_of_ble_eq_true rfl) ?_
  intro p e s m below meth c A ls X hP hD hS hl
  have hx := X.1.1
  have hb := X.1.2.1
  have hl : lv_has ls 4 [(0, .ref a), (1, .int x)] := hl
  refine lv_iconst (v := 0) hx hb dJ7_fill_53178_0 (by decide) ?_
  refine lv_istore_n (lv' := [(2, .int 0), (0, .ref a), (1, .int x)]) hx hb dJ7_fill_53178_1 rfl hl (by decide) rfl (fun ls hl => ?_)
  refine lv_aload_n hx hb dJ7_fill_53178_2 rfl (lv_at hl 1 rfl) ?_
  refine va_alen (v := nI N) hx hb X.2.2.2.1 hP 0 0 (x := (N, .inl f)) rfl rfl rfl dJ7_fill_53178_3 ?_
  refine lv_istore_n (lv' := [(3, .int (nI N)), (2, .int 0), (0, .ref a), (1, .int x)]) hx hb dJ7_fill_53178_4 rfl hl (by decide) rfl (fun ls hl => ?_)
  exact w_fillI X a N x hN (N + 1) 0 f _ _ _ (Nat.zero_le _) (by omega) (fun j hj => absurd hj (Nat.not_lt_zero _)) hP hD hS (lv_sub hl [2, 3, 1, 0] rfl)
set_option maxRecDepth 100000 in
set_option maxHeartbeats 4000000 in
theorem w_fillJ {p : Program} {l : Launch} {e : Env} {s : State} {m : MethodId} {below : List Frame} {meth : Method} {c : Code} {args : Array Value} {A : Nat → Prop} {D : va_G} {k : Nat → ClassId} {t : Nat → Nat} (X : BX l D k t p s m args meth c cJ7_fill_d0a16 5 RJ7 none A) (a N : Nat) (x : Int64) (hN : N < 2147483648) : ∀ (n i : Nat) (g : FJ) (H : Heap) (locs : List Loc) (ls : Array Slot), i ≤ N → N < i + n → (∀ j, j < i → g j = x) → va_P D vwCl [[(a, .inl (k 1, N, .inr (.inl g)))]].flatten H → va_D A [[(a, .inl (k 1, N, .inr (.inl g)))]].flatten → va_S A s.heap H locs → lv_has ls 5 [(0, .ref a), (1, .long x), (3, .int (nI i)), (4, .int (nI N))] → W p l e rm_fill s m args below meth c H locs 0 0 (MQ below (QW D k A none [[(a, .inl (k 1, N, .inr (.inl (fun _ => x))))]].flatten) args s 0 0 A) (F0 m 6 ls []) := by
  have hx := X.1.1
  have hb := X.1.2.1
  intro n
  induction n with
  | zero => intro i g H locs ls h1 h2; exact absurd h2 (by omega)
  | succ n ih =>
    intro i g H locs ls hi hn hg hP hD hS hl
    refine lv_iload_n hx hb dJ7_fill_d0a16_6 rfl (lv_at hl 2 rfl) ?_
    refine lv_iload hx hb dJ7_fill_d0a16_7 (lv_at hl 3 rfl) ?_
    refine lv_icmp_ge (tgt := 22) hx hb dJ7_fill_d0a16_9 (by decide) (fun hc => ?_) (fun hc => ?_)
    · have e : i = N := by
        have := (nI_leI hN (by omega)).mp hc
        omega
      subst e
      have hP2 : va_P D vwCl [[(a, .inl (k 1, i, .inr (.inl (fun _ => x))))]].flatten H := P_setc (ws := [[(a, .inl (k 1, i, .inr (.inl g)))]].flatten) (q := 0) (e1 := .inl (k 1, i, .inr (.inl g))) hP (fun h => by
        show H[a]? = some (vp_cell _ _)
        rw [← cell_l (f := g) (fun j hj => hg j hj)]
        exact h)
      have hD2 : va_D A [[(a, .inl (k 1, i, .inr (.inl (fun _ => x))))]].flatten := hD.set (p := 0) (e0 := .inl (k 1, i, .inr (.inl g))) rfl
      exact kvret X hP2 hD2 hS dJ7_fill_d0a16_22
    · have hlt : i < N := by
        rcases Nat.lt_or_ge i N with q | q
        · exact q
        · exact absurd ((nI_leI hN (by omega)).mpr q) hc
      refine lv_aload_n hx hb dJ7_fill_d0a16_12 rfl (lv_at hl 0 rfl) ?_
      refine lv_iload_n hx hb dJ7_fill_d0a16_13 rfl (lv_at hl 2 rfl) ?_
      refine lv_lload_n hx hb dJ7_fill_d0a16_14 rfl (lv_at hl 1 rfl) ?_
      refine klast (f := g) (n := N) X hP hD hS 0 rfl (vp_in_nI hlt hN) dJ7_fill_d0a16_15 (fun H locs hP hD hS => ?_)
      rw [nI_clamp (by omega)] at hP hD
      refine lv_iinc (v := nI (i + 1)) (lv' := [(3, .int (nI (i + 1))), (0, .ref a), (1, .long x), (4, .int (nI N))]) hx hb dJ7_fill_d0a16_16 hl (k := 2) rfl (nI_1 i) (by decide) rfl (fun ls hl => ?_)
      refine lv_goto (tgt := 6) hx hb dJ7_fill_d0a16_19 (by decide) ?_
      exact ih (i + 1) (vp_updL g i x) H locs ls hlt (by omega) (fun j hj => by
        by_cases q : j = i
        · subst q; exact pk_uLs
        · rw [pk_uLn q]; exact hg j (by omega)) hP hD hS (lv_sub hl [1, 2, 0, 3] rfl)
set_option maxRecDepth 100000 in
set_option maxHeartbeats 4000000 in
theorem c_fillJ (l : Launch) (D : va_G) (k : Nat → ClassId) (t : Nat → Nat) (a N : Nat) (f : FJ) (x : Int64) (hN : N < 2147483648 := by decide) : CT l D k t yJ7_fill_d0a16 cJ7_fill_d0a16 5 none rm_fill [.ref a, .long x] [[(a, .inl (k 1, N, .inr (.inl f)))]].flatten none [[(a, .inl (k 1, N, .inr (.inl (fun _ => x))))]].flatten := by
  refine kofW (by decide) (Nat.le_of_ble_eq_true rfl) ?_
  intro p e s m below meth c A ls X hP hD hS hl
  have hx := X.1.1
  have hb := X.1.2.1
  have hl : lv_has ls 5 [(0, .ref a), (1, .long x)] := hl
  refine lv_iconst (v := 0) hx hb dJ7_fill_d0a16_0 (by decide) ?_
  refine lv_istore_n (lv' := [(3, .int 0), (0, .ref a), (1, .long x)]) hx hb dJ7_fill_d0a16_1 rfl hl (by decide) rfl (fun ls hl => ?_)
  refine lv_aload_n hx hb dJ7_fill_d0a16_2 rfl (lv_at hl 1 rfl) ?_
  refine va_alen (v := nI N) hx hb X.2.2.2.1 hP 0 1 (x := (N, .inr (.inl f))) rfl rfl rfl dJ7_fill_d0a16_3 ?_
  refine lv_istore (lv' := [(4, .int (nI N)), (3, .int 0), (0, .ref a), (1, .long x)]) hx hb dJ7_fill_d0a16_4 hl (by decide) rfl (fun ls hl => ?_)
  exact w_fillJ X a N x hN (N + 1) 0 f _ _ _ (Nat.zero_le _) (by omega) (fun j hj => absurd hj (Nat.not_lt_zero _)) hP hD hS (lv_sub hl [2, 3, 1, 0] rfl)
/-! State.braid -/
theorem ff_X5_25 : FF RX5 25 5 3 := ⟨(RX5, TX5, 5), rfl, by decide, inlX5, (wm_r2 (List.mem_of_getElem? (i := 17) rfl)), rfl⟩
theorem ff_X5_29 : FF RX5 29 5 4 := ⟨(RX5, TX5, 5), rfl, by decide, inlX5, (wm_r2 (List.mem_of_getElem? (i := 18) rfl)), rfl⟩
abbrev rm_State_braid : Room := ({ frames := 0, cells := 0, slots := 0, locals := 0 } : Room)


set_option maxRecDepth 100000 in
set_option maxHeartbeats 4000000 in
theorem c_State_braid_t (l : Launch) (D : va_G) (k : Nat → ClassId) (t : Nat → Nat) (b : Nat → Nat) (o : Nat) (x_form_counters : Int32) (x_form_bits : Int32) (x_form_functions : Int32) (x_form_countersAbove : Int32) (x_form_functionsAbove : Int32) (x_form_rounds : Int32) (x_flows : Int32) (x_keys : FI) (x_first_truths : FJ) (x_first_rests : FI) (x_first_marks : FI) (x_first_numbers : FJ) (x_second_truths : FJ) (x_second_rests : FI) (x_second_marks : FI) (x_second_numbers : FJ) (x : Int32) (h0 : x = 0) : CT l D k t yX5_braid cX5_braid 2 (some (.object "CounterBraid$Braid")) rm_State_braid [.ref (b o), .int x] [W_State k b o x_form_counters x_form_bits x_form_functions x_form_countersAbove x_form_functionsAbove x_form_rounds x_flows x_keys x_first_truths x_first_rests x_first_marks x_first_numbers x_second_truths x_second_rests x_second_marks x_second_numbers].flatten (some (.ref (b (o + 3)))) [W_State k b o x_form_counters x_form_bits x_form_functions x_form_countersAbove x_form_functionsAbove x_form_rounds x_flows x_keys x_first_truths x_first_rests x_first_marks x_first_numbers x_second_truths x_second_rests x_second_marks x_second_numbers].flatten := by
  refine kofW (by decide) (Nat.le_of_ble_eq_true rfl) ?_
  intro p e s m below meth c A ls X hP hD hS hl
  have hx := X.1.1
  have hb := X.1.2.1
  have hl : lv_has ls 2 [(0, .ref (b o)), (1, .int x)] := hl
  refine lv_iload_n hx hb dX5_braid_0 rfl (lv_at hl 1 rfl) ?_
  refine lv_if_ne (tgt := 11) hx hb dX5_braid_1 (by decide) (fun hc => absurd h0 hc) (fun hc => ?_)
  refine lv_aload_n hx hb dX5_braid_4 rfl (lv_at hl 0 rfl) ?_
  refine kget (v := .ref (b (o + 3))) X hP ff_X5_25 0 rfl rfl dX5_braid_5 ?_
  refine lv_goto (tgt := 15) hx hb dX5_braid_8 (by decide) ?_
  exact karet X hP hD hS dX5_braid_15
set_option maxRecDepth 100000 in
set_option maxHeartbeats 4000000 in
theorem c_State_braid_e (l : Launch) (D : va_G) (k : Nat → ClassId) (t : Nat → Nat) (b : Nat → Nat) (o : Nat) (x_form_counters : Int32) (x_form_bits : Int32) (x_form_functions : Int32) (x_form_countersAbove : Int32) (x_form_functionsAbove : Int32) (x_form_rounds : Int32) (x_flows : Int32) (x_keys : FI) (x_first_truths : FJ) (x_first_rests : FI) (x_first_marks : FI) (x_first_numbers : FJ) (x_second_truths : FJ) (x_second_rests : FI) (x_second_marks : FI) (x_second_numbers : FJ) (x : Int32) (h0 : ¬ x = 0) : CT l D k t yX5_braid cX5_braid 2 (some (.object "CounterBraid$Braid")) rm_State_braid [.ref (b o), .int x] [W_State k b o x_form_counters x_form_bits x_form_functions x_form_countersAbove x_form_functionsAbove x_form_rounds x_flows x_keys x_first_truths x_first_rests x_first_marks x_first_numbers x_second_truths x_second_rests x_second_marks x_second_numbers].flatten (some (.ref (b (o + 8)))) [W_State k b o x_form_counters x_form_bits x_form_functions x_form_countersAbove x_form_functionsAbove x_form_rounds x_flows x_keys x_first_truths x_first_rests x_first_marks x_first_numbers x_second_truths x_second_rests x_second_marks x_second_numbers].flatten := by
  refine kofW (by decide) (Nat.le_of_ble_eq_true rfl) ?_
  intro p e s m below meth c A ls X hP hD hS hl
  have hx := X.1.1
  have hb := X.1.2.1
  have hl : lv_has ls 2 [(0, .ref (b o)), (1, .int x)] := hl
  refine lv_iload_n hx hb dX5_braid_0 rfl (lv_at hl 1 rfl) ?_
  refine lv_if_ne (tgt := 11) hx hb dX5_braid_1 (by decide) (fun hc => ?_) (fun hc => absurd hc h0)
  refine lv_aload_n hx hb dX5_braid_11 rfl (lv_at hl 0 rfl) ?_
  refine kget (v := .ref (b (o + 8))) X hP ff_X5_29 0 rfl rfl dX5_braid_12 ?_
  exact karet X hP hD hS dX5_braid_15
