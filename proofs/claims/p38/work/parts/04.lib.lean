/-! the words of this claim in one list; one shape of contract for every method that makes nothing -/
abbrev TYS (k : Nat → ClassId) : List (ClassId × FieldType) := [(k 0, .int), (k 1, .long), (k 2, .object RX5), (k 3, .array .int)]
def sv0 : Nat → Int32 := fun j => if j = 0 then 41 else if j = 1 then 73 else if j = 2 then 97 else 131
def sv1 : Nat → Int32 := fun j => if j = 0 then 5 else if j = 1 then 17 else if j = 2 then 29 else 53
def sv2 : Nat → Int32 := fun j => if j = 0 then 19 else if j = 1 then 37 else 61
def sv3 : Nat → Int32 := fun j => if j = 0 then 3 else if j = 1 then 11 else 23
abbrev nestM : List (String × Nat × MethodName × String) := [(RX7, 11, yX5_init, RX7), (RX7, 25, yX6_init, RX7), (RX7, 32, yX2_init, RX7), (RX0, 43, yX7_isIn, RX7), (RX1, 54, yX7_isIn, RX7), (RX2, 11, yX0_init, RX7), (RX4, 17, yX5_init, RX7), (RX5, 11, yX3_init, RX7), (RX5, 24, yX1_init, RX7), (RX5, 74, yX7_isFrom, RX7), (RX5, 85, yX7_isIn, RX7), (RX6, 49, yX7_isFrom, RX7)]
abbrev nestF : List (Nat × String) := [(30, "FLOW_FACTORS"), (34, "FLOW_OFFSETS"), (41, "COUNTER_FACTORS"), (44, "COUNTER_OFFSETS")]
def envZ (n : String) (q N : Nat) (f : Nat → Int32) (A : Nat → Prop) (U : State) (H : Heap) : Prop := va_Z RX7 n "[I" (.ref q) A U H ∧ va_T .int q N (fun j => .int (f j)) A U H
theorem envZ.go {n : String} {q N : Nat} {f : Nat → Int32} {A B : Nat → Prop} {s U : State} {H H1 : Heap} (h : envZ n q N f A s H) (hvm : s.vm.Alike U.vm) (hq : ∀ a : Nat, a < H.size → ¬ A a → H1[a]? = H[a]?) (hAB : ∀ q, B q → A q) : envZ n q N f B U H1 :=
  ⟨((h.1.moved hvm).kept hq).narrow hAB, ((h.2.moved hvm).kept hq).narrow hAB⟩
def ENV (t : Nat → Nat) (A : Nat → Prop) (U : State) (H : Heap) : Prop := (∀ q ∈ nestM, va_Nw (.methodLinkNest q.1 q.2.1 q.2.2.1 q.2.2.2) U) ∧ (∀ q ∈ nestF, va_Nw (.fieldLinkNest RX3 q.1 RX7 q.2 "[I" RX7) U) ∧
  envZ "FLOW_FACTORS" (t 0) 4 sv0 A U H ∧ envZ "FLOW_OFFSETS" (t 1) 4 sv1 A U H ∧ envZ "COUNTER_FACTORS" (t 2) 3 sv2 A U H ∧ envZ "COUNTER_OFFSETS" (t 3) 3 sv3 A U H
theorem ENV.go {t : Nat → Nat} {A B : Nat → Prop} {s U : State} {H H1 : Heap} (h : ENV t A s H) (hW : s.WarmedH U.vm) (hq : ∀ a : Nat, a < H.size → ¬ A a → H1[a]? = H[a]?) (hAB : ∀ q, B q → A q) : ENV t B U H1 := by
  obtain ⟨h1, h2, h3, h4, h5, h6⟩ := h
  exact ⟨fun q hq' => va_Nw.warmM hW (h1 q hq'), fun q hq' => va_Nw.warmF hW (h2 q hq'), h3.go hW.alike hq hAB, h4.go hW.alike hq hAB, h5.go hW.alike hq hAB, h6.go hW.alike hq hAB⟩
theorem ENV.same {t : Nat → Nat} {A : Nat → Prop} {s U : State} {H : Heap} (h : ENV t A s H) (e : s.vm = U.vm) : ENV t A U H := by
  obtain ⟨h1, h2, h3, h4, h5, h6⟩ := h
  have al : s.vm.Alike U.vm := by rw [e]; exact Vm.Alike.refl _
  exact ⟨fun q hq' => va_Nw.same rfl e (h1 q hq'), fun q hq' => va_Nw.same rfl e (h2 q hq'), h3.go al (fun _ _ _ => rfl) (fun _ h => h), h4.go al (fun _ _ _ => rfl) (fun _ h => h), h5.go al (fun _ _ _ => rfl) (fun _ h => h), h6.go al (fun _ _ _ => rfl) (fun _ h => h)⟩
theorem P_mem {D : va_G} {cl : List vw_C} {ws : va_W} {H : Heap} : va_P D cl ws H ↔ ∀ q ∈ ws, va_at D cl q H :=
  ⟨fun h q hq => by obtain ⟨i, hi⟩ := List.getElem?_of_mem hq; exact h i q hi, fun h k q hk => h q (List.mem_of_getElem? hk)⟩
theorem D_nd {A : Nat → Prop} {ws : va_W} : va_D A ws ↔ (ws.map (·.1)).Nodup ∧ ∀ q ∈ ws, A q.1 := by
  constructor
  · intro h
    refine ⟨?_, fun q hq => ?_⟩
    · refine List.pairwise_iff_getElem.mpr ?_
      intro i j hi hj hij e
      rw [List.length_map] at hi hj
      rw [List.getElem_map, List.getElem_map] at e
      have := h.1 i j _ _ (List.getElem?_eq_getElem hi) (List.getElem?_eq_getElem hj) e
      omega
    · obtain ⟨i, hi⟩ := List.getElem?_of_mem hq
      exact h.2 i q hi
  · intro h
    have hnd := List.pairwise_iff_getElem.mp h.1
    have key : ∀ (i j : Nat) (p q : Nat × va_E), ws[i]? = some p → ws[j]? = some q → p.1 = q.1 → ¬ i < j := by
      intro i j p q hi hj e c
      obtain ⟨li, ei⟩ := List.getElem?_eq_some_iff.mp hi
      obtain ⟨lj, ej⟩ := List.getElem?_eq_some_iff.mp hj
      refine hnd i j (by rw [List.length_map]; exact li) (by rw [List.length_map]; exact lj) c ?_
      rw [List.getElem_map, List.getElem_map, ei, ej]
      exact e
    refine ⟨fun i j p q hi hj e => ?_, fun k q hk => h.2 q (List.mem_of_getElem? hk)⟩
    have h1 := key i j p q hi hj e
    have h2 := key j i q p hj hi e.symm
    omega
theorem P_perm {D : va_G} {cl : List vw_C} {ws ws' : va_W} {H : Heap} (h : va_P D cl ws H) (hp : ws'.Perm ws) : va_P D cl ws' H := P_mem.mpr fun q hq => P_mem.mp h q (hp.mem_iff.mp hq)
theorem D_perm {A : Nat → Prop} {ws ws' : va_W} (h : va_D A ws) (hp : ws'.Perm ws) : va_D A ws' := by
  have h := D_nd.mp h
  exact D_nd.mpr ⟨(hp.map _).nodup_iff.mpr h.1, fun q hq => h.2 q (hp.mem_iff.mp hq)⟩
theorem idx_perm {α : Type} {bs br : List α} {is : List Nat} (h : is.map (fun i => bs[i]?) = br.map some) (hp0 : is.isPerm (List.range bs.length) = true) : br.Perm bs := by
  have hp : is.Perm (List.range bs.length) := List.isPerm_iff.mp hp0
  have h1 : (br.map some).Perm ((List.range bs.length).map (fun i => bs[i]?)) := by rw [← h]; exact hp.map _
  have h2 : (List.range bs.length).map (fun i => bs[i]?) = bs.map some := by
    apply List.ext_getElem?
    intro i
    rw [List.getElem?_map, List.getElem?_map]
    by_cases hi : i < bs.length
    · rw [List.getElem?_range hi, List.getElem?_eq_getElem hi]
      show some (bs[i]?) = some (some bs[i])
      rw [List.getElem?_eq_getElem hi]
    · rw [List.getElem?_eq_none (by simpa using hi), List.getElem?_eq_none (by simpa using hi)]; rfl
  rw [h2] at h1
  have h3 := h1.filterMap id
  simpa [List.filterMap_map] using h3
/-- the blocks of a world in another order -/
theorem B_perm {D : va_G} {A : Nat → Prop} {bs br : List va_W} {H : Heap} (hP : va_P D vwCl bs.flatten H) (hD : va_D A bs.flatten) (is : List Nat) (h : is.map (fun i => bs[i]?) = br.map some) (hp : is.isPerm (List.range bs.length) = true) : va_P D vwCl br.flatten H ∧ va_D A br.flatten :=
  ⟨P_perm hP (idx_perm h hp).flatten, D_perm hD (idx_perm h hp).flatten⟩
/-- a method's start: its world, nothing else -/
def PW (D : va_G) (k : Nat → ClassId) (t : Nat → Nat) (ws : va_W) (sz : Nat) : State → Prop := fun U => U.heap.size = sz ∧ va_P D vwCl ws U.heap ∧ va_K D vwCl (TYS k) U ∧ va_D (fun _ => True) ws ∧ ENV t (va_A ws sz) U U.heap
/-- its end: the answer, the world then -/
def QW (D : va_G) (k : Nat → ClassId) (A : Nat → Prop) (rv : Option Value) (ws : va_W) : Array Value → State → Outcome → State → Prop := fun _ st oc t => oc = .returned rv ∧ va_P D vwCl ws t.heap ∧ va_K D vwCl (TYS k) t ∧ va_D A ws ∧ va_F A st t
def CT (l : Launch) (D : va_G) (k : Nat → ClassId) (t : Nat → Nat) (y : MethodName) (cc : ByteArray) (maxL : Nat) (ret : Option FieldType) (rm : Room) (av : List Value) (ws : va_W) (rv : Option Value) (ws' : va_W) : Prop :=
  ∀ sz : Nat, Met l y (.code y cc maxL ret :: ALL) rm (va_Pc av (PW D k t ws sz)) (QW D k (va_A ws sz) rv ws') 0 0 (va_A ws sz)
theorem PW_blind {D : va_G} {k : Nat → ClassId} {t : Nat → Nat} {av : List Value} {ws : va_W} {sz : Nat} : FrameBlind (va_Pc av (PW D k t ws sz)) := by
  intro a U g mk q
  obtain ⟨q0, q1, qP, qK, qD, qE⟩ := q
  exact ⟨q0, q1, qP, va_K.moved (u := U) (U := U.calling g mk a) (Vm.Alike.refl U.vm) qK, qD, qE.same rfl⟩
/-- what every row of a walk needs of the start -/
abbrev BX (l : Launch) (D : va_G) (k : Nat → ClassId) (t : Nat → Nat) (p : Program) (s : State) (m : MethodId) (args : Array Value) (meth : Method) (c : Code) (cc : ByteArray) (nL : Nat) (own : String) (ret : Option FieldType) (A : Nat → Prop) : Prop :=
  CallFix p m c cc nL s args ALL own ∧ meth.sig.returnType = ret ∧ meth.locks = false ∧ va_K D vwCl (TYS k) s ∧ (∀ q : Nat, s.heap.size ≤ q → A q) ∧ ENV t A s s.heap
theorem kofW {l : Launch} {D : va_G} {k : Nat → ClassId} {t : Nat → Nat} {y : MethodName} {cc : ByteArray} {maxL : Nat} {ret : Option FieldType} {rm : Room} {av : List Value} {ws : va_W} {rv : Option Value} {ws' : va_W} (hy : plainName y.cls = true) (hav : (lg_sl av).length ≤ maxL)
    (body : ∀ (p : Program) (e : Env) (s : State) (m : MethodId) (below : List Frame) (meth : Method) (c : Code) (A : Nat → Prop) (ls : Array Slot), BX l D k t p s m av.toArray meth c cc maxL y.cls ret A → va_P D vwCl ws s.heap → va_D A ws → va_S A s.heap s.heap [] → lv_has ls maxL (lv_args 0 av) →
      W p l e rm s m av.toArray below meth c s.heap [] 0 0 (MQ below (QW D k A rv ws') av.toArray s 0 0 A) (F0 m 0 ls [])) : CT l D k t y cc maxL ret rm av ws rv ws' := by
  intro sz
  refine Met.ofW (cc := cc) (maxL := maxL) (ret := ret) hy rfl ?_
  intro p e s m args below meth c s₁ B hml hv
  obtain ⟨rfl, hsz, hP, hK, hD0, hE⟩ := hv
  subst hsz
  have hts := atoms_spec (ws := .code y cc maxL ret :: ALL) B.pre
  have hl := lv_entry av (n := maxL) hav
  rw [lg_entry_eq]
  exact body p e s m below meth c _ _ ⟨⟨B.exec, B.bytes, hml, findClass_of_methodNamed B.named, fun w hw => hts w (List.mem_cons_of_mem _ hw)⟩, B.returns, B.notSynchronized, hK, fun q h => Or.inr h, hE⟩ hP hD0.self va_S.rf hl
section KW
variable {p : Program} {l : Launch} {e : Env} {R : Room} {s : State} {m : MethodId} {args : Array Value} {below : List Frame} {meth : Method} {c : Code} {H : Heap} {locs : List Loc} {Q : State → Prop}
variable {D : va_G} {k : Nat → ClassId} {t : Nat → Nat} {cc : ByteArray} {nL pc : Nat} {own : String} {ret : Option FieldType} {A : Nat → Prop} {ls : Array Slot} {rest st0 : List Value} {ws : va_W} {lv : List (Nat × Value)}
theorem kiret {v : Int32} (X : BX l D k t p s m args meth c cc nL own (some .int) A) (hP : va_P D vwCl ws H) (hD : va_D A ws) (hS : va_S A s.heap H locs) (hdg : decode cc pc = .ok (.ireturn, 1)) : W p l e R s m args below meth c H locs 0 0 (MQ below (QW D k A (some (.int v)) ws) args s 0 0 A) (F0 m pc ls [.int v]) :=
  W.iret X.1.1 X.1.2.1 X.2.1 (fun t ht hW => ⟨rfl, by rw [ht]; exact hP, va_K.moved hW.alike X.2.2.2.1, hD, hS.F ht⟩) hS.2.2 hdg X.2.2.1
theorem kzret {v : Int32} (X : BX l D k t p s m args meth c cc nL own (some .boolean) A) (hP : va_P D vwCl ws H) (hD : va_D A ws) (hS : va_S A s.heap H locs) (hn : narrow .boolean (.int v) = .int v) (hdg : decode cc pc = .ok (.ireturn, 1)) : W p l e R s m args below meth c H locs 0 0 (MQ below (QW D k A (some (.int v)) ws) args s 0 0 A) (F0 m pc ls [.int v]) :=
  W.zret X.1.1 X.1.2.1 X.2.1 hn (fun t ht hW => ⟨rfl, by rw [ht]; exact hP, va_K.moved hW.alike X.2.2.2.1, hD, hS.F ht⟩) hS.2.2 hdg X.2.2.1
theorem klret {v : Int64} (X : BX l D k t p s m args meth c cc nL own (some .long) A) (hP : va_P D vwCl ws H) (hD : va_D A ws) (hS : va_S A s.heap H locs) (hdg : decode cc pc = .ok (.lreturn, 1)) : W p l e R s m args below meth c H locs 0 0 (MQ below (QW D k A (some (.long v)) ws) args s 0 0 A) (F0 m pc ls [.long v]) :=
  W.lret X.1.1 X.1.2.1 X.2.1 (fun t ht hW => ⟨rfl, by rw [ht]; exact hP, va_K.moved hW.alike X.2.2.2.1, hD, hS.F ht⟩) hS.2.2 hdg X.2.2.1
theorem kvret (X : BX l D k t p s m args meth c cc nL own none A) (hP : va_P D vwCl ws H) (hD : va_D A ws) (hS : va_S A s.heap H locs) (hdg : decode cc pc = .ok (.return_, 1)) : W p l e R s m args below meth c H locs 0 0 (MQ below (QW D k A none ws) args s 0 0 A) (F0 m pc ls []) :=
  W.vret X.1.1 X.1.2.1 X.2.1 (fun t ht hW => ⟨rfl, by rw [ht]; exact hP, va_K.moved hW.alike X.2.2.2.1, hD, hS.F ht⟩) hS.2.2 hdg X.2.2.1
/-- a field's words, by the number that its row has in the class file's pool -/
def FF (own : String) (index ci kf : Nat) : Prop := ∃ r : vw_C, vwCl[ci]? = some r ∧ kf < r.2.2 ∧ (∀ w ∈ u_ws r.1 r.2.1 r.2.2, w ∈ ALL) ∧ Cond.fieldLink own index r.1 (r.2.1 kf).2.1 (r.2.1 kf).2.2.1 ∈ ALL ∧ (r.2.1 kf).1 = r.1
def FP (own : String) (index ci kf : Nat) (ty : FieldType) : Prop := ∃ r : vw_C, vwCl[ci]? = some r ∧ kf < r.2.2 ∧ (∀ w ∈ u_ws r.1 r.2.1 r.2.2, w ∈ ALL) ∧ Cond.fieldLink own index r.1 (r.2.1 kf).2.1 (r.2.1 kf).2.2.1 ∈ ALL ∧ (r.2.1 kf).1 = r.1 ∧ (r.2.1 kf).2.2.2 = false ∧ parseFieldDescriptor (r.2.1 kf).2.2.1 = some ty ∧ (∃ ty0 : Nat → FieldType, ∀ k, k < r.2.2 → parseFieldDescriptor (r.2.1 k).2.2.1 = some (ty0 k)) ∧ (∀ a, a < r.2.2 → ∀ b, b < r.2.2 → a ≠ b → (r.2.1 a).2.1 ≠ (r.2.1 b).2.1)
theorem kget {index ci kf : Nat} (X : BX l D k t p s m args meth c cc nL own ret A) (hP : va_P D vwCl ws H) (ff : FF own index ci kf) (q0 : Nat) {a : Nat} {fs : List Value} {v : Value} (he : ws[q0]? = some (a, .inr (ci, fs))) (hv : fs[kf]? = some v) (hdg : decode cc pc = .ok (.getfield index, 3))
    (kk : W p l e R s m args below meth c H locs 0 0 Q (F0 m (pc + 3) ls (v :: rest))) : W p l e R s m args below meth c H locs 0 0 Q (F0 m pc ls (.ref a :: rest)) := by
  obtain ⟨⟨C, T, N⟩, h1, h2, h3, h4, h5⟩ := ff
  exact va_get X.1.1 X.1.2.1 X.1.2.2.2.2 h3 X.1.2.2.2.1 X.2.2.2.1 hP q0 he h1 kf h2 (X.1.2.2.2.2 _ h4) (fun x hx => by rw [h5] at hx; exact hx) hv hdg kk
theorem kput {index ci kf : Nat} {ty : FieldType} {v : Value} (X : BX l D k t p s m args meth c cc nL own ret A) (hP : va_P D vwCl ws H) (hD : va_D A ws) (hS : va_S A s.heap H locs) (ff : FP own index ci kf ty) (q0 : Nat) {a : Nat} {fs : List Value} (he : ws[q0]? = some (a, .inr (ci, fs))) (hn : narrow ty v = v) (hfit : fits ty v = true) (hl : kf < fs.length) (hdg : decode cc pc = .ok (.putfield index, 3))
    (kk : ∀ (H1 : Heap) (locs1 : List Loc), va_P D vwCl (ws.set q0 (a, .inr (ci, fs.set kf v))) H1 → va_D A (ws.set q0 (a, .inr (ci, fs.set kf v))) → va_S A s.heap H1 locs1 → W p l e R s m args below meth c H1 locs1 0 0 Q (F0 m (pc + 3) ls rest)) : W p l e R s m args below meth c H locs 0 0 Q (F0 m pc ls (v :: .ref a :: rest)) := by
  obtain ⟨⟨C, T, N⟩, h1, h2, h3, h4, h5, h6, h7, ⟨ty0, h8⟩, h9⟩ := ff
  exact va_put X.1.1 X.1.2.1 X.1.2.2.2.2 h3 ty0 h8 h9 X.1.2.2.2.1 X.2.2.2.1 hP hD hS q0 he h1 kf h2 (X.1.2.2.2.2 _ h4) (fun x hx => by rw [h5] at hx; exact hx) h6 h7 hn hfit hl hdg kk
theorem kputi {index ci kf : Nat} {v : Int32} (X : BX l D k t p s m args meth c cc nL own ret A) (hP : va_P D vwCl ws H) (hD : va_D A ws) (hS : va_S A s.heap H locs) (ff : FP own index ci kf .int) (q0 : Nat) {a : Nat} {fs : List Value} (he : ws[q0]? = some (a, .inr (ci, fs))) (hl : kf < fs.length) (hdg : decode cc pc = .ok (.putfield index, 3))
    (kk : ∀ (H1 : Heap) (locs1 : List Loc), va_P D vwCl (ws.set q0 (a, .inr (ci, fs.set kf (.int v)))) H1 → va_D A (ws.set q0 (a, .inr (ci, fs.set kf (.int v)))) → va_S A s.heap H1 locs1 → W p l e R s m args below meth c H1 locs1 0 0 Q (F0 m (pc + 3) ls rest)) : W p l e R s m args below meth c H locs 0 0 Q (F0 m pc ls (.int v :: .ref a :: rest)) := kput X hP hD hS ff q0 he rfl rfl hl hdg kk
theorem kputl {index ci kf : Nat} {v : Int64} (X : BX l D k t p s m args meth c cc nL own ret A) (hP : va_P D vwCl ws H) (hD : va_D A ws) (hS : va_S A s.heap H locs) (ff : FP own index ci kf .long) (q0 : Nat) {a : Nat} {fs : List Value} (he : ws[q0]? = some (a, .inr (ci, fs))) (hl : kf < fs.length) (hdg : decode cc pc = .ok (.putfield index, 3))
    (kk : ∀ (H1 : Heap) (locs1 : List Loc), va_P D vwCl (ws.set q0 (a, .inr (ci, fs.set kf (.long v)))) H1 → va_D A (ws.set q0 (a, .inr (ci, fs.set kf (.long v)))) → va_S A s.heap H1 locs1 → W p l e R s m args below meth c H1 locs1 0 0 Q (F0 m (pc + 3) ls rest)) : W p l e R s m args below meth c H locs 0 0 Q (F0 m pc ls (.long v :: .ref a :: rest)) := kput X hP hD hS ff q0 he rfl rfl hl hdg kk
theorem kiald (X : BX l D k t p s m args meth c cc nL own ret A) (hP : va_P D vwCl ws H) (q0 : Nat) {a n : Nat} {f : Nat → Int32} (ha : ws[q0]? = some (a, .inl (k 0, n, .inl f))) {i : Int32} (hin : vp_in i n) (hdg : decode cc pc = .ok (.iaload, 1))
    (kk : W p l e R s m args below meth c H locs 0 0 Q (F0 m (pc + 1) ls (.int (f i.toNatClampNeg) :: rest))) : W p l e R s m args below meth c H locs 0 0 Q (F0 m pc ls (.int i :: .ref a :: rest)) := va_iald X.1.1 X.1.2.1 X.2.2.2.1 hP q0 0 ha rfl hin hdg kk
theorem klald (X : BX l D k t p s m args meth c cc nL own ret A) (hP : va_P D vwCl ws H) (q0 : Nat) {a n : Nat} {f : Nat → Int64} (ha : ws[q0]? = some (a, .inl (k 1, n, .inr (.inl f)))) {i : Int32} (hin : vp_in i n) (hdg : decode cc pc = .ok (.laload, 1))
    (kk : W p l e R s m args below meth c H locs 0 0 Q (F0 m (pc + 1) ls (.long (f i.toNatClampNeg) :: rest))) : W p l e R s m args below meth c H locs 0 0 Q (F0 m pc ls (.int i :: .ref a :: rest)) := va_lald X.1.1 X.1.2.1 X.2.2.2.1 hP q0 1 ha rfl hin hdg kk
theorem kiast (X : BX l D k t p s m args meth c cc nL own ret A) (hP : va_P D vwCl ws H) (hD : va_D A ws) (hS : va_S A s.heap H locs) (q0 : Nat) {a n : Nat} {f : Nat → Int32} (ha : ws[q0]? = some (a, .inl (k 0, n, .inl f))) {i x : Int32} (hin : vp_in i n) (hdg : decode cc pc = .ok (.iastore, 1))
    (kk : ∀ (H1 : Heap) (locs1 : List Loc), va_P D vwCl (ws.set q0 (a, .inl (k 0, n, .inl (upd f i.toNatClampNeg x)))) H1 → va_D A (ws.set q0 (a, .inl (k 0, n, .inl (upd f i.toNatClampNeg x)))) → va_S A s.heap H1 locs1 → W p l e R s m args below meth c H1 locs1 0 0 Q (F0 m (pc + 1) ls rest)) : W p l e R s m args below meth c H locs 0 0 Q (F0 m pc ls (.int x :: .int i :: .ref a :: rest)) := va_iast X.1.1 X.1.2.1 X.2.2.2.1 hP hD hS q0 0 ha rfl hin hdg kk
theorem klast (X : BX l D k t p s m args meth c cc nL own ret A) (hP : va_P D vwCl ws H) (hD : va_D A ws) (hS : va_S A s.heap H locs) (q0 : Nat) {a n : Nat} {f : Nat → Int64} (ha : ws[q0]? = some (a, .inl (k 1, n, .inr (.inl f)))) {i : Int32} {x : Int64} (hin : vp_in i n) (hdg : decode cc pc = .ok (.lastore, 1))
    (kk : ∀ (H1 : Heap) (locs1 : List Loc), va_P D vwCl (ws.set q0 (a, .inl (k 1, n, .inr (.inl (vp_updL f i.toNatClampNeg x))))) H1 → va_D A (ws.set q0 (a, .inl (k 1, n, .inr (.inl (vp_updL f i.toNatClampNeg x))))) → va_S A s.heap H1 locs1 → W p l e R s m args below meth c H1 locs1 0 0 Q (F0 m (pc + 1) ls rest)) : W p l e R s m args below meth c H locs 0 0 Q (F0 m pc ls (.long x :: .int i :: .ref a :: rest)) := va_last X.1.1 X.1.2.1 X.2.2.2.1 hP hD hS q0 1 ha rfl hin hdg kk
theorem kiast2 (X : BX l D k t p s m args meth c cc nL own ret A) (hP : va_P D vwCl ws H) (hD : va_D A ws) (hS : va_S A s.heap H locs) (q0 : Nat) {a n : Nat} {f g : Nat → Int32} (ha : ws[q0]? = some (a, .inl (k 0, n, .inl f))) {i x : Int32} (hin : vp_in i n) (hg : upd f i.toNatClampNeg x = g) (hdg : decode cc pc = .ok (.iastore, 1))
    (kk : ∀ (H1 : Heap) (locs1 : List Loc), va_P D vwCl (ws.set q0 (a, .inl (k 0, n, .inl g))) H1 → va_D A (ws.set q0 (a, .inl (k 0, n, .inl g))) → va_S A s.heap H1 locs1 → W p l e R s m args below meth c H1 locs1 0 0 Q (F0 m (pc + 1) ls rest)) : W p l e R s m args below meth c H locs 0 0 Q (F0 m pc ls (.int x :: .int i :: .ref a :: rest)) := by
  subst hg
  exact kiast X hP hD hS q0 ha hin hdg kk
theorem klast2 (X : BX l D k t p s m args meth c cc nL own ret A) (hP : va_P D vwCl ws H) (hD : va_D A ws) (hS : va_S A s.heap H locs) (q0 : Nat) {a n : Nat} {f g : Nat → Int64} (ha : ws[q0]? = some (a, .inl (k 1, n, .inr (.inl f)))) {i : Int32} {x : Int64} (hin : vp_in i n) (hg : vp_updL f i.toNatClampNeg x = g) (hdg : decode cc pc = .ok (.lastore, 1))
    (kk : ∀ (H1 : Heap) (locs1 : List Loc), va_P D vwCl (ws.set q0 (a, .inl (k 1, n, .inr (.inl g)))) H1 → va_D A (ws.set q0 (a, .inl (k 1, n, .inr (.inl g)))) → va_S A s.heap H1 locs1 → W p l e R s m args below meth c H1 locs1 0 0 Q (F0 m (pc + 1) ls rest)) : W p l e R s m args below meth c H locs 0 0 Q (F0 m pc ls (.long x :: .int i :: .ref a :: rest)) := by
  subst hg
  exact klast X hP hD hS q0 ha hin hdg kk
/-- behind a call: the caller's other blocks, and the callee's as it left them -/
theorem kfin {bs bc br bc' : List va_W} {rv : Option Value} {a : Array Value} (X : BX l D k t p s m args meth c cc nL own ret A) (hP : va_P D vwCl bs.flatten H) (hD : va_D A bs.flatten) (hS : va_S A s.heap H locs) (isR isC : List Nat) (hi : (isR ++ isC).map (fun i => bs[i]?) = (br ++ bc).map some) (hp : (isR ++ isC).isPerm (List.range bs.length) = true)
    (hr : va_Run p l e R s m args below meth c H locs 0 0 0 0 (F0 m pc ls st0) rest (QW D k (va_A bc.flatten H.size) rv bc'.flatten a) (va_A bc.flatten H.size))
    (kk : ∀ (H1 : Heap) (locs1 : List Loc), va_P D vwCl (br ++ bc').flatten H1 → va_D A (br ++ bc').flatten → va_S A s.heap H1 locs1 → W p l e R s m args below meth c H1 locs1 0 0 Q (F0 m (pc + 3) ls (rv.toList ++ rest))) : W p l e R s m args below meth c H locs 0 0 Q (F0 m pc ls st0) := by
  have hpm := (idx_perm hi hp).flatten
  have hP0 := P_mem.mp (P_perm hP hpm)
  have hD0 := D_nd.mp (D_perm hD hpm)
  rw [List.flatten_append] at hP0 hD0
  rw [List.map_append] at hD0
  have hnd := List.nodup_append.mp hD0.1
  have hF : ∀ q, va_A bc.flatten H.size q → A q := by
    intro q h
    rcases h with ⟨j, e', h⟩ | h
    · exact hD0.2 (q, e') (List.mem_append_right _ (List.mem_of_getElem? h))
    · exact X.2.2.2.2.1 q (Nat.le_trans hS.1 h)
  have apart : ∀ q ∈ br.flatten, q.1 < H.size ∧ ¬ va_A bc.flatten H.size q.1 := by
    intro q hq
    have hl := (hP0 q (List.mem_append_left _ hq)).lt
    refine ⟨hl, fun h => ?_⟩
    rcases h with ⟨j, e', h⟩ | h
    · exact hnd.2.2 q.1 (List.mem_map.mpr ⟨q, hq, rfl⟩) q.1 (List.mem_map.mpr ⟨(q.1, e'), List.mem_of_getElem? h, rfl⟩) rfl
    · omega
  intro T hT Xs
  obtain ⟨v, st₀, t', T', L, h0, X', hL, e1, e2, ⟨hv, hP1, hK1, hD1, hz, hk⟩, st⟩ := hr T hT Xs
  cases hv
  rw [h0] at hz hk
  have hD1 := D_nd.mp hD1
  have hP1 := P_mem.mp hP1
  obtain ⟨t2, a1, b1⟩ := kk T'.heap (locs ++ L)
    (P_mem.mpr fun q hq => by
      rw [e1]
      rw [List.flatten_append] at hq
      rcases List.mem_append.mp hq with h | h
      · exact (hP0 q (List.mem_append_left _ h)).kept (hk q.1 (apart q h).1 (apart q h).2)
      · exact hP1 q h)
    (D_nd.mpr ⟨by
      rw [List.flatten_append, List.map_append]
      refine List.nodup_append.mpr ⟨hnd.1, hD1.1, fun x hx y hy e => ?_⟩
      obtain ⟨q, hq, rfl⟩ := List.mem_map.mp hx
      obtain ⟨q', hq', rfl⟩ := List.mem_map.mp hy
      exact (apart q hq).2 (by rw [e]; exact hD1.2 q' hq'), fun q hq => by
      rw [List.flatten_append] at hq
      rcases List.mem_append.mp hq with h | h
      · exact hD0.2 q (List.mem_append_left _ h)
      · exact hF _ (hD1.2 q h)⟩)
    ⟨Nat.le_trans hS.1 (by rw [e1]; exact hz), fun q h1 h2 => by rw [e1, hk q (Nat.lt_of_lt_of_le h1 hS.1) (fun z => h2 (hF q z))]; exact hS.2.1 q h1 h2, fun q hq => by
      rcases List.mem_append.mp hq with h | h
      · exact hS.2.2 q h
      · exact hF _ (hL q h)⟩ T' rfl X'
  exact ⟨t2, st t2 a1, b1⟩
/-- the callee's start at a call -/
theorem kpre {bs bc br : List va_W} {av : List Value} (X : BX l D k t p s m args meth c cc nL own ret A) (hP : va_P D vwCl bs.flatten H) (hD : va_D A bs.flatten) (hS : va_S A s.heap H locs) (isR isC : List Nat) (hi : (isR ++ isC).map (fun i => bs[i]?) = (br ++ bc).map some) (hp : (isR ++ isC).isPerm (List.range bs.length) = true) :
    ∀ U : State, U.heap = H → s.WarmedH U.vm → va_Pc av (PW D k t bc.flatten H.size) av.toArray U := by
  have hpm := (idx_perm hi hp).flatten
  have hP0 := P_mem.mp (P_perm hP hpm)
  have hD0 := D_nd.mp (D_perm hD hpm)
  rw [List.flatten_append] at hP0 hD0
  rw [List.map_append] at hD0
  have hnd := List.nodup_append.mp hD0.1
  have hF : ∀ q, va_A bc.flatten H.size q → A q := by
    intro q h
    rcases h with ⟨j, e', h⟩ | h
    · exact hD0.2 (q, e') (List.mem_append_right _ (List.mem_of_getElem? h))
    · exact X.2.2.2.2.1 q (Nat.le_trans hS.1 h)
  intro U hU hW
  refine ⟨rfl, by rw [hU], ?_, va_K.moved hW.alike X.2.2.2.1, D_nd.mpr ⟨hnd.2.1, fun _ _ => trivial⟩, ?_⟩
  · rw [hU]
    exact P_mem.mpr fun q hq => hP0 q (List.mem_append_right _ hq)
  · rw [hU]
    exact X.2.2.2.2.2.go hW (fun a h1 h2 => hS.2.1 a h1 h2) hF

/-- a call's words: its row in the class file's pool, the callee's code -/
def MV (own : String) (index n : Nat) (y : MethodName) (cc : ByteArray) (maxL : Nat) (ret : Option FieldType) : Prop := (Cond.methodLink own index y ∈ ALL ∧ Cond.instanceMethod y ∈ ALL ∧ Cond.selects y.cls y y ∈ ALL ∧ Cond.initialized y.cls ∈ ALL ∧ Cond.code y cc maxL ret ∈ ALL) ∧ (y.cls ≠ "java/lang/invoke/MethodHandle" ∧ y.cls ≠ "java/lang/invoke/VarHandle" ∧ (parseMethodDescriptor y.desc).map (fun d => d.parameters.length) = some n)
def MS (own : String) (index n : Nat) (y : MethodName) (cc : ByteArray) (maxL : Nat) (ret : Option FieldType) : Prop := (Cond.methodLink own index y ∈ ALL ∧ Cond.static y ∈ ALL ∧ Cond.initialized y.cls ∈ ALL ∧ Cond.code y cc maxL ret ∈ ALL) ∧ (y.cls ≠ "java/lang/invoke/MethodHandle" ∧ y.cls ≠ "java/lang/invoke/VarHandle" ∧ (parseMethodDescriptor y.desc).map (fun d => d.parameters.length) = some n)
def MN (own : String) (index n : Nat) (y : MethodName) (cc : ByteArray) (maxL : Nat) (ret : Option FieldType) : Prop := ((own, index, y, RX7) ∈ nestM ∧ Cond.static y ∈ ALL ∧ Cond.initialized y.cls ∈ ALL ∧ Cond.code y cc maxL ret ∈ ALL) ∧ (y.cls ≠ "java/lang/invoke/MethodHandle" ∧ y.cls ≠ "java/lang/invoke/VarHandle" ∧ (parseMethodDescriptor y.desc).map (fun d => d.parameters.length) = some n)
theorem kcV {bs bc br bc' : List va_W} {rv : Option Value} {As : List Value} {index n maxL : Nat} {y : MethodName} {bytes : ByteArray} {retc : Option FieldType} {rm : Room} {b : Nat} {fs : List Value} (X : BX l D k t p s m args meth c cc nL own ret A) (hP : va_P D vwCl bs.flatten H) (hD : va_D A bs.flatten) (hS : va_S A s.heap H locs)
    (hM : CT l D k t y bytes maxL retc rm (.ref b :: As) bc.flatten rv bc'.flatten) (mv : MV own index n y bytes maxL retc) (hl : lv_has ls nL lv) (isR isC : List Nat) (ci : Nat) {r : vw_C} (hrm : rm.cells = 0 ∧ rm.slots = 0) (hR : rm.frames + 1 ≤ R.frames ∧ 8 + (maxL + 11) + rm.locals ≤ R.locals) (hn : As.length = n)
    (hi : (isR ++ isC).map (fun i => bs[i]?) = (br ++ bc).map some) (hp : (isR ++ isC).isPerm (List.range bs.length) = true) (hc : vwCl[ci]? = some r) (hcy : r.1 = y.cls) (hb0 : bc.flatten[0]? = some (b, .inr (ci, fs))) (hst : st0 = As.reverse ++ .ref b :: rest) (hW : (rest.map fun v => v.category).sum ≤ 8) (hdg : decode cc pc = .ok (.invokevirtual index, 3))
    (kk : ∀ (H1 : Heap) (locs1 : List Loc), va_P D vwCl (br ++ bc').flatten H1 → va_D A (br ++ bc').flatten → va_S A s.heap H1 locs1 → W p l e R s m args below meth c H1 locs1 0 0 Q (F0 m (pc + 3) ls (rv.toList ++ rest))) : W p l e R s m args below meth c H locs 0 0 Q (F0 m pc ls st0) := by
  subst hst
  have hpr := kpre (av := .ref b :: As) X hP hD hS isR isC hi hp
  have hPc : va_P D vwCl bc.flatten H := by
    have h1 := P_perm hP (idx_perm hi hp).flatten
    rw [List.flatten_append] at h1
    exact P_mem.mpr fun q hq => P_mem.mp h1 q (List.mem_append_right _ hq)
  have hrv := va_recv X.2.2.2.1 hPc hc hb0
  rw [hcy] at hrv
  refine kfin X hP hD hS isR isC hi hp (va_runV (As := As) (rest := rest) X.1 (hM H.size) (cwV n X.1.2.2.2.2 (fun w hw => ?_) rfl hrm.1 hrm.2 ⟨rfl, mv.2.1, mv.2.2.1, mv.2.2.2⟩ hR) ⟨PW_blind, hrv, hpr⟩ rfl hn hl.1 rfl (lv_room hW) hdg ⟨Nat.zero_le _, Nat.zero_le _⟩) kk
  unfold wsV at hw
  rcases List.mem_append.mp hw with h | h
  · simp only [List.mem_cons, List.not_mem_nil, or_false] at h
    rcases h with rfl | rfl | rfl | rfl
    · exact ALL_good _ mv.1.1
    · exact ALL_good _ mv.1.2.1
    · exact ALL_good _ mv.1.2.2.1
    · exact ALL_good _ mv.1.2.2.2.1
  · exact gU mv.1.2.2.2.2 w h
theorem kcS {bs bc br bc' : List va_W} {rv : Option Value} {As : List Value} {index n maxL : Nat} {y : MethodName} {bytes : ByteArray} {retc : Option FieldType} {rm : Room} (X : BX l D k t p s m args meth c cc nL own ret A) (hP : va_P D vwCl bs.flatten H) (hD : va_D A bs.flatten) (hS : va_S A s.heap H locs)
    (hM : CT l D k t y bytes maxL retc rm As bc.flatten rv bc'.flatten) (mv : MS own index n y bytes maxL retc) (hl : lv_has ls nL lv) (isR isC : List Nat) (hrm : rm.cells = 0 ∧ rm.slots = 0) (hR : rm.frames + 1 ≤ R.frames ∧ 8 + (maxL + 11) + rm.locals ≤ R.locals) (hn : As.length = n)
    (hi : (isR ++ isC).map (fun i => bs[i]?) = (br ++ bc).map some) (hp : (isR ++ isC).isPerm (List.range bs.length) = true) (hst : st0 = As.reverse ++ rest) (hW : (rest.map fun v => v.category).sum ≤ 8) (hdg : decode cc pc = .ok (.invokestatic index, 3))
    (kk : ∀ (H1 : Heap) (locs1 : List Loc), va_P D vwCl (br ++ bc').flatten H1 → va_D A (br ++ bc').flatten → va_S A s.heap H1 locs1 → W p l e R s m args below meth c H1 locs1 0 0 Q (F0 m (pc + 3) ls (rv.toList ++ rest))) : W p l e R s m args below meth c H locs 0 0 Q (F0 m pc ls st0) := by
  subst hst
  have hpr := kpre (av := As) X hP hD hS isR isC hi hp
  refine kfin X hP hD hS isR isC hi hp (va_runS (As := As) (rest := rest) X.1 (hM H.size) (va_cwS n X.1.2.2.2.2 (fun w hw => ?_) rfl hrm.1 hrm.2 ⟨mv.2.1, mv.2.2.1, mv.2.2.2⟩ hR) ⟨PW_blind, hpr⟩ rfl hn hl.1 rfl (lv_room hW) hdg ⟨Nat.zero_le _, Nat.zero_le _⟩) kk
  unfold va_wsS at hw
  rcases List.mem_append.mp hw with h | h
  · simp only [List.mem_cons, List.not_mem_nil, or_false] at h
    rcases h with rfl | rfl | rfl
    · exact ALL_good _ mv.1.1
    · exact ALL_good _ mv.1.2.1
    · exact ALL_good _ mv.1.2.2.1
  · exact gU mv.1.2.2.2 w h
theorem kcN {bs bc br bc' : List va_W} {rv : Option Value} {As : List Value} {index n maxL : Nat} {y : MethodName} {bytes : ByteArray} {retc : Option FieldType} {rm : Room} (X : BX l D k t p s m args meth c cc nL own ret A) (hP : va_P D vwCl bs.flatten H) (hD : va_D A bs.flatten) (hS : va_S A s.heap H locs)
    (hM : CT l D k t y bytes maxL retc rm As bc.flatten rv bc'.flatten) (mv : MN own index n y bytes maxL retc) (hl : lv_has ls nL lv) (isR isC : List Nat) (hrm : rm.cells = 0 ∧ rm.slots = 0) (hR : rm.frames + 1 ≤ R.frames ∧ 8 + (maxL + 11) + rm.locals ≤ R.locals) (hn : As.length = n)
    (hi : (isR ++ isC).map (fun i => bs[i]?) = (br ++ bc).map some) (hp : (isR ++ isC).isPerm (List.range bs.length) = true) (hst : st0 = As.reverse ++ rest) (hW : (rest.map fun v => v.category).sum ≤ 8) (hdg : decode cc pc = .ok (.invokestatic index, 3))
    (kk : ∀ (H1 : Heap) (locs1 : List Loc), va_P D vwCl (br ++ bc').flatten H1 → va_D A (br ++ bc').flatten → va_S A s.heap H1 locs1 → W p l e R s m args below meth c H1 locs1 0 0 Q (F0 m (pc + 3) ls (rv.toList ++ rest))) : W p l e R s m args below meth c H locs 0 0 Q (F0 m pc ls st0) := by
  subst hst
  have hpr := kpre (av := As) X hP hD hS isR isC hi hp
  have hG : GoodIn ALL (.code y bytes maxL retc :: ALL) := gU mv.1.2.2.2
  exact kfin X hP hD hS isR isC hi hp (va_runSN (As := As) (rest := rest) X.1 (hM H.size) ⟨va_cnB n X.1.2.2.2.2 hG rfl hrm.1 hrm.2 (X.2.2.2.2.2.1 _ mv.1.1) (X.1.2.2.2.2 _ mv.1.2.2.1) ⟨mv.2.1, mv.2.2.1, mv.2.2.2⟩ hR, X.1.2.2.2.2 _ mv.1.2.1, trivial⟩ ⟨PW_blind, hpr⟩ rfl hn hl.1 rfl (lv_room hW) hdg ⟨Nat.zero_le _, Nat.zero_le _⟩) kk
end KW
/-- a place in an array, told by a program -/
def ck (i : Int32) (n : Nat) : Bool := !(decide (i < 0) || decide (n ≤ i.toNatClampNeg))
theorem ck_in {i : Int32} {n : Nat} (h : ck i n = true) : vp_in i n := by
  unfold ck at h
  intro hc
  rcases hc with h1 | h1 <;> simp [h1] at h
theorem ofck {α : Type} {i : Int32} {n : Nat} {K : Option α} {o : α} (h : (if ck i n = true then K else none) = some o) : vp_in i n ∧ K = some o := by
  by_cases hc : ck i n = true
  · rw [if_pos hc] at h; exact ⟨ck_in hc, h⟩
  · rw [if_neg hc] at h; cases h
theorem ofpos {α : Type} {c : Prop} {d : Decidable c} {P K : Option α} {o : α} (h : @ite _ c d P K = some o) (hc : c) : P = some o := by rw [if_pos hc] at h; exact h
theorem ofneg {α : Type} {c : Prop} {d : Decidable c} {P K : Option α} {o : α} (h : @ite _ c d P K = some o) (hc : ¬ c) : K = some o := by rw [if_neg hc] at h; exact h
theorem ofif {α : Type} {c : Prop} {d : Decidable c} {K : Option α} {o : α} (h : @ite _ c d K none = some o) : c ∧ K = some o := by
  by_cases hc : c
  · rw [if_pos hc] at h; exact ⟨hc, h⟩
  · rw [if_neg hc] at h; cases h
theorem ofdv {α : Type} {c : Prop} {d : Decidable c} {K : Option α} {o : α} (h : @ite _ c d none K = some o) : ¬ c ∧ K = some o := by
  by_cases hc : c
  · rw [if_pos hc] at h; cases h
  · rw [if_neg hc] at h; exact ⟨hc, h⟩
theorem ofbind {α β : Type} {x : Option α} {K : α → Option β} {o : β} (h : x.bind K = some o) : ∃ r, x = some r ∧ K r = some o := by
  cases x with
  | none => cases h
  | some r => exact ⟨r, rfl, h⟩
theorem ofsome {α : Type} {x y : α} (h : some x = some y) : y = x := (Option.some.inj h).symm
theorem zck_n {v : Int32} (h : v = 0 ∨ v = 1) : narrow .boolean (.int v) = .int v := by rcases h with rfl | rfl <;> rfl
theorem lgq {x y : Int64} : lg_cmp x y = 0 ↔ x = y := by
  unfold lg_cmp
  by_cases h1 : y < x
  · rw [if_pos h1]; constructor
    · intro h; cases h
    · intro h; subst h; exact absurd h1 (Int64.lt_irrefl)
  · rw [if_neg h1]
    by_cases h2 : x = y
    · simp [h2]
    · simp [h2]
theorem lgl {x y : Int64} : lg_cmp x y < 0 ↔ x < y := by
  unfold lg_cmp
  by_cases h1 : y < x
  · rw [if_pos h1]; constructor
    · intro h; exact absurd h (by decide)
    · intro h; exact absurd (Int64.lt_trans h h1) Int64.lt_irrefl
  · rw [if_neg h1]
    by_cases h2 : x = y
    · subst h2; simp
    · rw [if_neg h2]; constructor
      · intro _; exact Int64.lt_of_le_of_ne (Int64.not_lt.mp h1) h2
      · intro _; decide
theorem lgg {x y : Int64} : 0 < lg_cmp x y ↔ y < x := by
  unfold lg_cmp
  by_cases h1 : y < x
  · simp [h1]
  · rw [if_neg h1]
    by_cases h2 : x = y
    · subst h2; simp
    · rw [if_neg h2]; constructor
      · intro h; exact absurd h (by decide)
      · intro h; exact absurd h h1
theorem lge {x y : Int64} : 0 ≤ lg_cmp x y ↔ y ≤ x := by
  rw [← Int32.not_lt, lgl, Int64.not_lt]
theorem lgm {x y : Int64} : lg_cmp x y ≤ 0 ↔ x ≤ y := by
  rw [← Int32.not_lt, lgg, Int64.not_lt]
