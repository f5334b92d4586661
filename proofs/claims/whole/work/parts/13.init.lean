/-! constructors: a contract whose end tells of new rows -/
def QN (D : va_G) (k : Nat → ClassId) (A : Nat → Prop) (F : va_W → Prop) : Array Value → State → Outcome → State → Prop := fun _ st oc t => ∃ ws' : va_W, F ws' ∧ oc = .returned none ∧ va_P D vwCl ws' t.heap ∧ va_K D vwCl (TYS k) t ∧ va_D A ws' ∧ va_F A st t
def CN (l : Launch) (D : va_G) (k : Nat → ClassId) (t : Nat → Nat) (y : MethodName) (cc : ByteArray) (maxL : Nat) (rm : Room) (av : List Value) (ws : va_W) (F : va_W → Prop) (mc ms : Nat) : Prop :=
  ∀ sz : Nat, Met l y (.code y cc maxL none :: ALL) rm (va_Pc av (PW D k t ws sz)) (QN D k (va_A ws sz) F) mc ms (va_A ws sz)
theorem kofN {l : Launch} {D : va_G} {k : Nat → ClassId} {t : Nat → Nat} {y : MethodName} {cc : ByteArray} {maxL mc ms : Nat} {rm : Room} {av : List Value} {ws : va_W} {F : va_W → Prop} (hy : plainName y.cls = true) (hyn : y.name = "<init>") (hav : (lg_sl av).length ≤ maxL)
    (body : ∀ (p : Program) (e : Env) (s : State) (m : MethodId) (below : List Frame) (meth : Method) (c : Code) (A : Nat → Prop) (ls : Array Slot), BX l D k t p s m av.toArray meth c cc maxL y.cls none A → meth.name = "<init>" → va_P D vwCl ws s.heap → va_D A ws → va_S A s.heap s.heap [] → lv_has ls maxL (lv_args 0 av) →
      W p l e rm s m av.toArray below meth c s.heap [] 0 0 (MQ below (QN D k A F) av.toArray s mc ms A) (F0 m 0 ls [])) : CN l D k t y cc maxL rm av ws F mc ms := by
  intro sz
  refine Met.ofW (cc := cc) (maxL := maxL) (ret := none) hy rfl ?_
  intro p e s m args below meth c s₁ B hml hv
  obtain ⟨rfl, hsz, hP, hK, hD0, hE⟩ := hv
  subst hsz
  have hts := atoms_spec (ws := .code y cc maxL none :: ALL) B.pre
  have hl := lv_entry av (n := maxL) hav
  rw [lg_entry_eq]
  exact body p e s m below meth c _ _ ⟨⟨B.exec, B.bytes, hml, findClass_of_methodNamed B.named, fun w hw => hts w (List.mem_cons_of_mem _ hw)⟩, B.returns, B.notSynchronized, hK, fun q h => Or.inr h, hE⟩ ((name_of_methodNamed B.named B.method).1.trans hyn) hP hD0.self va_S.rf hl
/-- what `new` and a final field's words are -/
def FN (own : String) (index ci : Nat) (fs : List Value) : Prop := ∃ r : vw_C, vwCl[ci]? = some r ∧ (∀ w ∈ u_ws r.1 r.2.1 r.2.2, w ∈ ALL) ∧ Cond.classLink own index r.1 ∈ ALL ∧ Cond.instantiable r.1 r.2.2 ∈ ALL ∧ Cond.initialized r.1 ∈ ALL ∧ r.2.2 = fs.length ∧ ∃ ty : Nat → FieldType, (∀ k, k < r.2.2 → parseFieldDescriptor (r.2.1 k).2.2.1 = some (ty k)) ∧ ∀ j, j < r.2.2 → defaultValue (ty j) = vp_V fs j
def FPF (own : String) (index ci kf : Nat) (ty : FieldType) : Prop := ∃ r : vw_C, vwCl[ci]? = some r ∧ kf < r.2.2 ∧ (∀ w ∈ u_ws r.1 r.2.1 r.2.2, w ∈ ALL) ∧ Cond.fieldLink own index r.1 (r.2.1 kf).2.1 (r.2.1 kf).2.2.1 ∈ ALL ∧ (r.2.1 kf).1 = r.1 ∧ (r.2.1 kf).1 = own ∧ (r.2.1 kf).2.2.2 = true ∧ parseFieldDescriptor (r.2.1 kf).2.2.1 = some ty ∧ (∃ ty0 : Nat → FieldType, ∀ k, k < r.2.2 → parseFieldDescriptor (r.2.1 k).2.2.1 = some (ty0 k)) ∧ (∀ a, a < r.2.2 → ∀ b, b < r.2.2 → a ≠ b → (r.2.1 a).2.1 ≠ (r.2.1 b).2.1)
def MI (own : String) (index n : Nat) (y : MethodName) (cc : ByteArray) (maxL : Nat) : Prop := (Cond.methodLink own index y ∈ ALL ∧ Cond.instanceMethod y ∈ ALL ∧ Cond.initialized y.cls ∈ ALL ∧ Cond.code y cc maxL none ∈ ALL) ∧ y.name = "<init>" ∧ (y.cls ≠ "java/lang/invoke/MethodHandle" ∧ y.cls ≠ "java/lang/invoke/VarHandle" ∧ (parseMethodDescriptor y.desc).map (fun d => d.parameters.length) = some n)
def MIN (own : String) (index n : Nat) (y : MethodName) (cc : ByteArray) (maxL : Nat) : Prop := ((own, index, y, RX7) ∈ nestM ∧ Cond.instanceMethod y ∈ ALL ∧ Cond.initialized y.cls ∈ ALL ∧ Cond.code y cc maxL none ∈ ALL) ∧ y.name = "<init>" ∧ (y.cls ≠ "java/lang/invoke/MethodHandle" ∧ y.cls ≠ "java/lang/invoke/VarHandle" ∧ (parseMethodDescriptor y.desc).map (fun d => d.parameters.length) = some n)
section KI
variable {p : Program} {l : Launch} {e : Env} {R : Room} {s : State} {m : MethodId} {args : Array Value} {below : List Frame} {meth : Method} {c : Code} {H : Heap} {locs : List Loc} {cells slots : Nat} {Q : State → Prop}
variable {D : va_G} {k : Nat → ClassId} {t : Nat → Nat} {cc : ByteArray} {nL pc : Nat} {own : String} {ret : Option FieldType} {A : Nat → Prop} {ls : Array Slot} {rest st0 : List Value} {ws : va_W} {lv : List (Nat × Value)}
theorem kretN {F : va_W → Prop} (X : BX l D k t p s m args meth c cc nL own none A) (hP : va_P D vwCl ws H) (hD : va_D A ws) (hS : va_S A s.heap H locs) (hF : F ws) (hdg : decode cc pc = .ok (.return_, 1)) : W p l e R s m args below meth c H locs cells slots (MQ below (QN D k A F) args s cells slots A) (F0 m pc ls []) :=
  W.vret X.1.1 X.1.2.1 X.2.1 (fun t ht hW => ⟨ws, hF, rfl, by rw [ht]; exact hP, va_K.moved hW.alike X.2.2.2.1, hD, hS.F ht⟩) hS.2.2 hdg X.2.2.1
theorem kobj {idx a : Nat} (X : BX l D k t p s m args meth c cc nL own ret A) (hl : lv_has ls nL lv) (h1 : Cond.methodLink own idx Lib.objectInit ∈ ALL) (h2 : Cond.instanceMethod Lib.objectInit ∈ ALL) (h3 : Cond.code Lib.objectInit ⟨#[0xb1]⟩ 1 none ∈ ALL) (hdg : decode cc pc = .ok (.invokespecial idx, 3)) (hframes : 1 ≤ R.frames) (hlocals : 12 ≤ R.locals)
    (kk : W p l e R s m args below meth c H locs cells slots Q (F0 m (pc + 3) ls [])) : W p l e R s m args below meth c H locs cells slots Q (F0 m pc ls [.ref a]) :=
  W.objInit X.1.1 X.1.2.1 X.1.2.2.2.1 (X.1.2.2.2.2 _ h1) (X.1.2.2.2.2 _ h2) (X.1.2.2.2.2 _ h3) rfl (by rw [X.1.2.2.1]; exact hl.1) rfl hdg hframes (by simpa using hlocals) kk
theorem knew {index ci N : Nat} {fs : List Value} (X : BX l D k t p s m args meth c cc nL own ret A) (hP : va_P D vwCl ws H) (hD : va_D A ws) (hS : va_S A s.heap H locs) (fn : FN own index ci fs) (hN : fs.length = N) (hcells : cells + 1 ≤ R.cells) (hslots : slots + N ≤ R.slots) (hdg : decode cc pc = .ok (.new index, 3))
    (kk : ∀ (q : Nat) (H1 : Heap), va_P D vwCl (ws ++ [(q, .inr (ci, fs))]) H1 → va_D A (ws ++ [(q, .inr (ci, fs))]) → va_S A s.heap H1 locs → W p l e R s m args below meth c H1 locs (cells + 1) (slots + N) Q (F0 m (pc + 3) ls (.ref q :: rest))) : W p l e R s m args below meth c H locs cells slots Q (F0 m pc ls rest) := by
  obtain ⟨⟨C, T, N'⟩, h1, h2, h3, h4, h5, h6, ty, h7, h8⟩ := fn
  have e : N' = N := h6.trans hN
  subst e
  exact va_new X.1.1 X.1.2.1 X.1.2.2.2.2 h2 ty h7 X.1.2.2.2.1 (X.1.2.2.2.2 _ h3) (X.1.2.2.2.2 _ h4) (X.1.2.2.2.2 _ h5) X.2.2.2.1 hP hD hS X.2.2.2.2.1 h1 h8 hcells hslots hdg kk
theorem kputF {index ci kf : Nat} {ty : FieldType} {v : Value} (X : BX l D k t p s m args meth c cc nL own ret A) (hin : meth.name = "<init>") (hP : va_P D vwCl ws H) (hD : va_D A ws) (hS : va_S A s.heap H locs) (ff : FPF own index ci kf ty) (q0 : Nat) {a : Nat} {fs : List Value} (he : ws[q0]? = some (a, .inr (ci, fs))) (hn : narrow ty v = v) (hfit : fits ty v = true) (hl : kf < fs.length) (hdg : decode cc pc = .ok (.putfield index, 3))
    (kk : ∀ (H1 : Heap) (locs1 : List Loc), va_P D vwCl (ws.set q0 (a, .inr (ci, fs.set kf v))) H1 → va_D A (ws.set q0 (a, .inr (ci, fs.set kf v))) → va_S A s.heap H1 locs1 → W p l e R s m args below meth c H1 locs1 cells slots Q (F0 m (pc + 3) ls rest)) : W p l e R s m args below meth c H locs cells slots Q (F0 m pc ls (v :: .ref a :: rest)) := by
  obtain ⟨⟨C, T, N⟩, h1, h2, h3, h4, h5, h5', h6, h7, ⟨ty0, h8⟩, h9⟩ := ff
  exact va_putF X.1.1 X.1.2.1 X.1.2.2.2.2 h3 ty0 h8 h9 X.1.2.2.2.1 X.2.2.2.1 hP hD hS q0 he h1 kf h2 (X.1.2.2.2.2 _ h4) (fun x hx => by rw [h5] at hx; exact hx) h6 hin h5' h7 hn hfit hl hdg kk
theorem kputN {index ci kf : Nat} {v : Int32} (X : BX l D k t p s m args meth c cc nL own ret A) (hP : va_P D vwCl ws H) (hD : va_D A ws) (hS : va_S A s.heap H locs) (ff : FP own index ci kf .int) (q0 : Nat) {a : Nat} {fs : List Value} (he : ws[q0]? = some (a, .inr (ci, fs))) (hl : kf < fs.length) (hdg : decode cc pc = .ok (.putfield index, 3))
    (kk : ∀ (H1 : Heap) (locs1 : List Loc), va_P D vwCl (ws.set q0 (a, .inr (ci, fs.set kf (.int v)))) H1 → va_D A (ws.set q0 (a, .inr (ci, fs.set kf (.int v)))) → va_S A s.heap H1 locs1 → W p l e R s m args below meth c H1 locs1 cells slots Q (F0 m (pc + 3) ls rest)) : W p l e R s m args below meth c H locs cells slots Q (F0 m pc ls (.int v :: .ref a :: rest)) := by
  obtain ⟨⟨C, T, N⟩, h1, h2, h3, h4, h5, h6, h7, ⟨ty0, h8⟩, h9⟩ := ff
  exact va_put X.1.1 X.1.2.1 X.1.2.2.2.2 h3 ty0 h8 h9 X.1.2.2.2.1 X.2.2.2.1 hP hD hS q0 he h1 kf h2 (X.1.2.2.2.2 _ h4) (fun x hx => by rw [h5] at hx; exact hx) h6 h7 rfl rfl hl hdg kk
/-- a new object put into a final field, of whatever class the field is -/
theorem kputR {index ci kf : Nat} {ty : FieldType} {v : Nat} (X : BX l D k t p s m args meth c cc nL own ret A) (hin : meth.name = "<init>") (hP : va_P D vwCl ws H) (hD : va_D A ws) (hS : va_S A s.heap H locs) (ff : FPF own index ci kf ty) (q0 : Nat) {a : Nat} {fs : List Value} (he : ws[q0]? = some (a, .inr (ci, fs))) (hn : narrow ty (.ref v) = .ref v) (hfit : fits ty (.ref v) = true) (hl : kf < fs.length) (hdg : decode cc pc = .ok (.putfield index, 3))
    (kk : ∀ (H1 : Heap) (locs1 : List Loc), va_P D vwCl (ws.set q0 (a, .inr (ci, fs.set kf (.ref v)))) H1 → va_D A (ws.set q0 (a, .inr (ci, fs.set kf (.ref v)))) → va_S A s.heap H1 locs1 → W p l e R s m args below meth c H1 locs1 cells slots Q (F0 m (pc + 3) ls rest)) : W p l e R s m args below meth c H locs cells slots Q (F0 m pc ls (.ref v :: .ref a :: rest)) := kputF X hin hP hD hS ff q0 he hn hfit hl hdg kk
theorem knewA {atype : ArrayType} {kid : Nat} {a0 : vp_A} {n : Int32} {N : Nat} (X : BX l D k t p s m args meth c cc nL own ret A) (hP : va_P D vwCl ws H) (hD : va_D A ws) (hS : va_S A s.heap H locs) (harr : Cond.arrayClass (newarray.typeOf atype) ∈ ALL) (hid : ∀ cA : ClassId, s.vm.findClass ("[" ++ (newarray.typeOf atype).toString) = some cA → cA = k kid) (ha : vp_cell (k kid) a0 = arrV (k kid) N (fun _ => defaultValue (newarray.typeOf atype))) (hn : ¬ n < 0) (hN : n.toNatClampNeg = N) (hbytes : N * componentBytes (newarray.typeOf atype) ≤ 536870912) (hcells : cells + 1 ≤ R.cells) (hslots : slots + N ≤ R.slots) (hdg : decode cc pc = .ok (.newarray atype, 2))
    (kk : ∀ (q : Nat) (H1 : Heap), va_P D vwCl (ws ++ [(q, .inl (k kid, a0))]) H1 → va_D A (ws ++ [(q, .inl (k kid, a0))]) → va_S A s.heap H1 locs → W p l e R s m args below meth c H1 locs (cells + 1) (slots + N) Q (F0 m (pc + 2) ls (.ref q :: rest))) : W p l e R s m args below meth c H locs cells slots Q (F0 m pc ls (.int n :: rest)) := by
  refine va_newaK X.1.1 X.1.2.1 (X.1.2.2.2.2 _ harr) rfl hdg rfl hn hN hbytes hcells hslots rfl fun H1 cA e1 z1 o1 hAr hNm => ?_
  have ec := hid cA hNm
  subst ec
  have hk : ∀ (k : Nat) (x : Nat × va_E), ws[k]? = some x → H1[x.1]? = H[x.1]? := fun k x hx => o1 x.1 ((hP k x hx).lt)
  refine kk H.size H1 ((hP.kept hk).app (fun k x hx => ?_)) (hD.push hP rfl (X.2.2.2.2.1 _ hS.1)) ⟨Nat.le_trans hS.1 (by omega), fun x h1 h2 => (o1 x (Nat.lt_of_lt_of_le h1 hS.1)).trans (hS.2.1 x h1 h2), hS.2.2⟩
  have hz : k < 1 := (List.getElem?_eq_some_iff.mp hx).1
  rw [show k = 0 by omega] at hx
  cases hx
  show H1[H.size]? = some (vp_cell _ _)
  rw [ha]
  exact e1
theorem knewI {n : Int32} {N : Nat} (X : BX l D k t p s m args meth c cc nL own ret A) (hP : va_P D vwCl ws H) (hD : va_D A ws) (hS : va_S A s.heap H locs) (harr : Cond.arrayClass .int ∈ ALL) (hn : ¬ n < 0) (hN : n.toNatClampNeg = N) (hbytes : N * 4 ≤ 536870912) (hcells : cells + 1 ≤ R.cells) (hslots : slots + N ≤ R.slots) (hdg : decode cc pc = .ok (.newarray .int, 2))
    (kk : ∀ (q : Nat) (H1 : Heap), va_P D vwCl (ws ++ [(q, .inl (k 0, N, .inl (fun _ => 0)))]) H1 → va_D A (ws ++ [(q, .inl (k 0, N, .inl (fun _ => 0)))]) → va_S A s.heap H1 locs → W p l e R s m args below meth c H1 locs (cells + 1) (slots + N) Q (F0 m (pc + 2) ls (.ref q :: rest))) : W p l e R s m args below meth c H locs cells slots Q (F0 m pc ls (.int n :: rest)) :=
  knewA (atype := .int) (kid := 0) (a0 := (N, .inl (fun _ => 0))) X hP hD hS harr (fun cA h => Option.some.inj (h.symm.trans (X.2.2.2.1.2 0 (k 0, .int) rfl).2)) rfl hn hN hbytes hcells hslots hdg kk
theorem knewL {n : Int32} {N : Nat} (X : BX l D k t p s m args meth c cc nL own ret A) (hP : va_P D vwCl ws H) (hD : va_D A ws) (hS : va_S A s.heap H locs) (harr : Cond.arrayClass .long ∈ ALL) (hn : ¬ n < 0) (hN : n.toNatClampNeg = N) (hbytes : N * 8 ≤ 536870912) (hcells : cells + 1 ≤ R.cells) (hslots : slots + N ≤ R.slots) (hdg : decode cc pc = .ok (.newarray .long, 2))
    (kk : ∀ (q : Nat) (H1 : Heap), va_P D vwCl (ws ++ [(q, .inl (k 1, N, .inr (.inl (fun _ => 0))))]) H1 → va_D A (ws ++ [(q, .inl (k 1, N, .inr (.inl (fun _ => 0))))]) → va_S A s.heap H1 locs → W p l e R s m args below meth c H1 locs (cells + 1) (slots + N) Q (F0 m (pc + 2) ls (.ref q :: rest))) : W p l e R s m args below meth c H locs cells slots Q (F0 m pc ls (.int n :: rest)) :=
  knewA (atype := .long) (kid := 1) (a0 := (N, .inr (.inl (fun _ => 0)))) X hP hD hS harr (fun cA h => Option.some.inj (h.symm.trans (X.2.2.2.1.2 1 (k 1, .long) rfl).2)) rfl hn hN hbytes hcells hslots hdg kk
theorem kfinN {bs bc br : List va_W} {F : va_W → Prop} {a : Array Value} {mc ms : Nat} (X : BX l D k t p s m args meth c cc nL own ret A) (hP : va_P D vwCl bs.flatten H) (hD : va_D A bs.flatten) (hS : va_S A s.heap H locs) (isR isC : List Nat) (hi : (isR ++ isC).map (fun i => bs[i]?) = (br ++ bc).map some) (hp : (isR ++ isC).isPerm (List.range bs.length) = true)
    (hr : va_Run p l e R s m args below meth c H locs cells slots mc ms (F0 m pc ls st0) rest (QN D k (va_A bc.flatten H.size) F a) (va_A bc.flatten H.size))
    (kk : ∀ (ws' : va_W) (H1 : Heap) (locs1 : List Loc), F ws' → va_P D vwCl (br ++ [ws']).flatten H1 → va_D A (br ++ [ws']).flatten → va_S A s.heap H1 locs1 → W p l e R s m args below meth c H1 locs1 (cells + mc) (slots + ms) Q (F0 m (pc + 3) ls rest)) : W p l e R s m args below meth c H locs cells slots Q (F0 m pc ls st0) := by
  have hpm := (idx_perm hi hp).flatten
  have hP0 := P_mem.mp (P_perm hP hpm)
  have hD0 := D_nd.mp (D_perm hD hpm)
  rw [List.flatten_append] at hP0 hD0
  rw [List.map_append] at hD0
  have hnd := List.nodup_append.mp hD0.1
  have hF : ∀ q, va_A bc.flatten H.size q → A q := by
    intro q h
    rcases h with ⟨j, e', h⟩ | h
    · exact hD0.2 (q, e') (List.mem_append_right _ (List.mem_of_getElem? h))
    · exact X.2.2.2.2.1 q (Nat.le_trans hS.1 h)
  have apart : ∀ q ∈ br.flatten, q.1 < H.size ∧ ¬ va_A bc.flatten H.size q.1 := by
    intro q hq
    have hl := (hP0 q (List.mem_append_left _ hq)).lt
    refine ⟨hl, fun h => ?_⟩
    rcases h with ⟨j, e', h⟩ | h
    · exact hnd.2.2 q.1 (List.mem_map.mpr ⟨q, hq, rfl⟩) q.1 (List.mem_map.mpr ⟨(q.1, e'), List.mem_of_getElem? h, rfl⟩) rfl
    · omega
  intro T hT Xs
  obtain ⟨v, st₀, t', T', L, h0, X', hL, e1, e2, ⟨ws', hΦ, hv, hP1, hK1, hD1, hz, hk⟩, st⟩ := hr T hT Xs
  cases hv
  rw [h0] at hz hk
  have hD1 := D_nd.mp hD1
  have hP1 := P_mem.mp hP1
  obtain ⟨t2, a1, b1⟩ := kk ws' T'.heap (locs ++ L) hΦ
    (P_mem.mpr fun q hq => by
      rw [e1]
      rw [List.flatten_append, List.flatten_singleton] at hq
      rcases List.mem_append.mp hq with h | h
      · exact (hP0 q (List.mem_append_left _ h)).kept (hk q.1 (apart q h).1 (apart q h).2)
      · exact hP1 q h)
    (D_nd.mpr ⟨by
      rw [List.flatten_append, List.flatten_singleton, List.map_append]
      refine List.nodup_append.mpr ⟨hnd.1, hD1.1, fun x hx y hy e => ?_⟩
      obtain ⟨q, hq, rfl⟩ := List.mem_map.mp hx
      obtain ⟨q', hq', rfl⟩ := List.mem_map.mp hy
      exact (apart q hq).2 (by rw [e]; exact hD1.2 q' hq'), fun q hq => by
      rw [List.flatten_append, List.flatten_singleton] at hq
      rcases List.mem_append.mp hq with h | h
      · exact hD0.2 q (List.mem_append_left _ h)
      · exact hF _ (hD1.2 q h)⟩)
    ⟨Nat.le_trans hS.1 (by rw [e1]; exact hz), fun q h1 h2 => by rw [e1, hk q (Nat.lt_of_lt_of_le h1 hS.1) (fun z => h2 (hF q z))]; exact hS.2.1 q h1 h2, fun q hq => by
      rcases List.mem_append.mp hq with h | h
      · exact hS.2.2 q h
      · exact hF _ (hL q h)⟩ T' rfl X'
  exact ⟨t2, st t2 a1, b1⟩
theorem kcI {bs bc br : List va_W} {F : va_W → Prop} {As : List Value} {index n maxL mc ms b : Nat} {y : MethodName} {bytes : ByteArray} {rm : Room} (X : BX l D k t p s m args meth c cc nL own ret A) (hP : va_P D vwCl bs.flatten H) (hD : va_D A bs.flatten) (hS : va_S A s.heap H locs)
    (hM : CN l D k t y bytes maxL rm (.ref b :: As) bc.flatten F mc ms) (mv : MI own index n y bytes maxL) (hl : lv_has ls nL lv) (isR isC : List Nat) (hrm : rm.cells = mc ∧ rm.slots = ms) (hR : rm.frames + 1 ≤ R.frames ∧ 8 + (maxL + 11) + rm.locals ≤ R.locals) (hn : As.length = n)
    (hi : (isR ++ isC).map (fun i => bs[i]?) = (br ++ bc).map some) (hp : (isR ++ isC).isPerm (List.range bs.length) = true) (hst : st0 = As.reverse ++ .ref b :: rest) (hW : (rest.map fun v => v.category).sum ≤ 8) (hcs : cells + mc ≤ R.cells ∧ slots + ms ≤ R.slots) (hdg : decode cc pc = .ok (.invokespecial index, 3))
    (kk : ∀ (ws' : va_W) (H1 : Heap) (locs1 : List Loc), F ws' → va_P D vwCl (br ++ [ws']).flatten H1 → va_D A (br ++ [ws']).flatten → va_S A s.heap H1 locs1 → W p l e R s m args below meth c H1 locs1 (cells + mc) (slots + ms) Q (F0 m (pc + 3) ls rest)) : W p l e R s m args below meth c H locs cells slots Q (F0 m pc ls st0) := by
  subst hst
  have hpr := kpre (av := .ref b :: As) X hP hD hS isR isC hi hp
  exact kfinN X hP hD hS isR isC hi hp (va_runI (As := As) (rest := rest) X.1 (hM H.size) (cwI n X.1.2.2.2.2 (gU mv.1.2.2.2) rfl hrm.1 hrm.2 (X.1.2.2.2.2 _ mv.1.2.2.1) (X.1.2.2.2.2 _ mv.1.1) (X.1.2.2.2.2 _ mv.1.2.1) mv.2.1 mv.2.2 hR) ⟨PW_blind, hpr⟩ rfl hn hl.1 rfl (lv_room hW) hdg hcs) kk
theorem kcJ {bs bc br : List va_W} {F : va_W → Prop} {As : List Value} {index n maxL mc ms b : Nat} {y : MethodName} {bytes : ByteArray} {rm : Room} (X : BX l D k t p s m args meth c cc nL own ret A) (hP : va_P D vwCl bs.flatten H) (hD : va_D A bs.flatten) (hS : va_S A s.heap H locs)
    (hM : CN l D k t y bytes maxL rm (.ref b :: As) bc.flatten F mc ms) (mv : MIN own index n y bytes maxL) (hl : lv_has ls nL lv) (isR isC : List Nat) (hrm : rm.cells = mc ∧ rm.slots = ms) (hR : rm.frames + 1 ≤ R.frames ∧ 8 + (maxL + 11) + rm.locals ≤ R.locals) (hn : As.length = n)
    (hi : (isR ++ isC).map (fun i => bs[i]?) = (br ++ bc).map some) (hp : (isR ++ isC).isPerm (List.range bs.length) = true) (hst : st0 = As.reverse ++ .ref b :: rest) (hW : (rest.map fun v => v.category).sum ≤ 8) (hcs : cells + mc ≤ R.cells ∧ slots + ms ≤ R.slots) (hdg : decode cc pc = .ok (.invokespecial index, 3))
    (kk : ∀ (ws' : va_W) (H1 : Heap) (locs1 : List Loc), F ws' → va_P D vwCl (br ++ [ws']).flatten H1 → va_D A (br ++ [ws']).flatten → va_S A s.heap H1 locs1 → W p l e R s m args below meth c H1 locs1 (cells + mc) (slots + ms) Q (F0 m (pc + 3) ls rest)) : W p l e R s m args below meth c H locs cells slots Q (F0 m pc ls st0) := by
  subst hst
  have hpr := kpre (av := .ref b :: As) X hP hD hS isR isC hi hp
  exact kfinN X hP hD hS isR isC hi hp (va_runIN (As := As) (rest := rest) X.1 (hM H.size) ⟨va_cnB n X.1.2.2.2.2 (gU mv.1.2.2.2) rfl hrm.1 hrm.2 (X.2.2.2.2.2.1 _ mv.1.1) (X.1.2.2.2.2 _ mv.1.2.2.1) mv.2.2 hR, mv.2.1, X.1.2.2.2.2 _ mv.1.2.1⟩ ⟨PW_blind, hpr⟩ rfl hn hl.1 rfl (lv_room hW) hdg hcs) kk
theorem flat_app {bs : List va_W} {x : Nat × va_E} : bs.flatten ++ [x] = (bs ++ [[x]]).flatten := by
  rw [List.flatten_append, List.flatten_singleton]
theorem knewB {bs : List va_W} {index ci N : Nat} {fs : List Value} (X : BX l D k t p s m args meth c cc nL own ret A) (hP : va_P D vwCl bs.flatten H) (hD : va_D A bs.flatten) (hS : va_S A s.heap H locs) (fn : FN own index ci fs) (hN : fs.length = N) (hcells : cells + 1 ≤ R.cells) (hslots : slots + N ≤ R.slots) (hdg : decode cc pc = .ok (.new index, 3))
    (kk : ∀ (q : Nat) (H1 : Heap), va_P D vwCl (bs ++ [([(q, .inr (ci, fs))] : va_W)]).flatten H1 → va_D A (bs ++ [([(q, .inr (ci, fs))] : va_W)]).flatten → va_S A s.heap H1 locs → W p l e R s m args below meth c H1 locs (cells + 1) (slots + N) Q (F0 m (pc + 3) ls (.ref q :: rest))) : W p l e R s m args below meth c H locs cells slots Q (F0 m pc ls rest) := by
  refine knew X hP hD hS fn hN hcells hslots hdg (fun q H1 h1 h2 h3 => ?_)
  rw [flat_app] at h1 h2
  exact kk q H1 h1 h2 h3
theorem knewIB {bs : List va_W} {n : Int32} {N : Nat} (X : BX l D k t p s m args meth c cc nL own ret A) (hP : va_P D vwCl bs.flatten H) (hD : va_D A bs.flatten) (hS : va_S A s.heap H locs) (harr : Cond.arrayClass .int ∈ ALL) (hn : ¬ n < 0) (hN : n.toNatClampNeg = N) (hbytes : N * 4 ≤ 536870912) (hcells : cells + 1 ≤ R.cells) (hslots : slots + N ≤ R.slots) (hdg : decode cc pc = .ok (.newarray .int, 2))
    (kk : ∀ (q : Nat) (H1 : Heap), va_P D vwCl (bs ++ [([(q, .inl (k 0, N, .inl (fun _ => 0)))] : va_W)]).flatten H1 → va_D A (bs ++ [([(q, .inl (k 0, N, .inl (fun _ => 0)))] : va_W)]).flatten → va_S A s.heap H1 locs → W p l e R s m args below meth c H1 locs (cells + 1) (slots + N) Q (F0 m (pc + 2) ls (.ref q :: rest))) : W p l e R s m args below meth c H locs cells slots Q (F0 m pc ls (.int n :: rest)) := by
  refine knewI X hP hD hS harr hn hN hbytes hcells hslots hdg (fun q H1 h1 h2 h3 => ?_)
  rw [flat_app] at h1 h2
  exact kk q H1 h1 h2 h3
theorem knewLB {bs : List va_W} {n : Int32} {N : Nat} (X : BX l D k t p s m args meth c cc nL own ret A) (hP : va_P D vwCl bs.flatten H) (hD : va_D A bs.flatten) (hS : va_S A s.heap H locs) (harr : Cond.arrayClass .long ∈ ALL) (hn : ¬ n < 0) (hN : n.toNatClampNeg = N) (hbytes : N * 8 ≤ 536870912) (hcells : cells + 1 ≤ R.cells) (hslots : slots + N ≤ R.slots) (hdg : decode cc pc = .ok (.newarray .long, 2))
    (kk : ∀ (q : Nat) (H1 : Heap), va_P D vwCl (bs ++ [([(q, .inl (k 1, N, .inr (.inl (fun _ => 0))))] : va_W)]).flatten H1 → va_D A (bs ++ [([(q, .inl (k 1, N, .inr (.inl (fun _ => 0))))] : va_W)]).flatten → va_S A s.heap H1 locs → W p l e R s m args below meth c H1 locs (cells + 1) (slots + N) Q (F0 m (pc + 2) ls (.ref q :: rest))) : W p l e R s m args below meth c H locs cells slots Q (F0 m pc ls (.int n :: rest)) := by
  refine knewL X hP hD hS harr hn hN hbytes hcells hslots hdg (fun q H1 h1 h2 h3 => ?_)
  rw [flat_app] at h1 h2
  exact kk q H1 h1 h2 h3
theorem kiastN (X : BX l D k t p s m args meth c cc nL own ret A) (hP : va_P D vwCl ws H) (hD : va_D A ws) (hS : va_S A s.heap H locs) (q0 : Nat) {a n : Nat} {f : Nat → Int32} (ha : ws[q0]? = some (a, .inl (k 0, n, .inl f))) {i x : Int32} (hin : vp_in i n) (hdg : decode cc pc = .ok (.iastore, 1))
    (kk : ∀ (H1 : Heap) (locs1 : List Loc), va_P D vwCl (ws.set q0 (a, .inl (k 0, n, .inl (upd f i.toNatClampNeg x)))) H1 → va_D A (ws.set q0 (a, .inl (k 0, n, .inl (upd f i.toNatClampNeg x)))) → va_S A s.heap H1 locs1 → W p l e R s m args below meth c H1 locs1 cells slots Q (F0 m (pc + 1) ls rest)) : W p l e R s m args below meth c H locs cells slots Q (F0 m pc ls (.int x :: .int i :: .ref a :: rest)) :=
  va_iast X.1.1 X.1.2.1 X.2.2.2.1 hP hD hS q0 0 ha rfl hin hdg kk
theorem kgetN {index ci kf : Nat} (X : BX l D k t p s m args meth c cc nL own ret A) (hP : va_P D vwCl ws H) (ff : FF own index ci kf) (q0 : Nat) {a : Nat} {fs : List Value} {v : Value} (he : ws[q0]? = some (a, .inr (ci, fs))) (hv : fs[kf]? = some v) (hdg : decode cc pc = .ok (.getfield index, 3))
    (kk : W p l e R s m args below meth c H locs cells slots Q (F0 m (pc + 3) ls (v :: rest))) : W p l e R s m args below meth c H locs cells slots Q (F0 m pc ls (.ref a :: rest)) := by
  obtain ⟨⟨C, T, N⟩, h1, h2, h3, h4, h5⟩ := ff
  exact va_get X.1.1 X.1.2.1 X.1.2.2.2.2 h3 X.1.2.2.2.1 X.2.2.2.1 hP q0 he h1 kf h2 (X.1.2.2.2.2 _ h4) (fun x hx => by rw [h5] at hx; exact hx) hv hdg kk
end KI
theorem fpN_X3_9 : FP RX3 9 3 0 (.int) := ⟨(RX3, TX3, 6), rfl, by decide, inlX3, (wm_r2 (List.mem_of_getElem? (i := 22) rfl)), rfl, rfl, by decide +kernel, ⟨tyX3, tyX3_ok⟩, nmX3⟩
theorem fpN_X3_15 : FP RX3 15 3 1 (.int) := ⟨(RX3, TX3, 6), rfl, by decide, inlX3, (wm_r2 (List.mem_of_getElem? (i := 23) rfl)), rfl, rfl, by decide +kernel, ⟨tyX3, tyX3_ok⟩, nmX3⟩
theorem fpN_X3_18 : FP RX3 18 3 2 (.int) := ⟨(RX3, TX3, 6), rfl, by decide, inlX3, (wm_r3 (List.mem_of_getElem? (i := 0) rfl)), rfl, rfl, by decide +kernel, ⟨tyX3, tyX3_ok⟩, nmX3⟩
theorem fpN_X3_21 : FP RX3 21 3 3 (.int) := ⟨(RX3, TX3, 6), rfl, by decide, inlX3, (wm_r3 (List.mem_of_getElem? (i := 1) rfl)), rfl, rfl, by decide +kernel, ⟨tyX3, tyX3_ok⟩, nmX3⟩
theorem fpN_X3_24 : FP RX3 24 3 4 (.int) := ⟨(RX3, TX3, 6), rfl, by decide, inlX3, (wm_r3 (List.mem_of_getElem? (i := 2) rfl)), rfl, rfl, by decide +kernel, ⟨tyX3, tyX3_ok⟩, nmX3⟩
theorem fpN_X3_27 : FP RX3 27 3 5 (.int) := ⟨(RX3, TX3, 6), rfl, by decide, inlX3, (wm_r3 (List.mem_of_getElem? (i := 3) rfl)), rfl, rfl, by decide +kernel, ⟨tyX3, tyX3_ok⟩, nmX3⟩
abbrev rm_Form_init : Room := ({ frames := 1, cells := 0, slots := 0, locals := 12 } : Room)
set_option maxRecDepth 100000 in
set_option maxHeartbeats 4000000 in
theorem c_Form_init (l : Launch) (D : va_G) (k : Nat → ClassId) (t : Nat → Nat) (a : Nat) : CN l D k t yX3_init cX3_init 1 rm_Form_init [.ref a] [[(a, .inr (3, [.int 0, .int 0, .int 0, .int 0, .int 0, .int 0]))]].flatten (fun w => ∃ b : Nat → Nat, b 0 = a ∧ w = W_Form k b 0 12 3 3 6 2 20) 0 0 := by
  refine kofN (by decide) rfl (Nat.le_of_ble_eq_true rfl) ?_
  intro p e s m below meth c A ls X hin hP hD hS hl
  have hx := X.1.1
  have hb := X.1.2.1
  have hl : lv_has ls 1 [(0, .ref a)] := hl
  have hP : va_P D vwCl [[(a, .inr (3, [.int 0, .int 0, .int 0, .int 0, .int 0, .int 0]))]].flatten _ := hP
  have hD : va_D A [[(a, .inr (3, [.int 0, .int 0, .int 0, .int 0, .int 0, .int 0]))]].flatten := hD
  refine lv_aload_n hx hb dX3_init_0 rfl (lv_at hl 0 rfl) ?_
  refine kobj X hl (wm_r2 (List.mem_of_getElem? (i := 21) rfl)) (wm_r1 (List.mem_of_getElem? (i := 10) rfl)) (wm_r1 (List.mem_of_getElem? (i := 11) rfl)) dX3_init_1 (Nat.le_of_ble_eq_true rfl) (Nat.le_of_ble_eq_true rfl) ?_
  refine lv_aload_n hx hb dX3_init_4 rfl (lv_at hl 0 rfl) ?_
  refine lv_bipush (v := 12) hx hb dX3_init_5 (by decide) ?_
  refine kputN (v := 12) X hP hD hS fpN_X3_9 0 rfl (Nat.le_of_ble_eq_true rfl) dX3_init_7 (fun H locs hP hD hS => ?_)
  have hP : va_P D vwCl [[(a, .inr (3, [.int 12, .int 0, .int 0, .int 0, .int 0, .int 0]))]].flatten _ := hP
  have hD : va_D A [[(a, .inr (3, [.int 12, .int 0, .int 0, .int 0, .int 0, .int 0]))]].flatten := hD
  refine lv_aload_n hx hb dX3_init_10 rfl (lv_at hl 0 rfl) ?_
  refine lv_iconst (v := 3) hx hb dX3_init_11 (by decide) ?_
  refine kputN (v := 3) X hP hD hS fpN_X3_15 0 rfl (Nat.le_of_ble_eq_true rfl) dX3_init_12 (fun H locs hP hD hS => ?_)
  have hP : va_P D vwCl [[(a, .inr (3, [.int 12, .int 3, .int 0, .int 0, .int 0, .int 0]))]].flatten _ := hP
  have hD : va_D A [[(a, .inr (3, [.int 12, .int 3, .int 0, .int 0, .int 0, .int 0]))]].flatten := hD
  refine lv_aload_n hx hb dX3_init_15 rfl (lv_at hl 0 rfl) ?_
  refine lv_iconst (v := 3) hx hb dX3_init_16 (by decide) ?_
  refine kputN (v := 3) X hP hD hS fpN_X3_18 0 rfl (Nat.le_of_ble_eq_true rfl) dX3_init_17 (fun H locs hP hD hS => ?_)
  have hP : va_P D vwCl [[(a, .inr (3, [.int 12, .int 3, .int 3, .int 0, .int 0, .int 0]))]].flatten _ := hP
  have hD : va_D A [[(a, .inr (3, [.int 12, .int 3, .int 3, .int 0, .int 0, .int 0]))]].flatten := hD
  refine lv_aload_n hx hb dX3_init_20 rfl (lv_at hl 0 rfl) ?_
  refine lv_bipush (v := 6) hx hb dX3_init_21 (by decide) ?_
  refine kputN (v := 6) X hP hD hS fpN_X3_21 0 rfl (Nat.le_of_ble_eq_true rfl) dX3_init_23 (fun H locs hP hD hS => ?_)
  have hP : va_P D vwCl [[(a, .inr (3, [.int 12, .int 3, .int 3, .int 6, .int 0, .int 0]))]].flatten _ := hP
  have hD : va_D A [[(a, .inr (3, [.int 12, .int 3, .int 3, .int 6, .int 0, .int 0]))]].flatten := hD
  refine lv_aload_n hx hb dX3_init_26 rfl (lv_at hl 0 rfl) ?_
  refine lv_iconst (v := 2) hx hb dX3_init_27 (by decide) ?_
  refine kputN (v := 2) X hP hD hS fpN_X3_24 0 rfl (Nat.le_of_ble_eq_true rfl) dX3_init_28 (fun H locs hP hD hS => ?_)
  have hP : va_P D vwCl [[(a, .inr (3, [.int 12, .int 3, .int 3, .int 6, .int 2, .int 0]))]].flatten _ := hP
  have hD : va_D A [[(a, .inr (3, [.int 12, .int 3, .int 3, .int 6, .int 2, .int 0]))]].flatten := hD
  refine lv_aload_n hx hb dX3_init_31 rfl (lv_at hl 0 rfl) ?_
  refine lv_bipush (v := 20) hx hb dX3_init_32 (by decide) ?_
  refine kputN (v := 20) X hP hD hS fpN_X3_27 0 rfl (Nat.le_of_ble_eq_true rfl) dX3_init_34 (fun H locs hP hD hS => ?_)
  have hP : va_P D vwCl [[(a, .inr (3, [.int 12, .int 3, .int 3, .int 6, .int 2, .int 20]))]].flatten _ := hP
  have hD : va_D A [[(a, .inr (3, [.int 12, .int 3, .int 3, .int 6, .int 2, .int 20]))]].flatten := hD
  exact kretN (F := (fun w => ∃ b : Nat → Nat, b 0 = a ∧ w = W_Form k b 0 12 3 3 6 2 20)) X hP hD hS ⟨fun i => a, rfl, rfl⟩ dX3_init_37

theorem fpF_X1_9 : FPF RX1 9 1 0 (.array .long) := ⟨(RX1, TX1, 4), rfl, by decide, inlX1, (wm_r3 (List.mem_of_getElem? (i := 8) rfl)), rfl, rfl, rfl, by decide +kernel, ⟨tyX1, tyX1_ok⟩, nmX1⟩
theorem fpF_X1_15 : FPF RX1 15 1 1 (.array .int) := ⟨(RX1, TX1, 4), rfl, by decide, inlX1, (wm_r3 (List.mem_of_getElem? (i := 9) rfl)), rfl, rfl, rfl, by decide +kernel, ⟨tyX1, tyX1_ok⟩, nmX1⟩
theorem fpF_X1_19 : FPF RX1 19 1 2 (.array .int) := ⟨(RX1, TX1, 4), rfl, by decide, inlX1, (wm_r3 (List.mem_of_getElem? (i := 10) rfl)), rfl, rfl, rfl, by decide +kernel, ⟨tyX1, tyX1_ok⟩, nmX1⟩
theorem fpF_X1_22 : FPF RX1 22 1 3 (.array .long) := ⟨(RX1, TX1, 4), rfl, by decide, inlX1, (wm_r3 (List.mem_of_getElem? (i := 11) rfl)), rfl, rfl, rfl, by decide +kernel, ⟨tyX1, tyX1_ok⟩, nmX1⟩
abbrev rm_Braid_init : Room := ({ frames := 1, cells := 4, slots := 80, locals := 12 } : Room)
set_option maxRecDepth 100000 in
set_option maxHeartbeats 4000000 in
theorem c_Braid_init (l : Launch) (D : va_G) (k : Nat → ClassId) (t : Nat → Nat) (a : Nat) : CN l D k t yX1_init cX1_init 1 rm_Braid_init [.ref a] [[(a, .inr (1, [.null, .null, .null, .null]))]].flatten (fun w => ∃ b : Nat → Nat, b 0 = a ∧ w = W_Braid k b 0 (fun _ => 0) (fun _ => 0) (fun _ => 0) (fun _ => 0)) 4 80 := by
  refine kofN (by decide) rfl (Nat.le_of_ble_eq_true rfl) ?_
  intro p e s m below meth c A ls X hin hP hD hS hl
  have hx := X.1.1
  have hb := X.1.2.1
  have hl : lv_has ls 1 [(0, .ref a)] := hl
  have hP : va_P D vwCl [[(a, .inr (1, [.null, .null, .null, .null]))]].flatten _ := hP
  have hD : va_D A [[(a, .inr (1, [.null, .null, .null, .null]))]].flatten := hD
  refine lv_aload_n hx hb dX1_init_0 rfl (lv_at hl 0 rfl) ?_
  refine kobj X hl (wm_r3 (List.mem_of_getElem? (i := 6) rfl)) (wm_r1 (List.mem_of_getElem? (i := 10) rfl)) (wm_r1 (List.mem_of_getElem? (i := 11) rfl)) dX1_init_1 (Nat.le_of_ble_eq_true rfl) (Nat.le_of_ble_eq_true rfl) ?_
  refine lv_aload_n hx hb dX1_init_4 rfl (lv_at hl 0 rfl) ?_
  refine lv_bipush (v := 16) hx hb dX1_init_5 (by decide) ?_
  refine knewLB (bs := [[(a, .inr (1, [.null, .null, .null, .null]))]]) (n := 16) (N := 16) X hP hD hS (wm_r3 (List.mem_of_getElem? (i := 7) rfl)) (by decide) (by decide) (Nat.le_of_ble_eq_true rfl) (Nat.le_of_ble_eq_true rfl) (Nat.le_of_ble_eq_true rfl) dX1_init_7 (fun q1 H hP hD hS => ?_)
  have hP : va_P D vwCl [[(a, .inr (1, [.null, .null, .null, .null]))], [(q1, .inl (k 1, 16, .inr (.inl (fun _ => 0))))]].flatten _ := hP
  have hD : va_D A [[(a, .inr (1, [.null, .null, .null, .null]))], [(q1, .inl (k 1, 16, .inr (.inl (fun _ => 0))))]].flatten := hD
  refine kputR (v := q1) X hin hP hD hS fpF_X1_9 0 rfl rfl rfl (Nat.le_of_ble_eq_true rfl) dX1_init_9 (fun H locs hP hD hS => ?_)
  have hP : va_P D vwCl [[(a, .inr (1, [.ref q1, .null, .null, .null]))], [(q1, .inl (k 1, 16, .inr (.inl (fun _ => 0))))]].flatten _ := hP
  have hD : va_D A [[(a, .inr (1, [.ref q1, .null, .null, .null]))], [(q1, .inl (k 1, 16, .inr (.inl (fun _ => 0))))]].flatten := hD
  refine lv_aload_n hx hb dX1_init_12 rfl (lv_at hl 0 rfl) ?_
  refine lv_bipush (v := 24) hx hb dX1_init_13 (by decide) ?_
  refine knewIB (bs := [[(a, .inr (1, [.ref q1, .null, .null, .null]))], [(q1, .inl (k 1, 16, .inr (.inl (fun _ => 0))))]]) (n := 24) (N := 24) X hP hD hS (wm_r2 (List.mem_of_getElem? (i := 12) rfl)) (by decide) (by decide) (Nat.le_of_ble_eq_true rfl) (Nat.le_of_ble_eq_true rfl) (Nat.le_of_ble_eq_true rfl) dX1_init_15 (fun q2 H hP hD hS => ?_)
  have hP : va_P D vwCl [[(a, .inr (1, [.ref q1, .null, .null, .null]))], [(q1, .inl (k 1, 16, .inr (.inl (fun _ => 0))))], [(q2, .inl (k 0, 24, .inl (fun _ => 0)))]].flatten _ := hP
  have hD : va_D A [[(a, .inr (1, [.ref q1, .null, .null, .null]))], [(q1, .inl (k 1, 16, .inr (.inl (fun _ => 0))))], [(q2, .inl (k 0, 24, .inl (fun _ => 0)))]].flatten := hD
  refine kputR (v := q2) X hin hP hD hS fpF_X1_15 0 rfl rfl rfl (Nat.le_of_ble_eq_true rfl) dX1_init_17 (fun H locs hP hD hS => ?_)
  have hP : va_P D vwCl [[(a, .inr (1, [.ref q1, .ref q2, .null, .null]))], [(q1, .inl (k 1, 16, .inr (.inl (fun _ => 0))))], [(q2, .inl (k 0, 24, .inl (fun _ => 0)))]].flatten _ := hP
  have hD : va_D A [[(a, .inr (1, [.ref q1, .ref q2, .null, .null]))], [(q1, .inl (k 1, 16, .inr (.inl (fun _ => 0))))], [(q2, .inl (k 0, 24, .inl (fun _ => 0)))]].flatten := hD
  refine lv_aload_n hx hb dX1_init_20 rfl (lv_at hl 0 rfl) ?_
  refine lv_bipush (v := 24) hx hb dX1_init_21 (by decide) ?_
  refine knewIB (bs := [[(a, .inr (1, [.ref q1, .ref q2, .null, .null]))], [(q1, .inl (k 1, 16, .inr (.inl (fun _ => 0))))], [(q2, .inl (k 0, 24, .inl (fun _ => 0)))]]) (n := 24) (N := 24) X hP hD hS (wm_r2 (List.mem_of_getElem? (i := 12) rfl)) (by decide) (by decide) (Nat.le_of_ble_eq_true rfl) (Nat.le_of_ble_eq_true rfl) (Nat.le_of_ble_eq_true rfl) dX1_init_23 (fun q3 H hP hD hS => ?_)
  have hP : va_P D vwCl [[(a, .inr (1, [.ref q1, .ref q2, .null, .null]))], [(q1, .inl (k 1, 16, .inr (.inl (fun _ => 0))))], [(q2, .inl (k 0, 24, .inl (fun _ => 0)))], [(q3, .inl (k 0, 24, .inl (fun _ => 0)))]].flatten _ := hP
  have hD : va_D A [[(a, .inr (1, [.ref q1, .ref q2, .null, .null]))], [(q1, .inl (k 1, 16, .inr (.inl (fun _ => 0))))], [(q2, .inl (k 0, 24, .inl (fun _ => 0)))], [(q3, .inl (k 0, 24, .inl (fun _ => 0)))]].flatten := hD
  refine kputR (v := q3) X hin hP hD hS fpF_X1_19 0 rfl rfl rfl (Nat.le_of_ble_eq_true rfl) dX1_init_25 (fun H locs hP hD hS => ?_)
  have hP : va_P D vwCl [[(a, .inr (1, [.ref q1, .ref q2, .ref q3, .null]))], [(q1, .inl (k 1, 16, .inr (.inl (fun _ => 0))))], [(q2, .inl (k 0, 24, .inl (fun _ => 0)))], [(q3, .inl (k 0, 24, .inl (fun _ => 0)))]].flatten _ := hP
  have hD : va_D A [[(a, .inr (1, [.ref q1, .ref q2, .ref q3, .null]))], [(q1, .inl (k 1, 16, .inr (.inl (fun _ => 0))))], [(q2, .inl (k 0, 24, .inl (fun _ => 0)))], [(q3, .inl (k 0, 24, .inl (fun _ => 0)))]].flatten := hD
  refine lv_aload_n hx hb dX1_init_28 rfl (lv_at hl 0 rfl) ?_
  refine lv_bipush (v := 16) hx hb dX1_init_29 (by decide) ?_
  refine knewLB (bs := [[(a, .inr (1, [.ref q1, .ref q2, .ref q3, .null]))], [(q1, .inl (k 1, 16, .inr (.inl (fun _ => 0))))], [(q2, .inl (k 0, 24, .inl (fun _ => 0)))], [(q3, .inl (k 0, 24, .inl (fun _ => 0)))]]) (n := 16) (N := 16) X hP hD hS (wm_r3 (List.mem_of_getElem? (i := 7) rfl)) (by decide) (by decide) (Nat.le_of_ble_eq_true rfl) (Nat.le_of_ble_eq_true rfl) (Nat.le_of_ble_eq_true rfl) dX1_init_31 (fun q4 H hP hD hS => ?_)
  have hP : va_P D vwCl [[(a, .inr (1, [.ref q1, .ref q2, .ref q3, .null]))], [(q1, .inl (k 1, 16, .inr (.inl (fun _ => 0))))], [(q2, .inl (k 0, 24, .inl (fun _ => 0)))], [(q3, .inl (k 0, 24, .inl (fun _ => 0)))], [(q4, .inl (k 1, 16, .inr (.inl (fun _ => 0))))]].flatten _ := hP
  have hD : va_D A [[(a, .inr (1, [.ref q1, .ref q2, .ref q3, .null]))], [(q1, .inl (k 1, 16, .inr (.inl (fun _ => 0))))], [(q2, .inl (k 0, 24, .inl (fun _ => 0)))], [(q3, .inl (k 0, 24, .inl (fun _ => 0)))], [(q4, .inl (k 1, 16, .inr (.inl (fun _ => 0))))]].flatten := hD
  refine kputR (v := q4) X hin hP hD hS fpF_X1_22 0 rfl rfl rfl (Nat.le_of_ble_eq_true rfl) dX1_init_33 (fun H locs hP hD hS => ?_)
  have hP : va_P D vwCl [[(a, .inr (1, [.ref q1, .ref q2, .ref q3, .ref q4]))], [(q1, .inl (k 1, 16, .inr (.inl (fun _ => 0))))], [(q2, .inl (k 0, 24, .inl (fun _ => 0)))], [(q3, .inl (k 0, 24, .inl (fun _ => 0)))], [(q4, .inl (k 1, 16, .inr (.inl (fun _ => 0))))]].flatten _ := hP
  have hD : va_D A [[(a, .inr (1, [.ref q1, .ref q2, .ref q3, .ref q4]))], [(q1, .inl (k 1, 16, .inr (.inl (fun _ => 0))))], [(q2, .inl (k 0, 24, .inl (fun _ => 0)))], [(q3, .inl (k 0, 24, .inl (fun _ => 0)))], [(q4, .inl (k 1, 16, .inr (.inl (fun _ => 0))))]].flatten := hD
  exact kretN (F := (fun w => ∃ b : Nat → Nat, b 0 = a ∧ w = W_Braid k b 0 (fun _ => 0) (fun _ => 0) (fun _ => 0) (fun _ => 0))) X hP hD hS ⟨fun i => if i < 1 then a else if i < 2 then q1 else if i < 3 then q2 else if i < 4 then q3 else q4, rfl, rfl⟩ dX1_init_36

theorem fn_X5_9 : FN RX5 9 3 [.int 0, .int 0, .int 0, .int 0, .int 0, .int 0] := ⟨(RX3, TX3, 6), rfl, inlX3, (wm_r2 (List.mem_of_getElem? (i := 8) rfl)), (wm_r2 (List.mem_of_getElem? (i := 9) rfl)), (wm_r2 (List.mem_of_getElem? (i := 10) rfl)), rfl, tyX3, tyX3_ok, by decide +kernel⟩
theorem mi_X5_11 : MIN RX5 11 0 yX3_init cX3_init 1 := ⟨⟨by decide +kernel, (wm_r2 (List.mem_of_getElem? (i := 19) rfl)), (wm_r2 (List.mem_of_getElem? (i := 10) rfl)), (wm_r2 (List.mem_of_getElem? (i := 20) rfl))⟩, rfl, by decide +kernel, by decide +kernel, by decide +kernel⟩
theorem fpF_X5_12 : FPF RX5 12 5 0 (.object "CounterBraid$Form") := ⟨(RX5, TX5, 5), rfl, by decide, inlX5, (wm_r2 (List.mem_of_getElem? (i := 11) rfl)), rfl, rfl, rfl, by decide +kernel, ⟨tyX5, tyX5_ok⟩, nmX5⟩
theorem fpF_X5_18 : FPF RX5 18 5 2 (.array .int) := ⟨(RX5, TX5, 5), rfl, by decide, inlX5, (wm_r2 (List.mem_of_getElem? (i := 13) rfl)), rfl, rfl, rfl, by decide +kernel, ⟨tyX5, tyX5_ok⟩, nmX5⟩
theorem fn_X5_22 : FN RX5 22 1 [.null, .null, .null, .null] := ⟨(RX1, TX1, 4), rfl, inlX1, (wm_r2 (List.mem_of_getElem? (i := 14) rfl)), (wm_r2 (List.mem_of_getElem? (i := 15) rfl)), (wm_r2 (List.mem_of_getElem? (i := 16) rfl)), rfl, tyX1, tyX1_ok, by decide +kernel⟩
theorem mi_X5_24 : MIN RX5 24 0 yX1_init cX1_init 1 := ⟨⟨by decide +kernel, (wm_r3 (List.mem_of_getElem? (i := 4) rfl)), (wm_r2 (List.mem_of_getElem? (i := 16) rfl)), (wm_r3 (List.mem_of_getElem? (i := 5) rfl))⟩, rfl, by decide +kernel, by decide +kernel, by decide +kernel⟩
theorem fpF_X5_25 : FPF RX5 25 5 3 (.object "CounterBraid$Braid") := ⟨(RX5, TX5, 5), rfl, by decide, inlX5, (wm_r2 (List.mem_of_getElem? (i := 17) rfl)), rfl, rfl, rfl, by decide +kernel, ⟨tyX5, tyX5_ok⟩, nmX5⟩
theorem fpF_X5_29 : FPF RX5 29 5 4 (.object "CounterBraid$Braid") := ⟨(RX5, TX5, 5), rfl, by decide, inlX5, (wm_r2 (List.mem_of_getElem? (i := 18) rfl)), rfl, rfl, rfl, by decide +kernel, ⟨tyX5, tyX5_ok⟩, nmX5⟩
abbrev rm_State_init : Room := ({ frames := 2, cells := 12, slots := 190, locals := 32 } : Room)
set_option maxRecDepth 100000 in
set_option maxHeartbeats 4000000 in
theorem c_State_init (l : Launch) (D : va_G) (k : Nat → ClassId) (t : Nat → Nat) (a : Nat) : CN l D k t yX5_init cX5_init 1 rm_State_init [.ref a] [[(a, .inr (5, [.null, .int 0, .null, .null, .null]))]].flatten (fun w => ∃ b : Nat → Nat, b 0 = a ∧ w = W_State k b 0 12 3 3 6 2 20 0 (fun _ => 0) (fun _ => 0) (fun _ => 0) (fun _ => 0) (fun _ => 0) (fun _ => 0) (fun _ => 0) (fun _ => 0) (fun _ => 0)) 12 190 := by
  refine kofN (by decide) rfl (Nat.le_of_ble_eq_true rfl) ?_
  intro p e s m below meth c A ls X hin hP hD hS hl
  have hx := X.1.1
  have hb := X.1.2.1
  have hl : lv_has ls 1 [(0, .ref a)] := hl
  have hP : va_P D vwCl [[(a, .inr (5, [.null, .int 0, .null, .null, .null]))]].flatten _ := hP
  have hD : va_D A [[(a, .inr (5, [.null, .int 0, .null, .null, .null]))]].flatten := hD
  refine lv_aload_n hx hb dX5_init_0 rfl (lv_at hl 0 rfl) ?_
  refine kobj X hl (wm_r2 (List.mem_of_getElem? (i := 7) rfl)) (wm_r1 (List.mem_of_getElem? (i := 10) rfl)) (wm_r1 (List.mem_of_getElem? (i := 11) rfl)) dX5_init_1 (Nat.le_of_ble_eq_true rfl) (Nat.le_of_ble_eq_true rfl) ?_
  refine lv_aload_n hx hb dX5_init_4 rfl (lv_at hl 0 rfl) ?_
  refine knewB (bs := [[(a, .inr (5, [.null, .int 0, .null, .null, .null]))]]) (N := 6) X hP hD hS fn_X5_9 rfl (Nat.le_of_ble_eq_true rfl) (Nat.le_of_ble_eq_true rfl) dX5_init_5 (fun q1 H hP hD hS => ?_)
  have hP : va_P D vwCl [[(a, .inr (5, [.null, .int 0, .null, .null, .null]))], [(q1, .inr (3, [.int 0, .int 0, .int 0, .int 0, .int 0, .int 0]))]].flatten _ := hP
  have hD : va_D A [[(a, .inr (5, [.null, .int 0, .null, .null, .null]))], [(q1, .inr (3, [.int 0, .int 0, .int 0, .int 0, .int 0, .int 0]))]].flatten := hD
  refine lv_dup hx hb dX5_init_8 rfl ?_
  refine kcJ (bs := [[(a, .inr (5, [.null, .int 0, .null, .null, .null]))], [(q1, .inr (3, [.int 0, .int 0, .int 0, .int 0, .int 0, .int 0]))]]) (br := [[(a, .inr (5, [.null, .int 0, .null, .null, .null]))]]) (bc := [[(q1, .inr (3, [.int 0, .int 0, .int 0, .int 0, .int 0, .int 0]))]]) (F := (fun w => ∃ b : Nat → Nat, b 0 = q1 ∧ w = W_Form k b 0 12 3 3 6 2 20)) X hP hD hS (c_Form_init l D k t q1) mi_X5_11 hl [0] [1] ⟨rfl, rfl⟩ ⟨Nat.le_of_ble_eq_true rfl, Nat.le_of_ble_eq_true rfl⟩ rfl rfl rfl rfl (Nat.le_of_ble_eq_true rfl) ⟨Nat.le_of_ble_eq_true rfl, Nat.le_of_ble_eq_true rfl⟩ dX5_init_9 (fun ws H locs hF hPn hDn hS => ?_)
  obtain ⟨b1, hb1, rfl⟩ := hF
  subst hb1
  have hP : va_P D vwCl [[(a, .inr (5, [.null, .int 0, .null, .null, .null]))], W_Form k b1 0 12 3 3 6 2 20].flatten _ := hPn
  have hD : va_D A [[(a, .inr (5, [.null, .int 0, .null, .null, .null]))], W_Form k b1 0 12 3 3 6 2 20].flatten := hDn
  refine kputR (v := (b1 0)) X hin hP hD hS fpF_X5_12 0 rfl rfl rfl (Nat.le_of_ble_eq_true rfl) dX5_init_12 (fun H locs hP hD hS => ?_)
  have hP : va_P D vwCl [[(a, .inr (5, [.ref (b1 0), .int 0, .null, .null, .null]))], W_Form k b1 0 12 3 3 6 2 20].flatten _ := hP
  have hD : va_D A [[(a, .inr (5, [.ref (b1 0), .int 0, .null, .null, .null]))], W_Form k b1 0 12 3 3 6 2 20].flatten := hD
  refine lv_aload_n hx hb dX5_init_15 rfl (lv_at hl 0 rfl) ?_
  refine lv_bipush (v := 16) hx hb dX5_init_16 (by decide) ?_
  refine knewIB (bs := [[(a, .inr (5, [.ref (b1 0), .int 0, .null, .null, .null]))], W_Form k b1 0 12 3 3 6 2 20]) (n := 16) (N := 16) X hP hD hS (wm_r2 (List.mem_of_getElem? (i := 12) rfl)) (by decide) (by decide) (Nat.le_of_ble_eq_true rfl) (Nat.le_of_ble_eq_true rfl) (Nat.le_of_ble_eq_true rfl) dX5_init_18 (fun q2 H hP hD hS => ?_)
  have hP : va_P D vwCl [[(a, .inr (5, [.ref (b1 0), .int 0, .null, .null, .null]))], W_Form k b1 0 12 3 3 6 2 20, [(q2, .inl (k 0, 16, .inl (fun _ => 0)))]].flatten _ := hP
  have hD : va_D A [[(a, .inr (5, [.ref (b1 0), .int 0, .null, .null, .null]))], W_Form k b1 0 12 3 3 6 2 20, [(q2, .inl (k 0, 16, .inl (fun _ => 0)))]].flatten := hD
  refine kputR (v := q2) X hin hP hD hS fpF_X5_18 0 rfl rfl rfl (Nat.le_of_ble_eq_true rfl) dX5_init_20 (fun H locs hP hD hS => ?_)
  have hP : va_P D vwCl [[(a, .inr (5, [.ref (b1 0), .int 0, .ref q2, .null, .null]))], W_Form k b1 0 12 3 3 6 2 20, [(q2, .inl (k 0, 16, .inl (fun _ => 0)))]].flatten _ := hP
  have hD : va_D A [[(a, .inr (5, [.ref (b1 0), .int 0, .ref q2, .null, .null]))], W_Form k b1 0 12 3 3 6 2 20, [(q2, .inl (k 0, 16, .inl (fun _ => 0)))]].flatten := hD
  refine lv_aload_n hx hb dX5_init_23 rfl (lv_at hl 0 rfl) ?_
  refine knewB (bs := [[(a, .inr (5, [.ref (b1 0), .int 0, .ref q2, .null, .null]))], W_Form k b1 0 12 3 3 6 2 20, [(q2, .inl (k 0, 16, .inl (fun _ => 0)))]]) (N := 4) X hP hD hS fn_X5_22 rfl (Nat.le_of_ble_eq_true rfl) (Nat.le_of_ble_eq_true rfl) dX5_init_24 (fun q3 H hP hD hS => ?_)
  have hP : va_P D vwCl [[(a, .inr (5, [.ref (b1 0), .int 0, .ref q2, .null, .null]))], W_Form k b1 0 12 3 3 6 2 20, [(q2, .inl (k 0, 16, .inl (fun _ => 0)))], [(q3, .inr (1, [.null, .null, .null, .null]))]].flatten _ := hP
  have hD : va_D A [[(a, .inr (5, [.ref (b1 0), .int 0, .ref q2, .null, .null]))], W_Form k b1 0 12 3 3 6 2 20, [(q2, .inl (k 0, 16, .inl (fun _ => 0)))], [(q3, .inr (1, [.null, .null, .null, .null]))]].flatten := hD
  refine lv_dup hx hb dX5_init_27 rfl ?_
  refine kcJ (bs := [[(a, .inr (5, [.ref (b1 0), .int 0, .ref q2, .null, .null]))], W_Form k b1 0 12 3 3 6 2 20, [(q2, .inl (k 0, 16, .inl (fun _ => 0)))], [(q3, .inr (1, [.null, .null, .null, .null]))]]) (br := [[(a, .inr (5, [.ref (b1 0), .int 0, .ref q2, .null, .null]))], W_Form k b1 0 12 3 3 6 2 20, [(q2, .inl (k 0, 16, .inl (fun _ => 0)))]]) (bc := [[(q3, .inr (1, [.null, .null, .null, .null]))]]) (F := (fun w => ∃ b : Nat → Nat, b 0 = q3 ∧ w = W_Braid k b 0 (fun _ => 0) (fun _ => 0) (fun _ => 0) (fun _ => 0))) X hP hD hS (c_Braid_init l D k t q3) mi_X5_24 hl [0, 1, 2] [3] ⟨rfl, rfl⟩ ⟨Nat.le_of_ble_eq_true rfl, Nat.le_of_ble_eq_true rfl⟩ rfl rfl rfl rfl (Nat.le_of_ble_eq_true rfl) ⟨Nat.le_of_ble_eq_true rfl, Nat.le_of_ble_eq_true rfl⟩ dX5_init_28 (fun ws H locs hF hPn hDn hS => ?_)
  obtain ⟨b3, hb3, rfl⟩ := hF
  subst hb3
  have hP : va_P D vwCl [[(a, .inr (5, [.ref (b1 0), .int 0, .ref q2, .null, .null]))], W_Form k b1 0 12 3 3 6 2 20, [(q2, .inl (k 0, 16, .inl (fun _ => 0)))], W_Braid k b3 0 (fun _ => 0) (fun _ => 0) (fun _ => 0) (fun _ => 0)].flatten _ := hPn
  have hD : va_D A [[(a, .inr (5, [.ref (b1 0), .int 0, .ref q2, .null, .null]))], W_Form k b1 0 12 3 3 6 2 20, [(q2, .inl (k 0, 16, .inl (fun _ => 0)))], W_Braid k b3 0 (fun _ => 0) (fun _ => 0) (fun _ => 0) (fun _ => 0)].flatten := hDn
  refine kputR (v := (b3 0)) X hin hP hD hS fpF_X5_25 0 rfl rfl rfl (Nat.le_of_ble_eq_true rfl) dX5_init_31 (fun H locs hP hD hS => ?_)
  have hP : va_P D vwCl [[(a, .inr (5, [.ref (b1 0), .int 0, .ref q2, .ref (b3 0), .null]))], W_Form k b1 0 12 3 3 6 2 20, [(q2, .inl (k 0, 16, .inl (fun _ => 0)))], W_Braid k b3 0 (fun _ => 0) (fun _ => 0) (fun _ => 0) (fun _ => 0)].flatten _ := hP
  have hD : va_D A [[(a, .inr (5, [.ref (b1 0), .int 0, .ref q2, .ref (b3 0), .null]))], W_Form k b1 0 12 3 3 6 2 20, [(q2, .inl (k 0, 16, .inl (fun _ => 0)))], W_Braid k b3 0 (fun _ => 0) (fun _ => 0) (fun _ => 0) (fun _ => 0)].flatten := hD
  refine lv_aload_n hx hb dX5_init_34 rfl (lv_at hl 0 rfl) ?_
  refine knewB (bs := [[(a, .inr (5, [.ref (b1 0), .int 0, .ref q2, .ref (b3 0), .null]))], W_Form k b1 0 12 3 3 6 2 20, [(q2, .inl (k 0, 16, .inl (fun _ => 0)))], W_Braid k b3 0 (fun _ => 0) (fun _ => 0) (fun _ => 0) (fun _ => 0)]) (N := 4) X hP hD hS fn_X5_22 rfl (Nat.le_of_ble_eq_true rfl) (Nat.le_of_ble_eq_true rfl) dX5_init_35 (fun q4 H hP hD hS => ?_)
  have hP : va_P D vwCl [[(a, .inr (5, [.ref (b1 0), .int 0, .ref q2, .ref (b3 0), .null]))], W_Form k b1 0 12 3 3 6 2 20, [(q2, .inl (k 0, 16, .inl (fun _ => 0)))], W_Braid k b3 0 (fun _ => 0) (fun _ => 0) (fun _ => 0) (fun _ => 0), [(q4, .inr (1, [.null, .null, .null, .null]))]].flatten _ := hP
  have hD : va_D A [[(a, .inr (5, [.ref (b1 0), .int 0, .ref q2, .ref (b3 0), .null]))], W_Form k b1 0 12 3 3 6 2 20, [(q2, .inl (k 0, 16, .inl (fun _ => 0)))], W_Braid k b3 0 (fun _ => 0) (fun _ => 0) (fun _ => 0) (fun _ => 0), [(q4, .inr (1, [.null, .null, .null, .null]))]].flatten := hD
  refine lv_dup hx hb dX5_init_38 rfl ?_
  refine kcJ (bs := [[(a, .inr (5, [.ref (b1 0), .int 0, .ref q2, .ref (b3 0), .null]))], W_Form k b1 0 12 3 3 6 2 20, [(q2, .inl (k 0, 16, .inl (fun _ => 0)))], W_Braid k b3 0 (fun _ => 0) (fun _ => 0) (fun _ => 0) (fun _ => 0), [(q4, .inr (1, [.null, .null, .null, .null]))]]) (br := [[(a, .inr (5, [.ref (b1 0), .int 0, .ref q2, .ref (b3 0), .null]))], W_Form k b1 0 12 3 3 6 2 20, [(q2, .inl (k 0, 16, .inl (fun _ => 0)))], W_Braid k b3 0 (fun _ => 0) (fun _ => 0) (fun _ => 0) (fun _ => 0)]) (bc := [[(q4, .inr (1, [.null, .null, .null, .null]))]]) (F := (fun w => ∃ b : Nat → Nat, b 0 = q4 ∧ w = W_Braid k b 0 (fun _ => 0) (fun _ => 0) (fun _ => 0) (fun _ => 0))) X hP hD hS (c_Braid_init l D k t q4) mi_X5_24 hl [0, 1, 2, 3] [4] ⟨rfl, rfl⟩ ⟨Nat.le_of_ble_eq_true rfl, Nat.le_of_ble_eq_true rfl⟩ rfl rfl rfl rfl (Nat.le_of_ble_eq_true rfl) ⟨Nat.le_of_ble_eq_true rfl, Nat.le_of_ble_eq_true rfl⟩ dX5_init_39 (fun ws H locs hF hPn hDn hS => ?_)
  obtain ⟨b4, hb4, rfl⟩ := hF
  subst hb4
  have hP : va_P D vwCl [[(a, .inr (5, [.ref (b1 0), .int 0, .ref q2, .ref (b3 0), .null]))], W_Form k b1 0 12 3 3 6 2 20, [(q2, .inl (k 0, 16, .inl (fun _ => 0)))], W_Braid k b3 0 (fun _ => 0) (fun _ => 0) (fun _ => 0) (fun _ => 0), W_Braid k b4 0 (fun _ => 0) (fun _ => 0) (fun _ => 0) (fun _ => 0)].flatten _ := hPn
  have hD : va_D A [[(a, .inr (5, [.ref (b1 0), .int 0, .ref q2, .ref (b3 0), .null]))], W_Form k b1 0 12 3 3 6 2 20, [(q2, .inl (k 0, 16, .inl (fun _ => 0)))], W_Braid k b3 0 (fun _ => 0) (fun _ => 0) (fun _ => 0) (fun _ => 0), W_Braid k b4 0 (fun _ => 0) (fun _ => 0) (fun _ => 0) (fun _ => 0)].flatten := hDn
  refine kputR (v := (b4 0)) X hin hP hD hS fpF_X5_29 0 rfl rfl rfl (Nat.le_of_ble_eq_true rfl) dX5_init_42 (fun H locs hP hD hS => ?_)
  have hP : va_P D vwCl [[(a, .inr (5, [.ref (b1 0), .int 0, .ref q2, .ref (b3 0), .ref (b4 0)]))], W_Form k b1 0 12 3 3 6 2 20, [(q2, .inl (k 0, 16, .inl (fun _ => 0)))], W_Braid k b3 0 (fun _ => 0) (fun _ => 0) (fun _ => 0) (fun _ => 0), W_Braid k b4 0 (fun _ => 0) (fun _ => 0) (fun _ => 0) (fun _ => 0)].flatten _ := hP
  have hD : va_D A [[(a, .inr (5, [.ref (b1 0), .int 0, .ref q2, .ref (b3 0), .ref (b4 0)]))], W_Form k b1 0 12 3 3 6 2 20, [(q2, .inl (k 0, 16, .inl (fun _ => 0)))], W_Braid k b3 0 (fun _ => 0) (fun _ => 0) (fun _ => 0) (fun _ => 0), W_Braid k b4 0 (fun _ => 0) (fun _ => 0) (fun _ => 0) (fun _ => 0)].flatten := hD
  exact kretN (F := (fun w => ∃ b : Nat → Nat, b 0 = a ∧ w = W_State k b 0 12 3 3 6 2 20 0 (fun _ => 0) (fun _ => 0) (fun _ => 0) (fun _ => 0) (fun _ => 0) (fun _ => 0) (fun _ => 0) (fun _ => 0) (fun _ => 0))) X hP hD hS ⟨fun i => if i < 1 then a else if i < 2 then b1 (i - 1) else if i < 3 then q2 else if i < 8 then b3 (i - 3) else b4 (i - 8), rfl, rfl⟩ dX5_init_45

theorem fpF_X6_9 : FPF RX6 9 6 0 (.array .int) := ⟨(RX6, TX6, 7), rfl, by decide, inlX6, (wm_r3 (List.mem_of_getElem? (i := 21) rfl)), rfl, rfl, rfl, by decide +kernel, ⟨tyX6, tyX6_ok⟩, nmX6⟩
theorem fpF_X6_15 : FPF RX6 15 6 2 (.array .int) := ⟨(RX6, TX6, 7), rfl, by decide, inlX6, (wm_r3 (List.mem_of_getElem? (i := 22) rfl)), rfl, rfl, rfl, by decide +kernel, ⟨tyX6, tyX6_ok⟩, nmX6⟩
theorem fpF_X6_18 : FPF RX6 18 6 3 (.array .int) := ⟨(RX6, TX6, 7), rfl, by decide, inlX6, (wm_r3 (List.mem_of_getElem? (i := 23) rfl)), rfl, rfl, rfl, by decide +kernel, ⟨tyX6, tyX6_ok⟩, nmX6⟩
abbrev rm_Text_init : Room := ({ frames := 1, cells := 3, slots := 200, locals := 12 } : Room)
set_option maxRecDepth 100000 in
set_option maxHeartbeats 4000000 in
theorem c_Text_init (l : Launch) (D : va_G) (k : Nat → ClassId) (t : Nat → Nat) (a : Nat) : CN l D k t yX6_init cX6_init 1 rm_Text_init [.ref a] [[(a, .inr (6, [.null, .int 0, .null, .null, .int 0, .int 0, .int 0]))]].flatten (fun w => ∃ b : Nat → Nat, b 0 = a ∧ w = W_Text k b 0 (fun _ => 0) 0 (fun _ => 0) (fun _ => 0) 0 0 0) 3 200 := by
  refine kofN (by decide) rfl (Nat.le_of_ble_eq_true rfl) ?_
  intro p e s m below meth c A ls X hin hP hD hS hl
  have hx := X.1.1
  have hb := X.1.2.1
  have hl : lv_has ls 1 [(0, .ref a)] := hl
  have hP : va_P D vwCl [[(a, .inr (6, [.null, .int 0, .null, .null, .int 0, .int 0, .int 0]))]].flatten _ := hP
  have hD : va_D A [[(a, .inr (6, [.null, .int 0, .null, .null, .int 0, .int 0, .int 0]))]].flatten := hD
  refine lv_aload_n hx hb dX6_init_0 rfl (lv_at hl 0 rfl) ?_
  refine kobj X hl (wm_r3 (List.mem_of_getElem? (i := 20) rfl)) (wm_r1 (List.mem_of_getElem? (i := 10) rfl)) (wm_r1 (List.mem_of_getElem? (i := 11) rfl)) dX6_init_1 (Nat.le_of_ble_eq_true rfl) (Nat.le_of_ble_eq_true rfl) ?_
  refine lv_aload_n hx hb dX6_init_4 rfl (lv_at hl 0 rfl) ?_
  refine lv_bipush (v := 100) hx hb dX6_init_5 (by decide) ?_
  refine knewIB (bs := [[(a, .inr (6, [.null, .int 0, .null, .null, .int 0, .int 0, .int 0]))]]) (n := 100) (N := 100) X hP hD hS (wm_r2 (List.mem_of_getElem? (i := 12) rfl)) (by decide) (by decide) (Nat.le_of_ble_eq_true rfl) (Nat.le_of_ble_eq_true rfl) (Nat.le_of_ble_eq_true rfl) dX6_init_7 (fun q1 H hP hD hS => ?_)
  have hP : va_P D vwCl [[(a, .inr (6, [.null, .int 0, .null, .null, .int 0, .int 0, .int 0]))], [(q1, .inl (k 0, 100, .inl (fun _ => 0)))]].flatten _ := hP
  have hD : va_D A [[(a, .inr (6, [.null, .int 0, .null, .null, .int 0, .int 0, .int 0]))], [(q1, .inl (k 0, 100, .inl (fun _ => 0)))]].flatten := hD
  refine kputR (v := q1) X hin hP hD hS fpF_X6_9 0 rfl rfl rfl (Nat.le_of_ble_eq_true rfl) dX6_init_9 (fun H locs hP hD hS => ?_)
  have hP : va_P D vwCl [[(a, .inr (6, [.ref q1, .int 0, .null, .null, .int 0, .int 0, .int 0]))], [(q1, .inl (k 0, 100, .inl (fun _ => 0)))]].flatten _ := hP
  have hD : va_D A [[(a, .inr (6, [.ref q1, .int 0, .null, .null, .int 0, .int 0, .int 0]))], [(q1, .inl (k 0, 100, .inl (fun _ => 0)))]].flatten := hD
  refine lv_aload_n hx hb dX6_init_12 rfl (lv_at hl 0 rfl) ?_
  refine lv_bipush (v := 50) hx hb dX6_init_13 (by decide) ?_
  refine knewIB (bs := [[(a, .inr (6, [.ref q1, .int 0, .null, .null, .int 0, .int 0, .int 0]))], [(q1, .inl (k 0, 100, .inl (fun _ => 0)))]]) (n := 50) (N := 50) X hP hD hS (wm_r2 (List.mem_of_getElem? (i := 12) rfl)) (by decide) (by decide) (Nat.le_of_ble_eq_true rfl) (Nat.le_of_ble_eq_true rfl) (Nat.le_of_ble_eq_true rfl) dX6_init_15 (fun q2 H hP hD hS => ?_)
  have hP : va_P D vwCl [[(a, .inr (6, [.ref q1, .int 0, .null, .null, .int 0, .int 0, .int 0]))], [(q1, .inl (k 0, 100, .inl (fun _ => 0)))], [(q2, .inl (k 0, 50, .inl (fun _ => 0)))]].flatten _ := hP
  have hD : va_D A [[(a, .inr (6, [.ref q1, .int 0, .null, .null, .int 0, .int 0, .int 0]))], [(q1, .inl (k 0, 100, .inl (fun _ => 0)))], [(q2, .inl (k 0, 50, .inl (fun _ => 0)))]].flatten := hD
  refine kputR (v := q2) X hin hP hD hS fpF_X6_15 0 rfl rfl rfl (Nat.le_of_ble_eq_true rfl) dX6_init_17 (fun H locs hP hD hS => ?_)
  have hP : va_P D vwCl [[(a, .inr (6, [.ref q1, .int 0, .ref q2, .null, .int 0, .int 0, .int 0]))], [(q1, .inl (k 0, 100, .inl (fun _ => 0)))], [(q2, .inl (k 0, 50, .inl (fun _ => 0)))]].flatten _ := hP
  have hD : va_D A [[(a, .inr (6, [.ref q1, .int 0, .ref q2, .null, .int 0, .int 0, .int 0]))], [(q1, .inl (k 0, 100, .inl (fun _ => 0)))], [(q2, .inl (k 0, 50, .inl (fun _ => 0)))]].flatten := hD
  refine lv_aload_n hx hb dX6_init_20 rfl (lv_at hl 0 rfl) ?_
  refine lv_bipush (v := 50) hx hb dX6_init_21 (by decide) ?_
  refine knewIB (bs := [[(a, .inr (6, [.ref q1, .int 0, .ref q2, .null, .int 0, .int 0, .int 0]))], [(q1, .inl (k 0, 100, .inl (fun _ => 0)))], [(q2, .inl (k 0, 50, .inl (fun _ => 0)))]]) (n := 50) (N := 50) X hP hD hS (wm_r2 (List.mem_of_getElem? (i := 12) rfl)) (by decide) (by decide) (Nat.le_of_ble_eq_true rfl) (Nat.le_of_ble_eq_true rfl) (Nat.le_of_ble_eq_true rfl) dX6_init_23 (fun q3 H hP hD hS => ?_)
  have hP : va_P D vwCl [[(a, .inr (6, [.ref q1, .int 0, .ref q2, .null, .int 0, .int 0, .int 0]))], [(q1, .inl (k 0, 100, .inl (fun _ => 0)))], [(q2, .inl (k 0, 50, .inl (fun _ => 0)))], [(q3, .inl (k 0, 50, .inl (fun _ => 0)))]].flatten _ := hP
  have hD : va_D A [[(a, .inr (6, [.ref q1, .int 0, .ref q2, .null, .int 0, .int 0, .int 0]))], [(q1, .inl (k 0, 100, .inl (fun _ => 0)))], [(q2, .inl (k 0, 50, .inl (fun _ => 0)))], [(q3, .inl (k 0, 50, .inl (fun _ => 0)))]].flatten := hD
  refine kputR (v := q3) X hin hP hD hS fpF_X6_18 0 rfl rfl rfl (Nat.le_of_ble_eq_true rfl) dX6_init_25 (fun H locs hP hD hS => ?_)
  have hP : va_P D vwCl [[(a, .inr (6, [.ref q1, .int 0, .ref q2, .ref q3, .int 0, .int 0, .int 0]))], [(q1, .inl (k 0, 100, .inl (fun _ => 0)))], [(q2, .inl (k 0, 50, .inl (fun _ => 0)))], [(q3, .inl (k 0, 50, .inl (fun _ => 0)))]].flatten _ := hP
  have hD : va_D A [[(a, .inr (6, [.ref q1, .int 0, .ref q2, .ref q3, .int 0, .int 0, .int 0]))], [(q1, .inl (k 0, 100, .inl (fun _ => 0)))], [(q2, .inl (k 0, 50, .inl (fun _ => 0)))], [(q3, .inl (k 0, 50, .inl (fun _ => 0)))]].flatten := hD
  exact kretN (F := (fun w => ∃ b : Nat → Nat, b 0 = a ∧ w = W_Text k b 0 (fun _ => 0) 0 (fun _ => 0) (fun _ => 0) 0 0 0)) X hP hD hS ⟨fun i => if i < 1 then a else if i < 2 then q1 else if i < 3 then q2 else q3, rfl, rfl⟩ dX6_init_28

