-- ===== end of PART A; then your names; then what follows =====
/-! THE CLAIM OUT OF ONE WALK OF THE LAW'S BODY. Your part is whole_start (and what it stands on); all else here is the same for every law, but numbers. -/
def R_law : String := "CounterBraidLaw"
def lw_P (b : Addr) (xs : List Int32) (args : Array Value) (s : State) : Prop := args = #[.ref b] ∧ s.IntsAt b xs ∧ xs.length ≤ 260 ∧ (Jvm.Cond.and given_1 narrow_1).before args s = true
/-- what a walk over the start with the record d0 says of its end, said of the start itself -/
theorem lw_closed {s t : State} {o : Outcome} {d0 : Drawn} {L : List Loc} {k n : Nat} (hd0 : s.drawn.sameBut d0 lw_cs) (hv : ∃ v, o = .returned v) (hW : (s.setDrawn d0).WarmedH t.vm) (hs : (s.setDrawn d0).sameButNew ({ t with vm := s.vm } : State) L k n) : State.butDraws s t lw_cs (fun t1 => Framed s o t1 L k n) := by
  have h2 : t.drawn = d0 := congrArg State.drawn hs.1
  refine ⟨⟨hv, hW, State.sameButNew.setDrawn hs s.drawn⟩, ?_, by decide⟩
  rw [h2]
  exact hd0
def lw_Q (_ : Array Value) (s : State) (o : Outcome) (t : State) : Prop := o = .returned (some (.int 1)) ∧ State.butDraws s t lw_cs (fun t1 => Framed s o t1 [] 600000 7302250)
def lw_Z (below : List Frame) (a : Array Value) (s : State) : State → Prop := fun t => ∃ o, t.status = .running ∧ Ended t below o ∧ lw_Q a s o t
/-- the law's own end, with 1 on the stack, nothing written that was there before, its room as the claim has it; d0: the record of draws at this point (at the entry s.drawn: begin with 'refine W.base ?_' and 'have hd0 := Drawn.sameBut.refl s.drawn lw_cs') -/
theorem lw_ret {p : Program} {l : Launch} {e : Env} {s : State} {m : MethodId} {below : List Frame} {meth : Method} {c : Code} {b : Nat} {d0 : Drawn} (hd0 : s.drawn.sameBut d0 lw_cs) (hx : p.tables.exec = Jvm.exec) (hb : c.code = code) (hr : meth.sig.returnType = ret) (hlocks : meth.locks = false) {pc : Nat} {H : Heap} {ls : Array Slot} (hdg : decode code pc = .ok (.ireturn, 1)) : W p l e room_1 (s.setDrawn d0) m #[Value.ref b] below meth c H [] 600000 7302250 (lw_Z below #[Value.ref b] s) (F0 m pc ls [.int 1]) := by
  intro T hT X
  obtain ⟨fs, hret, hrun, hended, hW, hframe⟩ := X.leave (v := some (.int 1)) (hlocks := hlocks) (fun h => by rw [hr] at h; cases h)
  have hmeth' : T.vm.method? m = some meth := X.method'
  refine ⟨T.setFrames fs, ?_, .returned (some (.int 1)), hrun, hended, rfl, lw_closed hd0 ⟨_, rfl⟩ hW hframe⟩
  jvm_step X.here [X.here.top, hx, hb, hdg, hmeth', hr, ret, narrow_b1]
  (try refine ⟨rfl, ?_⟩); (try refine ⟨rfl, ?_⟩)
  first | (intro acts; rw [hret _ acts rfl rfl rfl]) | rw [hret _ _ rfl rfl rfl]
  exact Steps.refl _
/-- what holds at the law's entry: the machine, the code, the tables' words (any of lw_tbl by 'hts w (by decide +kernel)'), the script of L ints xs at the cell b, what the Statement gives of the start (any of its parts by flat_of_before) -/
def lw_At (p : Program) (s : State) (m : MethodId) (meth : Method) (c : Code) (b L : Nat) (xs : Nat → Int32) : Prop :=
  p.tables.exec = Jvm.exec ∧ c.code = code ∧ meth.sig.returnType = ret ∧ c.maxLocals = 20 ∧ s.vm.findClass R_law = some m.cls ∧ (∀ w ∈ lw_tbl, w.before #[Value.ref b] s = true) ∧ va_X b L xs s s.heap ∧ b < s.heap.size ∧ meth.locks = false ∧ (Jvm.Cond.and given_1 narrow_1).before #[Value.ref b] s = true
/-! what the law finds at its entry -/
theorem env_arr {s : State} {n : String} {N : Nat} {f : Nat → Int32} (hN : N < 2 ^ 31) {b : Nat} (harr : (Cond.arrayOf (.static "CounterBraid" n "[I") .int).before #[Value.ref b] s = true) (hlen : (Cond.eq (.length (.static "CounterBraid" n "[I")) (.int (Int32.ofNat N))).before #[Value.ref b] s = true) (hel : ∀ j : Nat, j < N → (Cond.eq (.elem (.static "CounterBraid" n "[I") (.int (Int32.ofNat j))) (.int (f j))).before #[Value.ref b] s = true) (hlay : (Cond.laysStatic "CounterBraid" n "[I").before #[Value.ref b] s = true) (hini : (Cond.initialized "CounterBraid").before #[Value.ref b] s = true) : ∃ q : Nat, envZ n q N f (fun q : Nat => s.heap.size ≤ q) s s.heap := by
  have hA : ∀ a : Nat, a < s.heap.size → ¬ (fun q : Nat => s.heap.size ≤ q) a := fun a h => Nat.not_le.mpr h
  obtain ⟨q, h1, h2⟩ := va_Tof (f := fun j => .int (f j)) hN harr (va_eqt hlen) (fun j hj => va_eqt (hel j hj)) hA
  exact ⟨q, va_Zof hlay hini h1 hA, h2⟩
theorem nestM_tbl : ∀ q ∈ nestM, Cond.methodLinkNest q.1 q.2.1 q.2.2.1 q.2.2.2 ∈ lw_tbl := by decide +kernel
theorem nestF_tbl : ∀ q ∈ nestF, Cond.fieldLinkNest RX3 q.1 RX7 q.2 "[I" RX7 ∈ lw_tbl := by decide +kernel
theorem ao_tbl : Cond.arrayOver (.object RX5) ∈ lw_tbl ∧ Cond.arrayOver (.array .int) ∈ lw_tbl := by decide +kernel
theorem ls_tbl0 : Cond.laysStatic "CounterBraid" "FLOW_FACTORS" "[I" ∈ lw_tbl := by decide +kernel
theorem ls_tbl1 : Cond.laysStatic "CounterBraid" "FLOW_OFFSETS" "[I" ∈ lw_tbl := by decide +kernel
theorem ls_tbl2 : Cond.laysStatic "CounterBraid" "COUNTER_FACTORS" "[I" ∈ lw_tbl := by decide +kernel
theorem ls_tbl3 : Cond.laysStatic "CounterBraid" "COUNTER_OFFSETS" "[I" ∈ lw_tbl := by decide +kernel
set_option maxRecDepth 100000 in
set_option maxHeartbeats 4000000 in
theorem lw_set {p : Program} {s : State} {m : MethodId} {meth : Method} {c : Code} (l : Launch) {b L : Nat} {xs : Nat → Int32} (C0 : lw_At p s m meth c b L xs) : ∃ (D : va_G) (k : Nat → ClassId) (t : Nat → Nat), BX l D k t p s m #[Value.ref b] meth c cL_law 20 RL (some .boolean) (fun q : Nat => s.heap.size ≤ q) ∧ AOS s := by
  obtain ⟨hx, hb, hr, hml, hown, hts0, hX, hbl, hlocks, hgv⟩ := C0
  have hts : ∀ w ∈ ALL, w.before #[Value.ref b] s = true := fun w hw => hts0 w (ALL_tbl w hw).1
  have hg := flat_of_before _ hgv
  obtain ⟨c0, i0, hK0⟩ := u_known (C := RX0) (T := TX0) (N := 9) (n := 9) hts inlX0 (hts _ (wm_r4 (List.mem_of_getElem? (i := 4) rfl)))
  obtain ⟨c1, i1, hK1⟩ := u_known (C := RX1) (T := TX1) (N := 4) (n := 4) hts inlX1 (hts _ (wm_r2 (List.mem_of_getElem? (i := 15) rfl)))
  obtain ⟨c2, i2, hK2⟩ := u_known (C := RX2) (T := TX2) (N := 2) (n := 2) hts inlX2 (hts _ (wm_r2 (List.mem_of_getElem? (i := 1) rfl)))
  obtain ⟨c3, i3, hK3⟩ := u_known (C := RX3) (T := TX3) (N := 6) (n := 6) hts inlX3 (hts _ (wm_r2 (List.mem_of_getElem? (i := 9) rfl)))
  obtain ⟨c4, i4, hK4⟩ := u_known (C := RX4) (T := TX4) (N := 2) (n := 2) hts inlX4 (hts _ (wm_r1 (List.mem_of_getElem? (i := 17) rfl)))
  obtain ⟨c5, i5, hK5⟩ := u_known (C := RX5) (T := TX5) (N := 5) (n := 5) hts inlX5 (hts _ (wm_r1 (List.mem_of_getElem? (i := 13) rfl)))
  obtain ⟨c6, i6, hK6⟩ := u_known (C := RX6) (T := TX6) (N := 7) (n := 7) hts inlX6 (hts _ (wm_r1 (List.mem_of_getElem? (i := 21) rfl)))
  obtain ⟨c7, i7, hK7⟩ := u_known (C := RX7) (T := TX7) (N := 5) (n := 5) hts inlX7 (hts _ (wm_r1 (List.mem_of_getElem? (i := 1) rfl)))
  obtain ⟨a0, kA0, p0, f0, g0, t0⟩ := Cond.arrayClass_spec (hts _ (wm_r2 (List.mem_of_getElem? (i := 12) rfl)))
  obtain ⟨a1, kA1, p1, f1, g1, t1⟩ := Cond.arrayClass_spec (hts _ (wm_r3 (List.mem_of_getElem? (i := 7) rfl)))
  obtain ⟨p2, a2, kA2, f2, -, g2, t2, n2⟩ := Cond.arrayOver_spec (hts0 _ ao_tbl.1)
  obtain ⟨p3, a3, kA3, f3, g3, t3, n3⟩ := Cond.arrayOver_specA (hts0 _ ao_tbl.2)
  obtain ⟨e0, hE0⟩ := env_arr (n := "FLOW_FACTORS") (N := 4) (f := sv0) (b := b) (by decide) (hg _ (by decide +kernel)) (hg _ (by decide +kernel)) (fun j hj => by rcases (show j = 0 ∨ j = 1 ∨ j = 2 ∨ j = 3 by omega) with rfl | rfl | rfl | rfl <;> exact hg _ (by decide +kernel)) (hts0 _ ls_tbl0) (hts _ (wm_r1 (List.mem_of_getElem? (i := 2) rfl)))
  obtain ⟨e1, hE1⟩ := env_arr (n := "FLOW_OFFSETS") (N := 4) (f := sv1) (b := b) (by decide) (hg _ (by decide +kernel)) (hg _ (by decide +kernel)) (fun j hj => by rcases (show j = 0 ∨ j = 1 ∨ j = 2 ∨ j = 3 by omega) with rfl | rfl | rfl | rfl <;> exact hg _ (by decide +kernel)) (hts0 _ ls_tbl1) (hts _ (wm_r1 (List.mem_of_getElem? (i := 2) rfl)))
  obtain ⟨e2, hE2⟩ := env_arr (n := "COUNTER_FACTORS") (N := 3) (f := sv2) (b := b) (by decide) (hg _ (by decide +kernel)) (hg _ (by decide +kernel)) (fun j hj => by rcases (show j = 0 ∨ j = 1 ∨ j = 2 by omega) with rfl | rfl | rfl <;> exact hg _ (by decide +kernel)) (hts0 _ ls_tbl2) (hts _ (wm_r1 (List.mem_of_getElem? (i := 2) rfl)))
  obtain ⟨e3, hE3⟩ := env_arr (n := "COUNTER_OFFSETS") (N := 3) (f := sv3) (b := b) (by decide) (hg _ (by decide +kernel)) (hg _ (by decide +kernel)) (fun j hj => by rcases (show j = 0 ∨ j = 1 ∨ j = 2 by omega) with rfl | rfl | rfl <;> exact hg _ (by decide +kernel)) (hts0 _ ls_tbl3) (hts _ (wm_r1 (List.mem_of_getElem? (i := 2) rfl)))
  refine ⟨(fun c => if c = 0 then c0 else if c = 1 then c1 else if c = 2 then c2 else if c = 3 then c3 else if c = 4 then c4 else if c = 5 then c5 else if c = 6 then c6 else c7, fun c => if c = 0 then i0 else if c = 1 then i1 else if c = 2 then i2 else if c = 3 then i3 else if c = 4 then i4 else if c = 5 then i5 else if c = 6 then i6 else i7), fun j => if j = 0 then a0 else if j = 1 then a1 else if j = 2 then a2 else a3, fun j => if j = 0 then e0 else if j = 1 then e1 else if j = 2 then e2 else e3, ⟨⟨hx, hb, hml, hown, hts⟩, hr, hlocks, ⟨fun c q hq => ?_, fun j q hq => ?_⟩, fun q h => h, fun q hq => va_Nw.of rfl (hts0 _ (nestM_tbl q hq)), fun q hq => va_Nw.of rfl (hts0 _ (nestF_tbl q hq)), hE0, hE1, hE2, hE3⟩, ⟨va_AO.of (hts0 _ ao_tbl.1), Jvm.Stand.arrayOver_alikeB (Vm.Alike.refl s.vm) (hts0 _ ao_tbl.2)⟩⟩
  · match c, hq with
    | 0, hq => cases hq; exact hK0
    | 1, hq => cases hq; exact hK1
    | 2, hq => cases hq; exact hK2
    | 3, hq => cases hq; exact hK3
    | 4, hq => cases hq; exact hK4
    | 5, hq => cases hq; exact hK5
    | 6, hq => cases hq; exact hK6
    | 7, hq => cases hq; exact hK7
    | c + 8, hq => simp [vwCl] at hq
  · match j, hq with
    | 0, hq => cases hq; exact ⟨fun n z => ⟨fun k h => (by cases h), kA0, g0, p0, t0⟩, f0⟩
    | 1, hq => cases hq; exact ⟨fun n z => ⟨fun k h => (by cases h), kA1, g1, p1, t1⟩, f1⟩
    | 2, hq => cases hq; exact ⟨fun n z => ⟨fun k h => (by cases h), kA2, g2, p2, t2⟩, kA2, p2, g2, t2, f2, n2⟩
    | 3, hq => cases hq; exact ⟨fun n z => ⟨fun k h => (by cases h), kA3, g3, p3, t3⟩, n3⟩
    | j + 4, hq => simp at hq
abbrev ini_Bounds : BoundsS := (((((fun _ => 0), (fun _ => 0)), (fun _ => 0)), ((fun _ => 0), (fun _ => 0))), (((fun _ => 0), (fun _ _ => 0)), ((fun _ => 0), 0)))
/-- an object as it is made; h: its history's rows -/
def ini_CB (h : HistoryS) : CBS := (((ini_State, h), (((fun _ => 0, 0), (fun _ => 0, fun _ => 0)), ((0, 0), 0))), ((ini_Bounds, ini_Bounds), ini_State))
theorem ini_CB_W {k : Nat → ClassId} {b : Nat → Nat} {h : HistoryS} : WCB k b 0 (ini_CB h) = W_CB k b 0 12 3 3 6 2 20 0 (fun _ => 0) (fun _ => 0) (fun _ => 0) (fun _ => 0) (fun _ => 0) (fun _ => 0) (fun _ => 0) (fun _ => 0) (fun _ => 0) h (fun _ => 0) 0 (fun _ => 0) (fun _ => 0) 0 0 0 (fun _ => 0) (fun _ => 0) (fun _ => 0) (fun _ => 0) (fun _ => 0) (fun _ => 0) (fun _ _ => 0) (fun _ => 0) 0 (fun _ => 0) (fun _ => 0) (fun _ => 0) (fun _ => 0) (fun _ => 0) (fun _ => 0) (fun _ _ => 0) (fun _ => 0) 0 12 3 3 6 2 20 0 (fun _ => 0) (fun _ => 0) (fun _ => 0) (fun _ => 0) (fun _ => 0) (fun _ => 0) (fun _ => 0) (fun _ => 0) (fun _ => 0) := rfl
theorem fn_L_9 : FN RL 9 7 [.null, .null, .null, .null, .null] := ⟨(RX7, TX7, 5), rfl, inlX7, (wm_r1 (List.mem_of_getElem? (i := 0) rfl)), (wm_r1 (List.mem_of_getElem? (i := 1) rfl)), (wm_r1 (List.mem_of_getElem? (i := 2) rfl)), rfl, tyX7, tyX7_ok, by decide +kernel⟩
theorem mi_L_70 : MI RL 70 0 yX7_init cX7_init 1 := ⟨⟨(wm_r1 (List.mem_of_getElem? (i := 6) rfl)), (wm_r1 (List.mem_of_getElem? (i := 7) rfl)), (wm_r1 (List.mem_of_getElem? (i := 2) rfl)), (wm_r1 (List.mem_of_getElem? (i := 8) rfl))⟩, rfl, by decide +kernel, by decide +kernel, by decide +kernel⟩
section LE
variable {p : Program} {l : Launch} {e : Env} {s : State} {m : MethodId} {args : Array Value} {below : List Frame} {meth : Method} {c : Code} {Q : State → Prop} {D : va_G} {k : Nat → ClassId} {t : Nat → Nat} {A : Nat → Prop} {ls : Array Slot} {b L : Nat} {xs : Nat → Int32}
set_option maxRecDepth 100000 in
set_option maxHeartbeats 4000000 in
theorem lw_begin (hpure : ∀ (cv : Int32 → Int32) (h1 h2 : HistoryS), ini_h h1 → ini_h h2 → ∃ out, f_L_law 200 cv (ini_CB h1) (ini_CB h2) = some out) (X : BX l D k t p s m args meth c cL_law 20 RL (some .boolean) A) (hAO : AOS s) (hX : va_X b L xs s s.heap) (hbl : b < s.heap.size) (hbA : ¬ A b) (hL : L ≤ 260) (hl : lv_has ls 20 [(0, .ref b)]) (kf : ∀ (H : Heap) (locs : List Loc) (ls : Array Slot), va_S A s.heap H locs → W p l e room_1 s m args below meth c H locs (0 + 1 + 164 + 1 + 164) (0 + 5 + 2175 + 5 + 2175) Q (F0 m 1039 ls [.int 1])) : W p l e room_1 s m args below meth c s.heap [] 0 0 Q (F0 m 0 ls []) := by
  have hx := X.1.1
  have hb := X.1.2.1
  have hS : va_S A s.heap s.heap [] := va_S.rf
  have hP : va_P D vwCl ([] : List va_W).flatten s.heap := fun k q h => by simp at h
  have hD : va_D A ([] : List va_W).flatten := ⟨fun i j p q h => by simp at h, fun k q h => by simp at h⟩
  refine knewB (bs := []) (N := 5) X hP hD hS fn_L_9 rfl (Nat.le_of_ble_eq_true rfl) (Nat.le_of_ble_eq_true rfl) dL_law_0 (fun q1 H hP hD hS => ?_)
  have hP : va_P D vwCl [[(q1, .inr (7, [.null, .null, .null, .null, .null]))]].flatten _ := hP
  have hD : va_D A [[(q1, .inr (7, [.null, .null, .null, .null, .null]))]].flatten := hD
  refine lv_dup hx hb dL_law_3 rfl ?_
  refine kcI (bs := [[(q1, .inr (7, [.null, .null, .null, .null, .null]))]]) (br := []) (bc := [[(q1, .inr (7, [.null, .null, .null, .null, .null]))]]) (F := (fun w => ∃ (b : Nat → Nat) (h : HistoryS), b 0 = q1 ∧ ini_h h ∧ w = W_CB k b 0 12 3 3 6 2 20 0 (fun _ => 0) (fun _ => 0) (fun _ => 0) (fun _ => 0) (fun _ => 0) (fun _ => 0) (fun _ => 0) (fun _ => 0) (fun _ => 0) h (fun _ => 0) 0 (fun _ => 0) (fun _ => 0) 0 0 0 (fun _ => 0) (fun _ => 0) (fun _ => 0) (fun _ => 0) (fun _ => 0) (fun _ => 0) (fun _ _ => 0) (fun _ => 0) 0 (fun _ => 0) (fun _ => 0) (fun _ => 0) (fun _ => 0) (fun _ => 0) (fun _ => 0) (fun _ _ => 0) (fun _ => 0) 0 12 3 3 6 2 20 0 (fun _ => 0) (fun _ => 0) (fun _ => 0) (fun _ => 0) (fun _ => 0) (fun _ => 0) (fun _ => 0) (fun _ => 0) (fun _ => 0))) X hAO hP hD hS (c_CB_init l D k t q1) mi_L_70 hl [] [0] ⟨rfl, rfl⟩ ⟨Nat.le_of_ble_eq_true rfl, Nat.le_of_ble_eq_true rfl⟩ rfl rfl rfl rfl (Nat.le_of_ble_eq_true rfl) ⟨Nat.le_of_ble_eq_true rfl, Nat.le_of_ble_eq_true rfl⟩ dL_law_4 (fun ws H locs hF hPn hDn hS => ?_)
  obtain ⟨b1, h1, hb1, hh1, rfl⟩ := hF
  subst hb1
  have hP : va_P D vwCl [WCB k b1 0 (ini_CB h1)].flatten _ := hPn
  have hD : va_D A [WCB k b1 0 (ini_CB h1)].flatten := hDn
  refine lv_astore_n (lv' := [(1, .ref (b1 0)), (0, .ref b)]) hx hb dL_law_7 rfl hl (by decide) rfl (fun ls hl => ?_)
  refine knewB (bs := [WCB k b1 0 (ini_CB h1)]) (N := 5) X hP hD hS fn_L_9 rfl (Nat.le_of_ble_eq_true rfl) (Nat.le_of_ble_eq_true rfl) dL_law_8 (fun q2 H hP hD hS => ?_)
  have hP : va_P D vwCl [WCB k b1 0 (ini_CB h1), [(q2, .inr (7, [.null, .null, .null, .null, .null]))]].flatten _ := hP
  have hD : va_D A [WCB k b1 0 (ini_CB h1), [(q2, .inr (7, [.null, .null, .null, .null, .null]))]].flatten := hD
  refine lv_dup hx hb dL_law_11 rfl ?_
  refine kcI (bs := [WCB k b1 0 (ini_CB h1), [(q2, .inr (7, [.null, .null, .null, .null, .null]))]]) (br := [WCB k b1 0 (ini_CB h1)]) (bc := [[(q2, .inr (7, [.null, .null, .null, .null, .null]))]]) (F := (fun w => ∃ (b : Nat → Nat) (h : HistoryS), b 0 = q2 ∧ ini_h h ∧ w = W_CB k b 0 12 3 3 6 2 20 0 (fun _ => 0) (fun _ => 0) (fun _ => 0) (fun _ => 0) (fun _ => 0) (fun _ => 0) (fun _ => 0) (fun _ => 0) (fun _ => 0) h (fun _ => 0) 0 (fun _ => 0) (fun _ => 0) 0 0 0 (fun _ => 0) (fun _ => 0) (fun _ => 0) (fun _ => 0) (fun _ => 0) (fun _ => 0) (fun _ _ => 0) (fun _ => 0) 0 (fun _ => 0) (fun _ => 0) (fun _ => 0) (fun _ => 0) (fun _ => 0) (fun _ => 0) (fun _ _ => 0) (fun _ => 0) 0 12 3 3 6 2 20 0 (fun _ => 0) (fun _ => 0) (fun _ => 0) (fun _ => 0) (fun _ => 0) (fun _ => 0) (fun _ => 0) (fun _ => 0) (fun _ => 0))) X hAO hP hD hS (c_CB_init l D k t q2) mi_L_70 hl [0] [1] ⟨rfl, rfl⟩ ⟨Nat.le_of_ble_eq_true rfl, Nat.le_of_ble_eq_true rfl⟩ rfl rfl rfl rfl (Nat.le_of_ble_eq_true rfl) ⟨Nat.le_of_ble_eq_true rfl, Nat.le_of_ble_eq_true rfl⟩ dL_law_12 (fun ws H locs hF hPn hDn hS => ?_)
  obtain ⟨b2, h2, hb2, hh2, rfl⟩ := hF
  subst hb2
  have hP : va_P D vwCl [WCB k b1 0 (ini_CB h1), WCB k b2 0 (ini_CB h2)].flatten _ := hPn
  have hD : va_D A [WCB k b1 0 (ini_CB h1), WCB k b2 0 (ini_CB h2)].flatten := hDn
  refine lv_astore_n (lv' := [(2, .ref (b2 0)), (1, .ref (b1 0)), (0, .ref b)]) hx hb dL_law_15 rfl hl (by decide) rfl (fun ls hl => ?_)
  obtain ⟨out, hf⟩ := hpure (cellv L xs) h1 h2 hh1 hh2
  exact w_L_law_16 X b1 0 (ini_CB h1) b2 0 (ini_CB h2) 200 (cellv L xs) (xs := xs) (b := b) (L := L) ⟨⟨Nat.le_of_ble_eq_true rfl, Nat.le_of_ble_eq_true rfl⟩, hX, hbl, hbA, ⟨hL, rfl⟩, kf⟩ out H locs ls hP hD hS (lv_sub (l' := [(0, .ref b), (1, .ref (b1 0)), (2, .ref (b2 0))]) hl [2, 1, 0] rfl) hf
end LE
set_option maxRecDepth 100000 in
set_option maxHeartbeats 4000000 in
theorem lw_from (hpure : ∀ (cv : Int32 → Int32) (h1 h2 : HistoryS), ini_h h1 → ini_h h2 → ∃ out, f_L_law 200 cv (ini_CB h1) (ini_CB h2) = some out) {p : Program} {e : Env} {s : State} {m : MethodId} {below : List Frame} {meth : Method} {c : Code} (l : Launch) {b L : Nat} {xs : Nat → Int32} (hL : L ≤ 260) (C0 : lw_At p s m meth c b L xs) : W p l e room_1 s m #[Value.ref b] below meth c s.heap [] 0 0 (lw_Z below #[Value.ref b] s) (entryFrame m ([Value.ref b] : List Value).toArray 20) := by
  obtain ⟨D, k, t, X, hAO⟩ := lw_set l C0
  obtain ⟨hx, hb, hr, hml, hown, hts0, hX, hbl, hlocks, hgv⟩ := C0
  have hl := lv_entry ([.ref b]) (n := 20) (Nat.le_of_ble_eq_true rfl)
  rw [lg_entry_eq]
  generalize (lg_sl ([.ref b]) ++ List.replicate (20 - (lg_sl ([.ref b])).length) Slot.unset).toArray = ls at hl ⊢
  have hl : lv_has ls 20 [(0, .ref b)] := hl
  refine lw_begin hpure X hAO hX hbl (Nat.not_le.mpr hbl) hL hl (fun H locs ls hS => ?_)
  refine va_forget (fun q hq => hS.2.2 q hq) ?_
  refine W.widen (k := 600000) (n := 7302250) (Nat.le_of_ble_eq_true rfl) (Nat.le_of_ble_eq_true rfl) ?_
  exact W.base (lw_ret (Drawn.sameBut.refl s.drawn lw_cs) hx hb hr hlocks dL_law_1039)
