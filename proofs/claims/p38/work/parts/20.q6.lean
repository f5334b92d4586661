/-! behind the turns; the whole law -/
theorem q_SS0 {M K : Nat} {ks : FI} (c : Nat) : cx_SS M K ks (fun _ => 0) c = 0 := cx_sm_z fun f _ => ite_self _
theorem cx_mi_zero {m : Int32} : ∀ n, cx_mi (fun _ => 0) m n = 0 := by
  intro n
  induction n with
  | zero => rfl
  | succ n ih =>
    rw [cx_mi, ih]
    by_cases z : cx_bt m n = true
    · rw [if_pos z]
      by_cases y : cx_ct m n = 0
      · rw [if_pos y]
      · rw [if_neg y]; exact ite_self _
    · rw [if_neg z]
theorem q_sLadd {t t' : FJ} : ∀ n, n ≤ 16 → cx_sL (addT t t') n = cx_sL t n + cx_sL t' n := by
  intro n
  induction n with
  | zero => intro _; rfl
  | succ n ih =>
    intro h
    rw [cx_sL, cx_sL, cx_sL, ih (by omega)]
    unfold addT
    rw [if_pos (by omega), Int64.add_assoc, Int64.add_assoc, ← Int64.add_assoc (cx_sL t' n), Int64.add_comm (cx_sL t' n), Int64.add_assoc (t n)]
theorem q_marks {D M : Nat} {S S1 S' : Nat → Nat} (hS : ∀ c, S c + S1 c = S' c) : cx_sm (fun c => if S' c / 2 ^ D = 0 then 0 else 1) M = cx_sm (fun c => if S c / 2 ^ D = 0 then 0 else 1) M + cx_jc D S S1 M := by
  unfold cx_jc
  rw [← cx_sm_add]
  refine cx_sm_eq fun c _ => ?_
  try dsimp only
  rw [← hS c]
  by_cases z : S c / 2 ^ D = 0
  · rw [if_pos z, if_pos z, Nat.zero_add]
  · have h1 : S c / 2 ^ D ≤ (S c + S1 c) / 2 ^ D := Nat.div_le_div_right (Nat.le_add_right _ _)
    rw [if_neg z, if_neg z, if_neg (show ¬ (S c + S1 c) / 2 ^ D = 0 from fun w => z (Nat.le_zero.mp (by rw [w] at h1; exact h1)))]
section QT
variable {M D K N Q R F : Nat} {ks : FI} {t1 t2 t1' t2' : FJ} {s s0 s1 : CBS}
theorem law_L544 (o0 : OB M D K N Q R F ks t1 t2 s0) (o1 : OB M D K N Q 20 F ks t1' t2' s1) (hS0 : cx_SS M K ks t1' = cx_SS M K ks t1) (hS1 : cx_SS M K ks t2' = cx_SS M K ks t2) {KK : Int32 → Option Int32} : f_L_law_L544 200 (nI M) s0 s1 KK 200 0 = KK (nI M) := by
  have c1 := (ob_c o0).1
  have key : ∀ (n j : Nat), j ≤ M → M < j + n → f_L_law_L544 200 (nI M) s0 s1 KK n (nI j) = KK (nI M) := by
    intro n
    induction n with
    | zero => intro j h1 h2; omega
    | succ n ih =>
      intro j h1 h2
      rw [f_L_law_L544]
      by_cases z : j = M
      · subst z
        rw [if_pos (nI_le (Nat.le_refl _) (by omega))]
      · have hj : j < M := by omega
        have e1 : f_W_rest 200 0 (nI j) s0 = some (nI (cx_SS M K ks t1 j % 2 ^ D)) := q_rest o0 (b := 0) (by omega) hj
        have e2 : f_W_rest 200 0 (nI j) s1 = some (nI (cx_SS M K ks t1' j % 2 ^ D)) := q_rest o1 (b := 0) (by omega) hj
        have e3 : f_W_rest 200 1 (nI j) s0 = some (nI (cx_SS M K ks t2 j % 2 ^ D)) := q_rest o0 (b := 1) (by omega) hj
        have e4 : f_W_rest 200 1 (nI j) s1 = some (nI (cx_SS M K ks t2' j % 2 ^ D)) := q_rest o1 (b := 1) (by omega) hj
        have e5 : f_W_isMarked 200 1 (nI j) s0 = some (if cx_SS M K ks t2 j / 2 ^ D = 0 then 0 else 1) := q_mark o0 (b := 1) (by omega) hj
        have e6 : f_W_isMarked 200 1 (nI j) s1 = some (if cx_SS M K ks t2' j / 2 ^ D = 0 then 0 else 1) := q_mark o1 (b := 1) (by omega) hj
        rw [hS0] at e2
        rw [hS1] at e4 e6
        rw [if_neg (nI_ge hj (by omega)), e1, cx_ob, e2, cx_ob, if_pos rfl, e3, cx_ob, e4, cx_ob, if_pos rfl, e5, cx_ob, e6, cx_ob, if_pos rfl, nI_1]
        exact ih (j + 1) (by omega) (by omega)
  exact key 200 0 (by omega) (by omega)
theorem law_L613 (o0 : OB M D K N Q R F ks t1 t2 s0) (o1 : OB M D K N Q 20 F ks t1' t2' s1) (hS0 : cx_SS M K ks t1' = cx_SS M K ks t1) (hS1 : cx_SS M K ks t2' = cx_SS M K ks t2) {KK : Int32 → Option Int32} : f_L_law_L613 200 (nI N) s0 s1 KK 200 0 = KK (nI N) := by
  have c4 := (ob_c o0).2.2.2.1
  have key : ∀ (n j : Nat), j ≤ N → N < j + n → f_L_law_L613 200 (nI N) s0 s1 KK n (nI j) = KK (nI N) := by
    intro n
    induction n with
    | zero => intro j h1 h2; omega
    | succ n ih =>
      intro j h1 h2
      rw [f_L_law_L613]
      by_cases z : j = N
      · subst z
        rw [if_pos (nI_le (Nat.le_refl _) (by omega))]
      · have hj : j < N := by omega
        have e1 : f_W_above 200 0 (nI j) s0 = some (lN (cx_sC D N Q (cx_SS M K ks t1) j)) := q_above o0 (b := 0) (by omega) hj
        have e2 : f_W_above 200 0 (nI j) s1 = some (lN (cx_sC D N Q (cx_SS M K ks t1') j)) := q_above o1 (b := 0) (by omega) hj
        have e3 : f_W_above 200 1 (nI j) s0 = some (lN (cx_sC D N Q (cx_SS M K ks t2) j)) := q_above o0 (b := 1) (by omega) hj
        have e4 : f_W_above 200 1 (nI j) s1 = some (lN (cx_sC D N Q (cx_SS M K ks t2') j)) := q_above o1 (b := 1) (by omega) hj
        rw [hS0] at e2
        rw [hS1] at e4
        rw [if_neg (nI_ge hj (by omega)), e1, cx_ob, e2, cx_ob, if_pos rfl, e3, cx_ob, e4, cx_ob, if_pos rfl, nI_1]
        exact ih (j + 1) (by omega) (by omega)
  exact key 200 0 (by omega) (by omega)
theorem law_L685 (o0 : OB M D K N Q R F ks t1 t2 s) {KK : Int32 → Int32 → Option Int32} : f_L_law_L685 200 (nI M) s KK 200 0 0 = KK (nI (cx_sm (fun c => if cx_SS M K ks t1 c / 2 ^ D = 0 then 0 else 1) M)) (nI M) := by
  have c1 := (ob_c o0).1
  have key : ∀ (n j : Nat), j ≤ M → M < j + n → f_L_law_L685 200 (nI M) s KK n (nI (cx_sm (fun c => if cx_SS M K ks t1 c / 2 ^ D = 0 then 0 else 1) j)) (nI j) = KK (nI (cx_sm (fun c => if cx_SS M K ks t1 c / 2 ^ D = 0 then 0 else 1) M)) (nI M) := by
    intro n
    induction n with
    | zero => intro j h1 h2; omega
    | succ n ih =>
      intro j h1 h2
      rw [f_L_law_L685]
      by_cases z : j = M
      · subst z
        rw [if_pos (nI_le (Nat.le_refl _) (by omega))]
      · have hj : j < M := by omega
        have e5 : f_W_isMarked 200 0 (nI j) s = some (if cx_SS M K ks t1 j / 2 ^ D = 0 then 0 else 1) := q_mark o0 (b := 0) (by omega) hj
        have hh := ih (j + 1) (by omega) (by omega)
        rw [cx_sm] at hh
        rw [if_neg (nI_ge hj (by omega)), e5, cx_ob, nI_1]
        by_cases y : cx_SS M K ks t1 j / 2 ^ D = 0
        · rw [if_pos y, Nat.add_zero] at hh
          rw [if_pos y, Int32.add_zero]
          exact hh
        · rw [if_neg y] at hh
          rw [if_neg y, nI_1]
          exact hh
  exact key 200 0 (by omega) (by omega)
theorem law_L724 (o0 : OB M D K N Q R F ks t1 t2 s) {KK : Int32 → Int32 → Option Int32} : f_L_law_L724 200 (nI M) s KK 200 0 0 = KK (nI (cx_sm (fun c => if cx_SS M K ks t1 c / 2 ^ D = 0 then 0 else 1) M)) (nI M) := by
  have c1 := (ob_c o0).1
  have key : ∀ (n j : Nat), j ≤ M → M < j + n → f_L_law_L724 200 (nI M) s KK n (nI (cx_sm (fun c => if cx_SS M K ks t1 c / 2 ^ D = 0 then 0 else 1) j)) (nI j) = KK (nI (cx_sm (fun c => if cx_SS M K ks t1 c / 2 ^ D = 0 then 0 else 1) M)) (nI M) := by
    intro n
    induction n with
    | zero => intro j h1 h2; omega
    | succ n ih =>
      intro j h1 h2
      rw [f_L_law_L724]
      by_cases z : j = M
      · subst z
        rw [if_pos (nI_le (Nat.le_refl _) (by omega))]
      · have hj : j < M := by omega
        have e5 : f_W_isMarked 200 0 (nI j) s = some (if cx_SS M K ks t1 j / 2 ^ D = 0 then 0 else 1) := q_mark o0 (b := 0) (by omega) hj
        have hh := ih (j + 1) (by omega) (by omega)
        rw [cx_sm] at hh
        rw [if_neg (nI_ge hj (by omega)), e5, cx_ob, nI_1]
        by_cases y : cx_SS M K ks t1 j / 2 ^ D = 0
        · rw [if_pos y, Nat.add_zero] at hh
          rw [if_pos y, Int32.add_zero]
          exact hh
        · rw [if_neg y] at hh
          rw [if_neg y, nI_1]
          exact hh
  exact key 200 0 (by omega) (by omega)
/-- a braid without counts: all flows are certain -/
theorem law_zero (h : OB M D K N Q R F ks (fun _ => 0) t2 s) {f : Nat} (hf : f < F) : (cx_FL M D K N Q R F ks (cx_SS M K ks (fun _ => 0)) R).1 f = (cx_FL M D K N Q R F ks (cx_SS M K ks (fun _ => 0)) R).2 f := by
  obtain ⟨s1, s2, s3, s4, s5, s6, s7, s8, s9, s10, s11⟩ := ob_c h
  obtain ⟨l, u, a, e1, e2, e3, h1, h2, h3⟩ := aB_snd h 0 R hf
  have e1 : (cx_FL M D K N Q R F ks (cx_SS M K ks (fun _ => 0)) R).1 f = lN l := e1
  have e2 : (cx_FL M D K N Q R F ks (cx_SS M K ks (fun _ => 0)) R).2 f = lN u := e2
  have e3 : (0 : Int64) = lN a := e3
  have h0 : (0 : Int64).toInt = 0 := rfl
  have ha : a = 0 := by
    have := congrArg Int64.toInt e3
    rw [pk_lT (by omega)] at this
    omega
  have m0 := (aB_le (M := M) (D := D) (K := K) (N := N) (Q := Q) (R := R) (F := F) (ks := ks) (Nat.zero_le R) (cx_SS M K ks (fun _ => 0)) f).2
  have hz : (cx_FL M D K N Q R F ks (cx_SS M K ks (fun _ => 0)) 0).2 f = 0 := by
    show cx_mi (cx_gF D (cx_SS M K ks (fun _ => 0)) (cx_OV M D N Q R (cx_SS M K ks (fun _ => 0))).2) (cx_bF M K ks f) 24 = 0
    refine Eq.trans (cx_mi_eq (h := fun _ => 0) fun p hp hbt => ?_) (cx_mi_zero 24)
    have hpM : p < M := cx_pK_lt (by omega) s1.2 (by omega) hbt
    obtain ⟨l', u', q1, q2, q3, q4, q5, q6, q7⟩ := aC_snd h 0 hpM
    have q2 : (cx_OV M D N Q R (cx_SS M K ks (fun _ => 0))).2 p = lN u' := q2
    have q6 : cx_SS M K ks (fun _ => 0) p / 2 ^ D = 0 → u' = 0 := q6
    have hu : u' = 0 := q6 (by rw [q_SS0, Nat.zero_div])
    rw [cx_gF_lN s2.2 q2, q_SS0, hu, Nat.zero_mod, Nat.zero_mul]
    rfl
  rw [hz, e2] at m0
  have hu : u ≤ 0 := (pk_lLE (b := 0) (by omega) (by omega)).mp m0
  rw [e1, e2]
  exact congrArg lN (by omega)
theorem law_J908 (h : OB M D K N Q R F ks t1 t2 s) (hF : 1 ≤ F) : GL (f_L_law_J908 200 (nI M) (nI D) (nI N) s) := by
  obtain ⟨v, ev⟩ := q_digest h
  obtain ⟨a1, e1, x1⟩ := q_count_bad1 (s := s)
  have g1 := OB_same h x1
  obtain ⟨a2, e2, x2⟩ := q_count_bad2 g1 hF
  have g2 := OB_same g1 x2
  obtain ⟨a3, e3, x3⟩ := q_add_bad (s := a2)
  have g3 := OB_same g2 x3
  obtain ⟨a4, e4, x4⟩ := q_setFirst_bad (s := a3)
  have g4 := OB_same g3 x4
  obtain ⟨a5, e5, x5⟩ := q_addFlow_bad (s := a4)
  have g5 := OB_same g4 x5
  obtain ⟨a6, e6, x6⟩ := q_bA_bad g5 hF
  have hx : a6.1.1.1 = s.1.1.1 := congrArg Prod.fst (x6.trans (x5.trans (x4.trans (x3.trans (x2.trans x1)))))
  unfold f_L_law_J908
  rw [ev, cx_ob, q_bits h, cx_ob, if_pos rfl, e1, cx_ob]
  try dsimp only
  rw [if_pos rfl, e2, cx_ob]
  try dsimp only
  rw [if_pos rfl, e3, cx_ob]
  try dsimp only
  rw [if_pos rfl, e4, cx_ob]
  try dsimp only
  rw [if_pos rfl, e5, cx_ob]
  try dsimp only
  rw [if_pos rfl, (q_form g5).2.2.2.2.2, cx_ob, if_pos rfl, e6, cx_ob]
  try dsimp only
  rw [if_pos rfl, q_digest_eq hx, ev, cx_ob, if_pos rfl]
  exact ⟨_, rfl⟩
set_option maxHeartbeats 1000000 in
theorem law_tail (hF : 1 ≤ F) (hI : LI M D K N Q R F ks 12 s0 s1) : GL (f_L_law_L544 200 (nI M) s0 s1 (fun i162 => f_L_law_L613 200 (nI N) s0 s1 (fun i178 => (f_W_total 200 0 0 s0).bind (fun r179 => (f_W_total 200 1 0 r179.2).bind (fun r180 => f_L_law_L685 200 (nI M) r180.2 (fun i192 i193 => (f_W_addBraid 200 1 0 r180.2).bind (fun r194 => f_L_law_L724 200 (nI M) r194.2 (fun i208 i209 => if r194.1 = (i208 - i192) then (f_W_total 200 0 0 r194.2).bind (fun r210 => if r210.1 = (r179.1 + r180.1) then (f_L_areCountersSound 200 0 r210.2).bind (fun r211 => if r211.1 = 0 then none else (f_L_areBoundsSound 200 0 7 r211.2).bind (fun r212 => if r212.1 = 0 then none else (f_W_total 200 0 0 r212.2).bind (fun r213 => (f_W_clear 200 1 r213.2).bind (fun r214 => (f_W_addBraid 200 0 1 r214.2).bind (fun r215 => if r215.1 = i208 then (f_W_total 200 1 0 r215.2).bind (fun r218 => if r218.1 = r213.1 then (f_W_total 200 1 2 r218.2).bind (fun r219 => (f_W_total 200 0 2 r219.2).bind (fun r220 => if r219.1 = r220.1 then (f_W_total 200 1 3 r220.2).bind (fun r221 => (f_W_total 200 0 3 r221.2).bind (fun r222 => if r221.1 = r222.1 then (f_W_lastRound 200 1 r222.2).bind (fun r223 => (f_W_lastRound 200 0 r223.2).bind (fun r224 => if r223.1 = r224.1 then (f_W_clear 200 0 r224.2).bind (fun r225 => if r225.1 = r213.1 then (f_W_certain 200 0 r225.2).bind (fun r226 => if r226.1 = ((1 <<< ((nI F) &&& 31)) - 1) then f_L_law_J908 200 (nI M) (nI D) (nI N) r226.2 else (f_W_form 200 5 r226.2).bind (fun r244 => if r244 ≤ 0 then f_L_law_J908 200 (nI M) (nI D) (nI N) r226.2 else f_L_law_J906)) else f_L_law_J906) else f_L_law_J906)) else f_L_law_J906)) else f_L_law_J906)) else f_L_law_J906) else f_L_law_J906))))) else none) else none) 200 0 0)) 200 0 0))) 200 0) 200 0) := by
  obtain ⟨t1, t2, t1', t2', o0, o1, h3, h4⟩ := hI
  obtain ⟨c1, c2, c3, c4, c5, c6, c7, c8, c9, c10, c11⟩ := ob_c o0
  have hS0 : cx_SS M K ks t1' = cx_SS M K ks t1 := q_SSeq fun f hf => ((h3 f hf).1).symm
  have hS1 : cx_SS M K ks t2' = cx_SS M K ks t2 := q_SSeq fun f hf => ((h3 f hf).2).symm
  rw [law_L544 o0 o1 hS0 hS1, law_L613 o0 o1 hS0 hS1]
  obtain ⟨a1, e1, x1⟩ := q_total0 o0 (b := 0) (by omega)
  have e1 : f_W_total 200 0 0 s0 = some (cx_sL t1 16, a1) := e1
  have g1 := OB_same o0 x1
  obtain ⟨a2, e2, x2⟩ := q_total0 g1 (b := 1) (by omega)
  have e2 : f_W_total 200 1 0 a1 = some (cx_sL t2 16, a2) := e2
  have g2 := OB_same g1 x2
  obtain ⟨a3, e3, g3⟩ := q_add10 g2 (fun f hf => by
    obtain ⟨a, b, r1, r2, r3, r4⟩ := h4 f hf
    exact ⟨a, b, r1, r2, by omega⟩)
  obtain ⟨a4, e4, x4⟩ := q_total0 g3 (b := 0) (by omega)
  have e4 : f_W_total 200 0 0 a3 = some (cx_sL (addT t1 t2) 16, a4) := e4
  have g4 := OB_same g3 x4
  obtain ⟨a5, e5, x5⟩ := aC_all g4 (b := 0) (by omega)
  have e5 : f_L_areCountersSound 200 0 a4 = some (1, a5) := e5
  have g5 := OB_same g4 x5
  obtain ⟨a6, e6, x6⟩ := aB_all g5 (b := 0) (by omega) (w := 7) (by omega)
  have e6 : f_L_areBoundsSound 200 0 7 a5 = some (1, a6) := e6
  have g6 := OB_same g5 x6
  obtain ⟨a7, e7, x7⟩ := q_total0 g6 (b := 0) (by omega)
  have e7 : f_W_total 200 0 0 a6 = some (cx_sL (addT t1 t2) 16, a7) := e7
  have g7 := OB_same g6 x7
  obtain ⟨a8, e8, g8⟩ := q_clear1 g7
  have hadd : ∀ f, f < 16 → ∃ a : Nat, addT t1 t2 f = lN a ∧ a ≤ 1000000000 := fun f hf => by
    obtain ⟨a, b, r1, r2, r3, r4⟩ := h4 f hf
    exact ⟨a + b, addT_lN hf r1 r2, by omega⟩
  obtain ⟨a9, e9, g9⟩ := q_add01 g8 (fun f hf => by
    obtain ⟨a, r1, r2⟩ := hadd f hf
    exact ⟨0, a, rfl, r1, by omega⟩)
  have hT2 : ∀ f, f < 16 → addT (fun _ => 0) (addT t1 t2) f = addT t1 t2 f := fun f hf => by
    show (if f < 16 then (0 : Int64) + addT t1 t2 f else 0) = _
    rw [if_pos hf, Int64.zero_add]
  have hS2 : cx_SS M K ks (addT (fun _ => 0) (addT t1 t2)) = cx_SS M K ks (addT t1 t2) := q_SSeq hT2
  obtain ⟨a10, e10, x10⟩ := q_total0 g9 (b := 1) (by omega)
  have e10 : f_W_total 200 1 0 a9 = some (cx_sL (addT (fun _ => 0) (addT t1 t2)) 16, a10) := e10
  have g10 := OB_same g9 x10
  obtain ⟨a11, e11, x11⟩ := q_total2 g10 (b := 1) (by omega)
  have e11 : f_W_total 200 1 2 a10 = some (cx_sL (cx_FL M D K N Q R F ks (cx_SS M K ks (addT (fun _ => 0) (addT t1 t2))) R).2 F, a11) := e11
  rw [hS2] at e11
  have g11 := OB_same g10 x11
  obtain ⟨a12, e12, x12⟩ := q_total2 g11 (b := 0) (by omega)
  have e12 : f_W_total 200 0 2 a11 = some (cx_sL (cx_FL M D K N Q R F ks (cx_SS M K ks (addT t1 t2)) R).2 F, a12) := e12
  have g12 := OB_same g11 x12
  obtain ⟨a13, e13, x13⟩ := q_total3 g12 (b := 1) (by omega)
  have e13 : f_W_total 200 1 3 a12 = some (cx_sL (cx_nC D N Q (cx_SS M K ks (addT (fun _ => 0) (addT t1 t2)))) 16, a13) := e13
  rw [hS2] at e13
  have g13 := OB_same g12 x13
  obtain ⟨a14, e14, x14⟩ := q_total3 g13 (b := 0) (by omega)
  have e14 : f_W_total 200 0 3 a13 = some (cx_sL (cx_nC D N Q (cx_SS M K ks (addT t1 t2))) 16, a14) := e14
  have g14 := OB_same g13 x14
  obtain ⟨a15, e15, x15⟩ := q_lastRound g14 (b := 1) (by omega)
  have e15 : f_W_lastRound 200 1 a14 = some (nI (cx_FN M D K N Q R F ks (cx_SS M K ks (addT (fun _ => 0) (addT t1 t2))) R), a15) := e15
  rw [hS2] at e15
  have g15 := OB_same g14 x15
  obtain ⟨a16, e16, x16⟩ := q_lastRound g15 (b := 0) (by omega)
  have e16 : f_W_lastRound 200 0 a15 = some (nI (cx_FN M D K N Q R F ks (cx_SS M K ks (addT t1 t2)) R), a16) := e16
  have g16 := OB_same g15 x16
  obtain ⟨a17, e17, g17⟩ := q_clear0 g16
  obtain ⟨a18, e18, x18⟩ := q_certain g17 (b := 0) (by omega)
  have e18 : f_W_certain 200 0 a17 = some (cx_cm (cx_FL M D K N Q R F ks (cx_SS M K ks (fun _ => 0)) R).1 (cx_FL M D K N Q R F ks (cx_SS M K ks (fun _ => 0)) R).2 F, a18) := e18
  have g18 := OB_same g17 x18
  have hSS : ∀ c, cx_SS M K ks t1 c + cx_SS M K ks t2 c = cx_SS M K ks (addT t1 t2) c := cx_SS_add (fun f hf => by
    obtain ⟨a, b, r1, r2, r3, r4⟩ := h4 f hf
    exact ⟨a, by omega, r1⟩) (fun f hf => by
    obtain ⟨a, b, r1, r2, r3, r4⟩ := h4 f hf
    exact ⟨b, by omega, r2⟩) (fun f hf => if_pos hf)
  have hz1 : ∀ c, c < 24 → M ≤ c → cx_SS M K ks t1 c = 0 ∧ cx_SS M K ks t2 c = 0 := fun c h1 h2 => ⟨cx_SS_z c1 c h1 h2, cx_SS_z c1 c h1 h2⟩
  have hz2 : ∀ c, c < 24 → M ≤ c → cx_SS M K ks (fun _ => 0) c = 0 ∧ cx_SS M K ks (addT t1 t2) c = 0 := fun c h1 h2 => ⟨cx_SS_z c1 c h1 h2, cx_SS_z c1 c h1 h2⟩
  have hjc : nI (cx_jc D (cx_SS M K ks t1) (cx_SS M K ks t2) 24) = nI (cx_sm (fun c => if cx_SS M K ks (addT t1 t2) c / 2 ^ D = 0 then 0 else 1) M) - nI (cx_sm (fun c => if cx_SS M K ks t1 c / 2 ^ D = 0 then 0 else 1) M) := by
    rw [q_marks (D := D) (M := M) hSS, ← cx_jcm c1.2 hz1, Nat.add_comm, ← nI_add]
    exact (Int32.add_sub_cancel _ _).symm
  have hjc2 : nI (cx_jc D (cx_SS M K ks (fun _ => 0)) (cx_SS M K ks (addT t1 t2)) 24) = nI (cx_sm (fun c => if cx_SS M K ks (addT t1 t2) c / 2 ^ D = 0 then 0 else 1) M) := by
    rw [cx_jcm c1.2 hz2]
    refine congrArg nI (cx_sm_eq fun c _ => ?_)
    try dsimp only
    rw [q_SS0, Nat.zero_div, if_pos rfl, Nat.zero_add]
  have hcer : cx_cm (cx_FL M D K N Q R F ks (cx_SS M K ks (fun _ => 0)) R).1 (cx_FL M D K N Q R F ks (cx_SS M K ks (fun _ => 0)) R).2 F = (1 <<< (nI F &&& 31)) - 1 := (cx_cm_full c7).mpr fun f hf => law_zero g17 hf
  rw [e1, cx_ob]
  try dsimp only
  rw [e2, cx_ob]
  try dsimp only
  rw [law_L685 g2, e3, cx_ob]
  try dsimp only
  rw [law_L724 g3, if_pos hjc, e4, cx_ob]
  try dsimp only
  rw [if_pos (q_sLadd 16 (Nat.le_refl _)), e5, cx_ob]
  try dsimp only
  rw [if_neg cx_i1, e6, cx_ob]
  try dsimp only
  rw [if_neg cx_i1, e7, cx_ob]
  try dsimp only
  rw [e8, cx_ob]
  try dsimp only
  rw [e9, cx_ob]
  try dsimp only
  rw [if_pos hjc2, e10, cx_ob]
  try dsimp only
  rw [if_pos (cx_sL_eq hT2), e11, cx_ob]
  try dsimp only
  rw [e12, cx_ob]
  try dsimp only
  rw [if_pos rfl, e13, cx_ob]
  try dsimp only
  rw [e14, cx_ob]
  try dsimp only
  rw [if_pos rfl, e15, cx_ob]
  try dsimp only
  rw [e16, cx_ob]
  try dsimp only
  rw [if_pos rfl, e17, cx_ob]
  try dsimp only
  rw [if_pos rfl, e18, cx_ob]
  try dsimp only
  rw [if_pos hcer]
  exact law_J908 g18 hF
end QT
theorem ini_OB (h : HistoryS) (i : ini_h h) : OB 12 3 3 6 2 20 0 (fun _ => 0) (fun _ => 0) (fun _ => 0) (ini_CB h) :=
  ⟨⟨fun _ => 0, fun _ => 0, fun _ => 0, fun _ => 0, fun _ => 0, fun _ => 0, rfl, by omega, by omega, by omega, by omega, by omega, by omega, by omega, fun f hf => absurd hf (Nat.not_lt_zero f), fun f g hfg hg => absurd hg (Nat.not_lt_zero g), fun f hf => ⟨0, 0, by omega, by omega, rfl, rfl⟩, fun f hf _ => ⟨rfl, rfl⟩, sem0, sem0⟩, 0, by omega, i.2.2.2.2.2⟩
set_option maxHeartbeats 1000000 in
theorem law_pure (cv : Int32 → Int32) (h1 h2 : HistoryS) (i1 : ini_h h1) (i2 : ini_h h2) : ∃ out, f_L_law 200 cv (ini_CB h1) (ini_CB h2) = some out := by
  have o0 := ini_OB h1 i1
  have p0 := ini_OB h2 i2
  obtain ⟨j1, hj1, l1⟩ := q_low (cv 0) (m := 23) (by omega) (by omega)
  have l1 : f_L_low (cv (0 : Int32)) 23 = some (nI j1) := l1
  obtain ⟨j2, hj2, l2⟩ := q_low (cv 0 >>> (5 &&& 31)) (m := 8) (by omega) (by omega)
  have l2 : f_L_low ((cv (0 : Int32)) >>> (5 &&& 31)) 8 = some (nI j2) := l2
  obtain ⟨j3, hj3, l3⟩ := q_low (cv 0 >>> (8 &&& 31)) (m := 4) (by omega) (by omega)
  have l3 : f_L_low ((cv (0 : Int32)) >>> (8 &&& 31)) 4 = some (nI j3) := l3
  obtain ⟨j4, hj4, l4⟩ := q_low (cv 0 >>> (10 &&& 31)) (m := 16) (by omega) (by omega)
  have l4 : f_L_low ((cv (0 : Int32)) >>> (10 &&& 31)) 16 = some (nI j4) := l4
  obtain ⟨j5, hj5, l5⟩ := q_low (cv 0 >>> (14 &&& 31)) (m := 3) (by omega) (by omega)
  have l5 : f_L_low ((cv (0 : Int32)) >>> (14 &&& 31)) 3 = some (nI j5) := l5
  obtain ⟨j6, hj6, l6⟩ := q_low (cv 0 >>> (16 &&& 31)) (m := 20) (by omega) (by omega)
  have l6 : f_L_low ((cv (0 : Int32)) >>> (16 &&& 31)) 20 = some (nI j6) := l6
  obtain ⟨j7, hj7, l7⟩ := q_low (cv 0 >>> (21 &&& 31)) (m := 9) (by omega) (by omega)
  have l7 : f_L_low ((cv (0 : Int32)) >>> (21 &&& 31)) 9 = some (nI j7) := l7
  obtain ⟨a1, e1, x1⟩ := q_undo_empty (s := ini_CB h1) i1.2.2.2.2.2
  obtain ⟨a2, e2, x2⟩ := q_load (s := a1) (by rw [x1]; rfl)
  have o2 : OB 12 3 3 6 2 20 0 (fun _ => 0) (fun _ => 0) (fun _ => 0) a2 := OB_same o0 (x2.trans (congrArg Prod.fst x1))
  obtain ⟨a3, e3, o3⟩ := q_setFirst o2 (M' := 2 + j1) (D' := 1 + j2) (K' := 1 + j3) (by omega) (by omega) (by omega)
  obtain ⟨a4, e4, o4⟩ := q_setSecond o3 (N' := 1 + j4) (Q' := 1 + j5) (by omega) (by omega)
  obtain ⟨a5, e5, o5⟩ := q_setRounds o4 (R' := j6) (by omega)
  obtain ⟨b1, d1, p1⟩ := q_setFirst p0 (M' := 2 + j1) (D' := 1 + j2) (K' := 1 + j3) (by omega) (by omega) (by omega)
  obtain ⟨b2, d2, p2⟩ := q_setSecond p1 (N' := 1 + j4) (Q' := 1 + j5) (by omega) (by omega)
  unfold f_L_law
  rw [if_pos (show (0 : Int32) ≤ 0 by decide), l1, cx_ob, l2, cx_ob, l3, cx_ob, l4, cx_ob, l5, cx_ob, e1, cx_ob]
  try dsimp only
  rw [if_pos rfl, e2, cx_ob]
  try dsimp only
  rw [if_pos rfl, q_bitsForEach o2, cx_ob, if_pos rfl, show (2 : Int32) + nI j1 = nI (2 + j1) from nI_add 2 j1, show (1 : Int32) + nI j2 = nI (1 + j2) from nI_add 1 j2, show (1 : Int32) + nI j3 = nI (1 + j3) from nI_add 1 j3, show (1 : Int32) + nI j4 = nI (1 + j4) from nI_add 1 j4, show (1 : Int32) + nI j5 = nI (1 + j5) from nI_add 1 j5, e3, cx_ob]
  try dsimp only
  rw [if_pos (show nI 12 = (12 : Int32) from rfl), e4, cx_ob]
  try dsimp only
  rw [if_pos (show nI 6 = (6 : Int32) from rfl), l6, cx_ob, e5, cx_ob]
  try dsimp only
  rw [if_pos (show nI 20 = (20 : Int32) from rfl), d1, cx_ob]
  try dsimp only
  rw [d2, cx_ob]
  try dsimp only
  rw [l7, cx_ob, show (1 : Int32) + nI j7 = nI (1 + j7) from nI_add 1 j7]
  refine law_L191 (1 + j7) (by omega) (fun F ks s0 s1 hF1 hF9 q0 q1 => ?_) 200 0 0 (fun _ => 0) a5 b2 (by omega) (by omega) (by omega) (fun h => absurd h (by omega)) o5 p2
  try dsimp only
  rw [(q_form q0).2.2.2.2.1, cx_ob]
  refine law_L307 hF1 hF9 (fun s0 s1 hI => ?_) 200 0 s0 s1 (by omega) (by omega) ⟨_, _, _, _, q0, q1, fun f hf => ⟨rfl, rfl⟩, fun f hf => ⟨0, 0, rfl, rfl, by omega, by omega⟩⟩
  exact law_tail hF1 hI
