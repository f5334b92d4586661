/-! areCountersSound answers 1 -/
theorem aC_bit {x : Int32} {n : Nat} (hn : n < 32) : (x >>> (nI n &&& 31)) &&& 1 = if cx_bt x n = true then 1 else 0 := by
  by_cases z : cx_bt x n = true
  · rw [if_pos z]
    exact (cx_btI hn).mpr z
  · rw [if_neg z]
    refine cx_ext fun i hi => ?_
    rw [cx_and, cx_sshr n hn x hi, cx_b1 i hi, cx_b0]
    by_cases q : i = 0
    · subst q
      rw [if_pos (by omega), Nat.add_zero, Bool.eq_false_iff.mpr z]
      rfl
    · rw [decide_eq_false q, Bool.and_false]
theorem aC_sL {g : Nat → Nat} : ∀ n, cx_sL (fun u => lN (g u)) n = lN (cx_sm g n) := by
  intro n
  induction n with
  | zero => rfl
  | succ n ih => rw [cx_sL, cx_sm, ih, lN_add]
theorem aC_swap {g : Nat → Nat → Nat} {m : Nat} : ∀ n, cx_sm (fun u => cx_sm (fun c => g c u) m) n = cx_sm (fun c => cx_sm (fun u => g c u) n) m := by
  intro n
  induction n with
  | zero => exact (cx_sm_z fun i _ => rfl).symm
  | succ n ih =>
    rw [cx_sm, ih, ← cx_sm_add]
    rfl
theorem aC_ct {m : Int32} {v : Nat} : ∀ n, cx_sm (fun u => if cx_bt m u = true then v else 0) n = cx_ct m n * v := by
  intro n
  induction n with
  | zero => exact (Nat.zero_mul v).symm
  | succ n ih =>
    rw [cx_sm, cx_ct, ih, Nat.add_mul]
    by_cases z : cx_bt m n = true
    · rw [if_pos z, if_pos z, Nat.one_mul]
    · rw [if_neg z, if_neg z, Nat.zero_mul]
/-- both ways of summing the second layer -/
theorem aC_two {M D N Q : Nat} {S : Nat → Nat} (hM : M ≤ 24) (h0 : ∀ c, c < 24 → M ≤ c → S c = 0) : cx_sm (cx_sC D N Q S) N = cx_sm (fun c => cx_ct (cx_pU N Q c) N * (S c / 2 ^ D)) M := by
  have h1 : cx_sm (cx_sC D N Q S) N = cx_sm (fun c => cx_ct (cx_pU N Q c) N * (S c / 2 ^ D)) 24 := by
    unfold cx_sC
    rw [aC_swap (g := fun c u => if cx_bt (cx_pU N Q c) u = true then S c / 2 ^ D else 0)]
    exact cx_sm_eq fun c _ => aC_ct N
  rw [h1]
  exact cx_sm_ext hM fun i h2 h3 => by rw [h0 i h3 h2, Nat.zero_div, Nat.mul_zero]
theorem aC_it0 {nt : Nat} {b : Nat → Int32} {le gr lo hi : FJ} {t : Nat} (hb : b t = 0) : ∀ k, (cx_it nt b le gr lo hi k).1 t = lo t ∧ (cx_it nt b le gr lo hi k).2 t = hi t := by
  intro k
  induction k with
  | zero => exact ⟨rfl, rfl⟩
  | succ k ih =>
    refine ⟨?_, ?_⟩
    · show cx_rl nt b le _ _ t = _
      unfold cx_rl
      rw [hb, cx_fM0]
      exact ih.1
    · show cx_rh nt b gr _ _ t = _
      unfold cx_rh
      rw [hb, cx_fm0]
      exact ih.2
section QC
variable {M D K N Q R F : Nat} {ks : FI} {t1 t2 : FJ} {s : CBS} {b : Nat}
theorem aC_S (h : OB M D K N Q R F ks t1 t2 s) (b : Nat) : (∀ c, c < 24 → cx_SS M K ks (tb b t1 t2) c ≤ 2 ^ 34) ∧ (∀ c, c < 24 → M ≤ c → cx_SS M K ks (tb b t1 t2) c = 0) := ⟨cx_SS34 (ob_T h b).1, cx_SS_z (ob_c h).1⟩
/-- the bounds of the overflows, as numbers -/
theorem aC_snd (h : OB M D K N Q R F ks t1 t2 s) (b : Nat) {c : Nat} (hc : c < M) : ∃ l u : Nat, (cx_OV M D N Q R (cx_SS M K ks (tb b t1 t2))).1 c = lN l ∧ (cx_OV M D N Q R (cx_SS M K ks (tb b t1 t2))).2 c = lN u ∧ l ≤ cx_SS M K ks (tb b t1 t2) c / 2 ^ D ∧ cx_SS M K ks (tb b t1 t2) c / 2 ^ D ≤ u ∧ u ≤ 2 ^ 40 ∧ (cx_SS M K ks (tb b t1 t2) c / 2 ^ D = 0 → u = 0) ∧ (¬ cx_SS M K ks (tb b t1 t2) c / 2 ^ D = 0 → 1 ≤ l) := by
  obtain ⟨s1, s2, s3, s4, s5, s6, s7, s8, s9, s10, s11⟩ := ob_c h
  obtain ⟨hS, hS0⟩ := aC_S h b
  obtain ⟨l, u, e1, e2, h1, h2, h3⟩ := cx_OV_snd (D := D) s1.2 s4 s5.1 hS hS0 R c hc
  refine ⟨l, u, e1, e2, h1, h2, h3, fun z => ?_, fun z => ?_⟩
  · have e := (aC_it0 (nt := M) (b := cx_bC D N Q (cx_SS M K ks (tb b t1 t2))) (le := cx_nC D N Q (cx_SS M K ks (tb b t1 t2))) (gr := cx_nC D N Q (cx_SS M K ks (tb b t1 t2))) (lo := cx_lC D (cx_SS M K ks (tb b t1 t2))) (hi := cx_hC D N Q (cx_SS M K ks (tb b t1 t2))) (t := c) (if_pos z) R).2
    have e' : (cx_OV M D N Q R (cx_SS M K ks (tb b t1 t2))).2 c = 0 := by
      refine Eq.trans e ?_
      unfold cx_hC
      rw [show cx_bC D N Q (cx_SS M K ks (tb b t1 t2)) c = 0 from if_pos z, cx_mi0]
    rw [e2] at e'
    have := congrArg Int64.toInt e'
    rw [pk_lT (by omega)] at this
    have h0 : (0 : Int64).toInt = 0 := rfl
    omega
  · have m := (aB_mono (nt := M) (b := cx_bC D N Q (cx_SS M K ks (tb b t1 t2))) (le := cx_nC D N Q (cx_SS M K ks (tb b t1 t2))) (gr := cx_nC D N Q (cx_SS M K ks (tb b t1 t2))) (lo := cx_lC D (cx_SS M K ks (tb b t1 t2))) (hi := cx_hC D N Q (cx_SS M K ks (tb b t1 t2))) (k := 0) (t := c) R).1
    rw [Nat.zero_add] at m
    have m : (cx_lC D (cx_SS M K ks (tb b t1 t2)) c).toInt ≤ ((cx_OV M D N Q R (cx_SS M K ks (tb b t1 t2))).1 c).toInt := m
    rw [e1, pk_lT (by omega), show cx_lC D (cx_SS M K ks (tb b t1 t2)) c = 1 from if_neg z] at m
    have h0 : (1 : Int64).toInt = 1 := rfl
    omega
/-- what a counter has got in all -/
theorem aC_L31 (h : OB M D K N Q R F ks t1 t2 s) (hb : b ≤ 1) {c : Nat} (hc : c < M) {KK : Int64 → Int32 → Option (Int32 × CBS)} : f_L_areCountersSound_L31 200 (nI b) (nI c) s KK 200 0 0 = KK (lN (cx_SS M K ks (tb b t1 t2) c)) (nI F) := by
  obtain ⟨s1, s2, s3, s4, s5, s6, s7, s8, s9, s10, s11⟩ := ob_c h
  obtain ⟨hT, hT0⟩ := ob_T h b
  have f6 := (q_form h).2.2.2.2.1
  have key : ∀ (n j : Nat), j ≤ F → F < j + n → f_L_areCountersSound_L31 200 (nI b) (nI c) s KK n (lN (cx_sm (fun f => if cx_bt (cx_pK M K (ks f).toNatClampNeg) c = true then (tb b t1 t2 f).toNatClampNeg else 0) j)) (nI j) = KK (lN (cx_sm (fun f => if cx_bt (cx_pK M K (ks f).toNatClampNeg) c = true then (tb b t1 t2 f).toNatClampNeg else 0) F)) (nI F) := by
    intro n
    induction n with
    | zero => intro j h1 h2; omega
    | succ n ih =>
      intro j h1 h2
      rw [f_L_areCountersSound_L31, f6, cx_ob]
      by_cases z : j = F
      · subst z
        rw [if_pos (nI_le (Nat.le_refl _) (by omega))]
      · have hj : j < F := by omega
        obtain ⟨a, ha, ea⟩ := hT j (by omega)
        have hh := ih (j + 1) (by omega) (by omega)
        rw [cx_sm] at hh
        rw [if_neg (nI_ge hj (by omega)), q_places h hj, cx_ob, nI_1]
        by_cases y : cx_bt (cx_pK M K (ks j).toNatClampNeg) c = true
        · have hbit : ((cx_bF M K ks j >>> (nI c &&& 31)) &&& 1) = 1 := by
            rw [cx_btI (by omega)]
            exact y
          rw [if_pos hbit, q_truth h hb hj, cx_ob]
          rw [if_pos y, ← lN_add, ea, cx_lcl (by omega)] at hh
          rw [ea]
          exact hh
        · have hbit : ¬ ((cx_bF M K ks j >>> (nI c &&& 31)) &&& 1) = 1 := by
            rw [cx_btI (by omega)]
            exact y
          rw [if_neg hbit, Int64.add_zero]
          rw [if_neg y, Nat.add_zero] at hh
          exact hh
  have e := key 200 0 (by omega) (by omega)
  refine Eq.trans e ?_
  unfold cx_SS
  rw [cx_sm_ext s7 fun i h1 h2 => by rw [hT0 i h2 h1]; exact ite_self _]
/-- how many places a counter has above -/
theorem aC_L95 (h : OB M D K N Q R F ks t1 t2 s) {c : Nat} (hc : c < M) {KK : Int32 → Int32 → Option (Int32 × CBS)} : f_L_areCountersSound_L95 200 (nI c) s KK 200 0 0 = KK (nI (cx_ct (cx_pU N Q c) N)) (nI N) := by
  obtain ⟨s1, s2, s3, s4, s5, s6, s7, s8, s9, s10, s11⟩ := ob_c h
  have f3 := (q_form h).2.2.1
  have key : ∀ (n j : Nat), j ≤ N → N < j + n → f_L_areCountersSound_L95 200 (nI c) s KK n (nI (cx_ct (cx_pU N Q c) j)) (nI j) = KK (nI (cx_ct (cx_pU N Q c) N)) (nI N) := by
    intro n
    induction n with
    | zero => intro j h1 h2; omega
    | succ n ih =>
      intro j h1 h2
      rw [f_L_areCountersSound_L95, f3, cx_ob]
      by_cases z : j = N
      · subst z
        rw [if_pos (nI_le (Nat.le_refl _) (by omega))]
      · have hh := ih (j + 1) (by omega) (by omega)
        rw [cx_ct] at hh
        rw [if_neg (nI_ge (by omega) (by omega)), q_placesAbove h hc, cx_ob, aC_bit (by omega), nI_1]
        by_cases y : cx_bt (cx_pU N Q c) j = true
        · rw [if_pos y] at hh ⊢
          rw [nI_1]
          exact hh
        · rw [if_neg y] at hh ⊢
          rw [Int32.add_zero]
          exact hh
  exact key 200 0 (by omega) (by omega)
theorem aC_J250 (h : OB M D K N Q R F ks t1 t2 s) (hb : b ≤ 1) {c : Nat} (hc : c < M) {due : Int64} {B : Int64 → Int32 → CBS → Option (Int32 × CBS)} : f_L_areCountersSound_J250 200 (nI b) due (cx_cm (cx_OV M D N Q R (cx_SS M K ks (tb b t1 t2))).1 (cx_OV M D N Q R (cx_SS M K ks (tb b t1 t2))).2 M) (nI c) ((cx_OV M D N Q R (cx_SS M K ks (tb b t1 t2))).1 c) ((cx_OV M D N Q R (cx_SS M K ks (tb b t1 t2))).2 c) s B = B due (nI (c + 1)) s := by
  obtain ⟨s1, s2, s3, s4, s5, s6, s7, s8, s9, s10, s11⟩ := ob_c h
  obtain ⟨l, u, e1, e2, h1, h2, h3, h4, h5⟩ := aC_snd h b hc
  have e268 : f_L_areCountersSound_J268 due (cx_cm (cx_OV M D N Q R (cx_SS M K ks (tb b t1 t2))).1 (cx_OV M D N Q R (cx_SS M K ks (tb b t1 t2))).2 M) (nI c) ((cx_OV M D N Q R (cx_SS M K ks (tb b t1 t2))).1 c) ((cx_OV M D N Q R (cx_SS M K ks (tb b t1 t2))).2 c) s B = B due (nI (c + 1)) s := by
    unfold f_L_areCountersSound_J268 f_L_areCountersSound_J284
    rw [nI_1]
    by_cases z : (cx_OV M D N Q R (cx_SS M K ks (tb b t1 t2))).1 c = (cx_OV M D N Q R (cx_SS M K ks (tb b t1 t2))).2 c
    · have hbit : (((cx_cm (cx_OV M D N Q R (cx_SS M K ks (tb b t1 t2))).1 (cx_OV M D N Q R (cx_SS M K ks (tb b t1 t2))).2 M) >>> (nI c &&& 31)) &&& 1) = 1 := by
        rw [cx_btI (by omega)]
        exact (cx_cmb (by omega) (by omega)).mpr ⟨hc, z⟩
      rw [if_pos hbit, if_pos z, if_pos rfl]
    · have hbit : ¬ (((cx_cm (cx_OV M D N Q R (cx_SS M K ks (tb b t1 t2))).1 (cx_OV M D N Q R (cx_SS M K ks (tb b t1 t2))).2 M) >>> (nI c &&& 31)) &&& 1) = 1 := by
        rw [cx_btI (by omega)]
        exact fun w => z ((cx_cmb (by omega) (by omega)).mp w).2
      rw [if_neg hbit, if_neg z, if_pos rfl]
  unfold f_L_areCountersSound_J250
  rw [q_mark h hb hc, cx_ob]
  by_cases y : cx_SS M K ks (tb b t1 t2) c / 2 ^ D = 0
  · rw [if_pos y, if_neg (show ¬ (0 : Int32) = 1 by decide)]
    exact e268
  · have hl : ¬ (cx_OV M D N Q R (cx_SS M K ks (tb b t1 t2))).1 c < 1 := by
      rw [e1]
      have := h5 y
      exact fun z => by have := (pk_lLT (b := 1) (by omega) (by omega)).mp z; omega
    rw [if_neg y, if_pos rfl, if_neg hl]
    exact e268
theorem aC_J217 (h : OB M D K N Q R F ks t1 t2 s) (hb : b ≤ 1) {c : Nat} (hc : c < M) {due : Int64} {B : Int64 → Int32 → CBS → Option (Int32 × CBS)} : f_L_areCountersSound_J217 200 (nI b) due (cx_cm (cx_OV M D N Q R (cx_SS M K ks (tb b t1 t2))).1 (cx_OV M D N Q R (cx_SS M K ks (tb b t1 t2))).2 M) (nI c) (lN (cx_SS M K ks (tb b t1 t2) c / 2 ^ D)) ((cx_OV M D N Q R (cx_SS M K ks (tb b t1 t2))).1 c) ((cx_OV M D N Q R (cx_SS M K ks (tb b t1 t2))).2 c) s B = B due (nI (c + 1)) s := by
  obtain ⟨s1, s2, s3, s4, s5, s6, s7, s8, s9, s10, s11⟩ := ob_c h
  obtain ⟨l, u, e1, e2, h1, h2, h3, h4, h5⟩ := aC_snd h b hc
  have n1 : ¬ lN (cx_SS M K ks (tb b t1 t2) c / 2 ^ D) < (cx_OV M D N Q R (cx_SS M K ks (tb b t1 t2))).1 c := by
    rw [e1]
    exact fun z => by have := (pk_lLT (by omega) (by omega)).mp z; omega
  have n2 : ¬ (cx_OV M D N Q R (cx_SS M K ks (tb b t1 t2))).2 c < lN (cx_SS M K ks (tb b t1 t2) c / 2 ^ D) := by
    rw [e2]
    exact fun z => by have := (pk_lLT (by omega) (by omega)).mp z; omega
  unfold f_L_areCountersSound_J217
  rw [if_neg n1, if_neg n2, q_mark h hb hc, cx_ob]
  by_cases y : cx_SS M K ks (tb b t1 t2) c / 2 ^ D = 0
  · have hu : (cx_OV M D N Q R (cx_SS M K ks (tb b t1 t2))).2 c = 0 := by
      rw [e2, h4 y]
      rfl
    rw [if_pos y, if_pos rfl, if_pos hu]
    exact aC_J250 h hb hc
  · rw [if_neg y, if_neg cx_i1]
    exact aC_J250 h hb hc
theorem aC_step (h : OB M D K N Q R F ks t1 t2 s) (hb : b ≤ 1) {c n : Nat} (hc : c < M) {due : Int64} {KK : Int64 → Int32 → CBS → Option (Int32 × CBS)} {Z : Option (Int32 × CBS) → Prop}
    (hB : ∀ s' : CBS, s'.1.1 = s.1.1 → Z (f_L_areCountersSound_L15 200 (nI b) (cx_cm (cx_OV M D N Q R (cx_SS M K ks (tb b t1 t2))).1 (cx_OV M D N Q R (cx_SS M K ks (tb b t1 t2))).2 M) KK n (due + lN (cx_ct (cx_pU N Q c) N * (cx_SS M K ks (tb b t1 t2) c / 2 ^ D))) (nI (c + 1)) s')) :
    Z (f_L_areCountersSound_L15 200 (nI b) (cx_cm (cx_OV M D N Q R (cx_SS M K ks (tb b t1 t2))).1 (cx_OV M D N Q R (cx_SS M K ks (tb b t1 t2))).2 M) KK (n + 1) due (nI c) s) := by
  obtain ⟨s1, s2, s3, s4, s5, s6, s7, s8, s9, s10, s11⟩ := ob_c h
  obtain ⟨hS, hS0⟩ := aC_S h b
  have hSc := hS c (by omega)
  have hv : cx_SS M K ks (tb b t1 t2) c / 2 ^ D ≤ cx_SS M K ks (tb b t1 t2) c := Nat.div_le_self _ _
  have hdm := Nat.div_add_mod' (cx_SS M K ks (tb b t1 t2) c) (2 ^ D)
  have hct : cx_ct (cx_pU N Q c) N ≤ Q := cx_pU_ct (by omega) s4.2 N (by omega)
  obtain ⟨f0, f1, -⟩ := q_form h
  obtain ⟨sa, ea, xa⟩ := q_ov0 h hb hc
  have ga := OB_same h xa
  obtain ⟨sb, eb, xb⟩ := q_ov1 ga hb hc
  have gb := OB_same ga xb
  have f1b := (q_form gb).2.1
  have hh := hB sb (xb.trans xa)
  have hsh : lN (cx_SS M K ks (tb b t1 t2) c) >>> ((nI D).toInt64 &&& 63) = lN (cx_SS M K ks (tb b t1 t2) c / 2 ^ D) := cx_shrL (by omega) (by omega)
  rw [f_L_areCountersSound_L15, f0, cx_ob, if_neg (nI_ge hc (by omega)), aC_L31 h hb hc]
  try dsimp only
  rw [f1, cx_ob, aC_L95 h hc]
  try dsimp only
  rw [ea, cx_ob]
  try dsimp only
  rw [eb, cx_ob]
  try dsimp only
  rw [q_rest gb hb hc, cx_ob, f1b, cx_ob, hsh, cx_shlL _ (by omega), lN_sub (by omega), lN_i, if_pos (show nI (cx_SS M K ks (tb b t1 t2) c % 2 ^ D) = nI (cx_SS M K ks (tb b t1 t2) c - cx_SS M K ks (tb b t1 t2) c / 2 ^ D * 2 ^ D) from congrArg nI (by omega)), nI_l (by omega), lN_mul, cx_lif (by omega)]
  unfold f_L_areCountersSound_J198
  by_cases y : cx_SS M K ks (tb b t1 t2) c / 2 ^ D = 0
  · have y0 : lN (cx_SS M K ks (tb b t1 t2) c / 2 ^ D) = 0 := by
      rw [y]
      rfl
    rw [if_pos y, if_pos y0, q_mark gb hb hc, cx_ob, if_pos y, if_pos rfl, aC_J217 gb hb hc]
    exact hh
  · have y0 : ¬ lN (cx_SS M K ks (tb b t1 t2) c / 2 ^ D) = 0 := fun w => by
      have := congrArg Int64.toInt w
      rw [pk_lT (by omega)] at this
      have h0 : (0 : Int64).toInt = 0 := rfl
      omega
    rw [if_neg y, q_mark gb hb hc, cx_ob, if_neg y, if_pos rfl, if_neg y0, aC_J217 gb hb hc]
    exact hh
theorem aC_L311 (h : OB M D K N Q R F ks t1 t2 s) (hb : b ≤ 1) {KK : Int64 → Int32 → Option (Int32 × CBS)} : f_L_areCountersSound_L311 200 (nI b) s KK 200 0 0 = KK (lN (cx_sm (cx_sC D N Q (cx_SS M K ks (tb b t1 t2))) N)) (nI N) := by
  obtain ⟨s1, s2, s3, s4, s5, s6, s7, s8, s9, s10, s11⟩ := ob_c h
  have f3 := (q_form h).2.2.1
  have key : ∀ (n j : Nat), j ≤ N → N < j + n → f_L_areCountersSound_L311 200 (nI b) s KK n (lN (cx_sm (cx_sC D N Q (cx_SS M K ks (tb b t1 t2))) j)) (nI j) = KK (lN (cx_sm (cx_sC D N Q (cx_SS M K ks (tb b t1 t2))) N)) (nI N) := by
    intro n
    induction n with
    | zero => intro j h1 h2; omega
    | succ n ih =>
      intro j h1 h2
      rw [f_L_areCountersSound_L311, f3, cx_ob]
      by_cases z : j = N
      · subst z
        rw [if_pos (nI_le (Nat.le_refl _) (by omega))]
      · have hh := ih (j + 1) (by omega) (by omega)
        rw [cx_sm] at hh
        rw [if_neg (nI_ge (by omega) (by omega)), q_above h hb (show j < N by omega), cx_ob, lN_add, nI_1]
        exact hh
  exact key 200 0 (by omega) (by omega)
theorem aC_all (h : OB M D K N Q R F ks t1 t2 s) (hb : b ≤ 1) : GZ s.1.1 (f_L_areCountersSound 200 (nI b) s) := by
  obtain ⟨s1, s2, s3, s4, s5, s6, s7, s8, s9, s10, s11⟩ := ob_c h
  obtain ⟨hS, hS0⟩ := aC_S h b
  obtain ⟨sa, ea, xa⟩ := q_cO h hb
  have ga := OB_same h xa
  unfold f_L_areCountersSound
  rw [ea, cx_ob]
  try dsimp only
  generalize hKK : (fun (i117 : Int64) (i118 : Int32) (c119 : CBS) => f_L_areCountersSound_L311 200 (nI b) c119 (fun i129 i130 => if i129 = i117 then (f_W_total 200 (nI b) 3 c119).bind (fun r131 => if r131.1 = i129 then (f_W_form 200 3 r131.2).bind (fun r132 => (f_W_above 200 (nI b) r132 r131.2).bind (fun r133 => if r133 = (-2) then (f_W_form 200 0 r131.2).bind (fun r134 => (f_W_rest 200 (nI b) r134 r131.2).bind (fun r135 => if r135 = (-2) then some ((1 : Int32), r131.2) else some (0, r131.2))) else some (0, r131.2))) else some (0, r131.2)) else some (0, c119)) 200 0 0) = KK
  have key : ∀ (n j : Nat) (s2 : CBS), j ≤ M → M < j + n → s2.1.1 = s.1.1 → GZ s.1.1 (f_L_areCountersSound_L15 200 (nI b) (cx_cm (cx_OV M D N Q R (cx_SS M K ks (tb b t1 t2))).1 (cx_OV M D N Q R (cx_SS M K ks (tb b t1 t2))).2 M) KK n (lN (cx_sm (fun c => cx_ct (cx_pU N Q c) N * (cx_SS M K ks (tb b t1 t2) c / 2 ^ D)) j)) (nI j) s2) := by
    intro n
    induction n with
    | zero => intro j s2 h1 h2; omega
    | succ n ih =>
      intro j s2 h1 h2 x
      have g := OB_same h x
      by_cases z : j = M
      · subst z
        obtain ⟨f0, -, f3, -⟩ := q_form g
        rw [f_L_areCountersSound_L15, f0, cx_ob, if_pos (nI_le (Nat.le_refl _) (by omega)), ← hKK]
        try dsimp only
        obtain ⟨sb, eb, xb⟩ := q_total3 g hb
        have gb := OB_same g xb
        obtain ⟨f0b, -, f3b, -⟩ := q_form gb
        have ht : cx_sL (cx_nC D N Q (cx_SS j K ks (tb b t1 t2))) 16 = lN (cx_sm (cx_sC D N Q (cx_SS j K ks (tb b t1 t2))) N) := by
          rw [← aC_sL]
          exact cx_sL_ext s4.2 fun u h1 h2 => by
            unfold cx_nC cx_sC
            rw [cx_sm_z fun c _ => if_neg fun w => by have := cx_pU_lt (by omega) s4.2 (by omega) w; omega]
            rfl
        rw [aC_L311 g hb]
        try dsimp only
        rw [if_pos (congrArg lN (aC_two s1.2 hS0)), eb, cx_ob]
        try dsimp only
        rw [if_pos ht, f3b, cx_ob, q_above_bad gb hb, cx_ob, if_pos rfl, f0b, cx_ob, q_rest_bad gb hb, cx_ob, if_pos rfl]
        exact ⟨_, rfl, xb.trans x⟩
      · refine aC_step g hb (by omega) (fun s3 x3 => ?_)
        rw [lN_add]
        exact ih (j + 1) s3 (by omega) (by omega) (x3.trans x)
  exact key 200 0 sa (by omega) (by omega) xa
end QC
