/-! areBoundsSound answers 1 -/
abbrev GZ (x : StateS × HistoryS) (o : Option (Int32 × CBS)) : Prop := ∃ s' : CBS, o = some (1, s') ∧ s'.1.1 = x
theorem aB_mono {nt : Nat} {b : Nat → Int32} {le gr lo hi : FJ} {k t : Nat} : ∀ j, ((cx_it nt b le gr lo hi k).1 t).toInt ≤ ((cx_it nt b le gr lo hi (k + j)).1 t).toInt ∧ ((cx_it nt b le gr lo hi (k + j)).2 t).toInt ≤ ((cx_it nt b le gr lo hi k).2 t).toInt := by
  intro j
  induction j with
  | zero => exact ⟨Int.le_refl _, Int.le_refl _⟩
  | succ j ih =>
    refine ⟨Int.le_trans ih.1 ?_, Int.le_trans ?_ ih.2⟩
    · show _ ≤ (cx_rl nt b le (cx_it nt b le gr lo hi (k + j)).1 (cx_it nt b le gr lo hi (k + j)).2 t).toInt
      exact cx_fM_ge _ _ _ 24
    · show (cx_rh nt b gr (cx_it nt b le gr lo hi (k + j)).1 (cx_it nt b le gr lo hi (k + j)).2 t).toInt ≤ _
      exact cx_fm_le _ _ _ 24
/-- behind the last round that changes a bound all is as at the end -/
theorem aB_last {nt : Nat} {b : Nat → Int32} {le gr lo hi : FJ} : ∀ k t, t < nt → (cx_it nt b le gr lo hi (cx_lr nt b le gr lo hi k)).1 t = (cx_it nt b le gr lo hi k).1 t ∧ (cx_it nt b le gr lo hi (cx_lr nt b le gr lo hi k)).2 t = (cx_it nt b le gr lo hi k).2 t := by
  intro k
  induction k with
  | zero => exact fun t ht => ⟨rfl, rfl⟩
  | succ k ih =>
    intro t ht
    rw [cx_lr]
    by_cases z : cx_cg nt b le gr lo hi k = true
    · rw [if_pos z]
      exact ⟨rfl, rfl⟩
    · rw [if_neg z]
      have h := cx_df_f.mp (Bool.eq_false_iff.mpr z) t ht
      exact ⟨(ih t ht).1.trans h.1.symm, (ih t ht).2.trans h.2.symm⟩
section QA
variable {M D K N Q R F : Nat} {ks : FI} {t1 t2 : FJ} {s : CBS} {b : Nat}
theorem aB_le {k k' : Nat} (hk : k ≤ k') (S : Nat → Nat) (f : Nat) : (cx_FL M D K N Q R F ks S k).1 f ≤ (cx_FL M D K N Q R F ks S k').1 f ∧ (cx_FL M D K N Q R F ks S k').2 f ≤ (cx_FL M D K N Q R F ks S k).2 f := by
  obtain ⟨j, rfl⟩ : ∃ j, k' = k + j := ⟨k' - k, by omega⟩
  have h := aB_mono (nt := F) (b := cx_bF M K ks) (le := cx_gF D S (cx_OV M D N Q R S).1) (gr := cx_gF D S (cx_OV M D N Q R S).2) (lo := fun _ => 0) (hi := fun f => cx_mi (cx_gF D S (cx_OV M D N Q R S).2) (cx_bF M K ks f) 24) (k := k) (t := f) j
  exact ⟨Int64.le_iff_toInt_le.mpr h.1, Int64.le_iff_toInt_le.mpr h.2⟩
/-- the bounds of the flows, as numbers -/
theorem aB_snd (h : OB M D K N Q R F ks t1 t2 s) (b k : Nat) {f : Nat} (hf : f < F) : ∃ l u a : Nat, (cx_FL M D K N Q R F ks (cx_SS M K ks (tb b t1 t2)) k).1 f = lN l ∧ (cx_FL M D K N Q R F ks (cx_SS M K ks (tb b t1 t2)) k).2 f = lN u ∧ tb b t1 t2 f = lN a ∧ l ≤ a ∧ a ≤ u ∧ u ≤ 2 ^ 50 := by
  obtain ⟨s1, s2, s3, s4, s5, s6, s7, s8, s9, s10, s11⟩ := ob_c h
  obtain ⟨hT, hT0⟩ := ob_T h b
  obtain ⟨l, u, e1, e2, h1, h2, h3⟩ := cx_FL_snd (R := R) (k := k) (ks := ks) s1 s2.2 s3.1 s4 s5.1 s7 hT hT0 f hf
  obtain ⟨a, ha, ea⟩ := hT f (by omega)
  have e3 : (tb b t1 t2 f).toNatClampNeg = a := by rw [ea, cx_lcl (by omega)]
  dsimp only at h1 h2
  rw [e3] at h1 h2
  exact ⟨l, u, a, e1, e2, ea, h1, h2, h3⟩
theorem aB_l0 {S : Nat → Nat} {f : Nat} : (cx_FL M D K N Q R F ks S 0).1 f = 0 := rfl
theorem aB_K154 {bI fI fJ kI1 kI2 t wide : Int32} {s s1 s2 s3 s4 s5 s6 s7 s8 s9 : CBS} {tr lw hg W T lo hi l1 h1 l2 h2 lp : Int64} {B : Int64 → Int64 → Int64 → Int64 → Int32 → Int32 → CBS → Option (Int32 × CBS)} {Z : Option (Int32 × CBS) → Prop}
    (e1 : f_W_estimate 200 bI fI s = some ((lo + hi) / 2, s1)) (e2 : f_W_boundAfter 200 bI fI 0 kI1 s1 = some (l1, s2)) (e3 : f_W_boundAfter 200 bI fI 1 kI1 s2 = some (h1, s3)) (e4 : f_W_boundAfter 200 bI fI 0 kI2 s3 = some (l2, s4)) (e5 : f_W_boundAfter 200 bI fI 1 kI2 s4 = some (h2, s5)) (e6 : f_W_boundAfter 200 bI fI 1 0 s5 = some (lp, s6)) (e7 : f_W_leastPlace 200 bI fI s6 = some (lp, s7)) (e8 : f_W_boundAfter 200 bI fI 0 0 s7 = some (0, s8)) (e9 : f_W_leastPlace 200 bI fI s8 = some (lp, s9))
    (m1 : l1 ≤ lo) (m2 : hi ≤ h1) (m3 : lo ≤ l2) (m4 : h2 ≤ hi) (m5 : hi ≤ lp) (ef : fI + 1 = fJ) (hB : Z (B (tr + T) (lw + lo) (hg + hi) (if hi - lo ≤ W then W else hi - lo) (if hi - lo ≤ W then wide else fI) fJ s9)) :
    Z (f_L_areBoundsSound_J154 200 bI tr lw hg W wide fI T lo hi kI1 kI2 t t s B) := by
  unfold f_L_areBoundsSound_J154
  rw [if_pos rfl, e1, cx_ob]
  dsimp only
  rw [if_pos rfl, e2, cx_ob]
  dsimp only
  rw [if_neg (Int64.not_lt.mpr m1), e3, cx_ob]
  dsimp only
  rw [if_neg (Int64.not_lt.mpr m2), e4, cx_ob]
  dsimp only
  rw [if_neg (Int64.not_lt.mpr m3), e5, cx_ob]
  dsimp only
  rw [if_pos m4, e6, cx_ob]
  dsimp only
  rw [e7, cx_ob]
  dsimp only
  rw [if_pos rfl, e8, cx_ob]
  dsimp only
  rw [if_pos rfl, e9, cx_ob]
  dsimp only
  rw [if_pos m5]
  unfold f_L_areBoundsSound_J333
  rw [ef]
  by_cases z : hi - lo ≤ W
  · simp only [if_pos z] at hB ⊢
    exact hB
  · simp only [if_neg z] at hB ⊢
    exact hB
theorem aB_J154 (h : OB M D K N Q R F ks t1 t2 s) (hb : b ≤ 1) {f k1 k2 : Nat} (hf : f < F) (h1 : k1 ≤ R) (h2 : R ≤ k2) (h3 : k2 ≤ 60) {tr lw hg W : Int64} {wide t : Int32} {B : Int64 → Int64 → Int64 → Int64 → Int32 → Int32 → CBS → Option (Int32 × CBS)} {Z : Option (Int32 × CBS) → Prop}
    (hB : ∀ s' : CBS, s'.1.1 = s.1.1 → Z (B (tr + tb b t1 t2 f) (lw + (cx_FL M D K N Q R F ks (cx_SS M K ks (tb b t1 t2)) R).1 f) (hg + (cx_FL M D K N Q R F ks (cx_SS M K ks (tb b t1 t2)) R).2 f) (if (cx_FL M D K N Q R F ks (cx_SS M K ks (tb b t1 t2)) R).2 f - (cx_FL M D K N Q R F ks (cx_SS M K ks (tb b t1 t2)) R).1 f ≤ W then W else (cx_FL M D K N Q R F ks (cx_SS M K ks (tb b t1 t2)) R).2 f - (cx_FL M D K N Q R F ks (cx_SS M K ks (tb b t1 t2)) R).1 f) (if (cx_FL M D K N Q R F ks (cx_SS M K ks (tb b t1 t2)) R).2 f - (cx_FL M D K N Q R F ks (cx_SS M K ks (tb b t1 t2)) R).1 f ≤ W then wide else nI f) (nI (f + 1)) s')) :
    Z (f_L_areBoundsSound_J154 200 (nI b) tr lw hg W wide (nI f) (tb b t1 t2 f) ((cx_FL M D K N Q R F ks (cx_SS M K ks (tb b t1 t2)) R).1 f) ((cx_FL M D K N Q R F ks (cx_SS M K ks (tb b t1 t2)) R).2 f) (nI k1) (nI k2) t t s B) := by
  have c6 := (ob_c h).2.2.2.2.2.1
  have m1 := aB_le (M := M) (D := D) (K := K) (N := N) (Q := Q) (R := R) (F := F) (ks := ks) h1 (cx_SS M K ks (tb b t1 t2)) f
  have m2 := aB_le (M := M) (D := D) (K := K) (N := N) (Q := Q) (R := R) (F := F) (ks := ks) h2 (cx_SS M K ks (tb b t1 t2)) f
  have m0 := aB_le (M := M) (D := D) (K := K) (N := N) (Q := Q) (R := R) (F := F) (ks := ks) (Nat.zero_le R) (cx_SS M K ks (tb b t1 t2)) f
  obtain ⟨s1, e1, x1⟩ := q_estimate h hb hf
  have g1 := OB_same h x1
  obtain ⟨s2, e2, x2⟩ := q_bA0 g1 hb hf (k := k1) (by omega)
  have g2 := OB_same g1 x2
  obtain ⟨s3, e3, x3⟩ := q_bA1 g2 hb hf (k := k1) (by omega)
  have g3 := OB_same g2 x3
  obtain ⟨s4, e4, x4⟩ := q_bA0 g3 hb hf (k := k2) h3
  have g4 := OB_same g3 x4
  obtain ⟨s5, e5, x5⟩ := q_bA1 g4 hb hf (k := k2) h3
  have g5 := OB_same g4 x5
  obtain ⟨s6, e6, x6⟩ := q_bA1 g5 hb hf (k := 0) (by omega)
  have g6 := OB_same g5 x6
  obtain ⟨s7, e7, x7⟩ := q_least g6 hb hf
  have g7 := OB_same g6 x7
  obtain ⟨s8, e8, x8⟩ := q_bA0 g7 hb hf (k := 0) (by omega)
  rw [aB_l0] at e8
  have g8 := OB_same g7 x8
  obtain ⟨s9, e9, x9⟩ := q_least g8 hb hf
  exact aB_K154 e1 e2 e3 e4 e5 e6 e7 e8 e9 m1.1 m1.2 m2.1 m2.2 m0.2 (nI_1 f) (hB s9 (x9.trans (x8.trans (x7.trans (x6.trans (x5.trans (x4.trans (x3.trans (x2.trans x1)))))))))
theorem aB_J101 (h : OB M D K N Q R F ks t1 t2 s) (hb : b ≤ 1) {f k1 k2 : Nat} (hf : f < F) (h1 : k1 ≤ R) (h2 : R ≤ k2) (h3 : k2 ≤ 60) {tr lw hg W : Int64} {wide : Int32} {B : Int64 → Int64 → Int64 → Int64 → Int32 → Int32 → CBS → Option (Int32 × CBS)} {Z : Option (Int32 × CBS) → Prop}
    (hB : ∀ s' : CBS, s'.1.1 = s.1.1 → Z (B (tr + tb b t1 t2 f) (lw + (cx_FL M D K N Q R F ks (cx_SS M K ks (tb b t1 t2)) R).1 f) (hg + (cx_FL M D K N Q R F ks (cx_SS M K ks (tb b t1 t2)) R).2 f) (if (cx_FL M D K N Q R F ks (cx_SS M K ks (tb b t1 t2)) R).2 f - (cx_FL M D K N Q R F ks (cx_SS M K ks (tb b t1 t2)) R).1 f ≤ W then W else (cx_FL M D K N Q R F ks (cx_SS M K ks (tb b t1 t2)) R).2 f - (cx_FL M D K N Q R F ks (cx_SS M K ks (tb b t1 t2)) R).1 f) (if (cx_FL M D K N Q R F ks (cx_SS M K ks (tb b t1 t2)) R).2 f - (cx_FL M D K N Q R F ks (cx_SS M K ks (tb b t1 t2)) R).1 f ≤ W then wide else nI f) (nI (f + 1)) s')) :
    Z (f_L_areBoundsSound_J101 200 (nI b) (cx_cm (cx_FL M D K N Q R F ks (cx_SS M K ks (tb b t1 t2)) R).1 (cx_FL M D K N Q R F ks (cx_SS M K ks (tb b t1 t2)) R).2 F) tr lw hg W wide (nI f) (tb b t1 t2 f) ((cx_FL M D K N Q R F ks (cx_SS M K ks (tb b t1 t2)) R).1 f) ((cx_FL M D K N Q R F ks (cx_SS M K ks (tb b t1 t2)) R).2 f) (nI k1) (nI k2) s B) := by
  have c7 := (ob_c h).2.2.2.2.2.2.1
  obtain ⟨l, u, a, el, eu, ea, q1, q2, q3⟩ := aB_snd h b R hf
  have n1 : ¬ (cx_FL M D K N Q R F ks (cx_SS M K ks (tb b t1 t2)) R).1 f < 0 := by
    rw [el]
    exact fun z => Nat.not_lt_zero l ((pk_lLT (b := 0) (by omega) (by omega)).mp z)
  have n2 : ¬ tb b t1 t2 f < (cx_FL M D K N Q R F ks (cx_SS M K ks (tb b t1 t2)) R).1 f := by
    rw [el, ea]
    exact fun z => by have := (pk_lLT (by omega) (by omega)).mp z; omega
  have n3 : ¬ (cx_FL M D K N Q R F ks (cx_SS M K ks (tb b t1 t2)) R).2 f < tb b t1 t2 f := by
    rw [eu, ea]
    exact fun z => by have := (pk_lLT (by omega) (by omega)).mp z; omega
  unfold f_L_areBoundsSound_J101
  rw [if_neg n1, if_neg n2, if_neg n3]
  unfold f_L_areBoundsSound_J141
  by_cases z : (cx_FL M D K N Q R F ks (cx_SS M K ks (tb b t1 t2)) R).1 f = (cx_FL M D K N Q R F ks (cx_SS M K ks (tb b t1 t2)) R).2 f
  · have hbit : (((cx_cm (cx_FL M D K N Q R F ks (cx_SS M K ks (tb b t1 t2)) R).1 (cx_FL M D K N Q R F ks (cx_SS M K ks (tb b t1 t2)) R).2 F) >>> (nI f &&& 31)) &&& 1) = 1 := by
      rw [cx_btI (by omega)]
      exact (cx_cmb (by omega) (by omega)).mpr ⟨hf, z⟩
    rw [if_pos hbit, if_pos z]
    exact aB_J154 h hb hf h1 h2 h3 hB
  · have hbit : ¬ (((cx_cm (cx_FL M D K N Q R F ks (cx_SS M K ks (tb b t1 t2)) R).1 (cx_FL M D K N Q R F ks (cx_SS M K ks (tb b t1 t2)) R).2 F) >>> (nI f &&& 31)) &&& 1) = 1 := by
      rw [cx_btI (by omega)]
      exact fun w => z ((cx_cmb (by omega) (by omega)).mp w).2
    rw [if_neg hbit, if_neg z]
    exact aB_J154 h hb hf h1 h2 h3 hB
theorem aB_step (h : OB M D K N Q R F ks t1 t2 s) (hb : b ≤ 1) {f w n : Nat} (hf : f < F) (hw : w ≤ 60) {tr lw hg W : Int64} {wide : Int32} {KK : Int64 → Int64 → Int64 → Int64 → Int32 → Int32 → CBS → Option (Int32 × CBS)} {Z : Option (Int32 × CBS) → Prop}
    (hB : ∀ s' : CBS, s'.1.1 = s.1.1 → Z (f_L_areBoundsSound_L39 200 (nI b) (nI w) (cx_cm (cx_FL M D K N Q R F ks (cx_SS M K ks (tb b t1 t2)) R).1 (cx_FL M D K N Q R F ks (cx_SS M K ks (tb b t1 t2)) R).2 F) (nI F) (nI R) KK n (tr + tb b t1 t2 f) (lw + (cx_FL M D K N Q R F ks (cx_SS M K ks (tb b t1 t2)) R).1 f) (hg + (cx_FL M D K N Q R F ks (cx_SS M K ks (tb b t1 t2)) R).2 f) (if (cx_FL M D K N Q R F ks (cx_SS M K ks (tb b t1 t2)) R).2 f - (cx_FL M D K N Q R F ks (cx_SS M K ks (tb b t1 t2)) R).1 f ≤ W then W else (cx_FL M D K N Q R F ks (cx_SS M K ks (tb b t1 t2)) R).2 f - (cx_FL M D K N Q R F ks (cx_SS M K ks (tb b t1 t2)) R).1 f) (if (cx_FL M D K N Q R F ks (cx_SS M K ks (tb b t1 t2)) R).2 f - (cx_FL M D K N Q R F ks (cx_SS M K ks (tb b t1 t2)) R).1 f ≤ W then wide else nI f) (nI (f + 1)) s')) :
    Z (f_L_areBoundsSound_L39 200 (nI b) (nI w) (cx_cm (cx_FL M D K N Q R F ks (cx_SS M K ks (tb b t1 t2)) R).1 (cx_FL M D K N Q R F ks (cx_SS M K ks (tb b t1 t2)) R).2 F) (nI F) (nI R) KK (n + 1) tr lw hg W wide (nI f) s) := by
  have c6 := (ob_c h).2.2.2.2.2.1
  have c7 := (ob_c h).2.2.2.2.2.2.1
  obtain ⟨s1, e1, x1⟩ := q_bound0 h hb hf
  have g1 := OB_same h x1
  obtain ⟨s2, e2, x2⟩ := q_bound1 g1 hb hf
  have g2 := OB_same g1 x2
  have hB2 := fun (s' : CBS) (x : s'.1.1 = s2.1.1) => hB s' (x.trans (x2.trans x1))
  rw [f_L_areBoundsSound_L39, if_neg (nI_ge hf (by omega)), q_truth h hb hf, cx_ob, e1, cx_ob]
  dsimp only
  rw [e2, cx_ob]
  dsimp only
  unfold f_L_areBoundsSound_J87
  by_cases z : R ≤ w
  · rw [if_pos (nI_le z (by omega))]
    by_cases y : w ≤ R
    · obtain rfl : w = R := by omega
      rw [if_pos (nI_le (Nat.le_refl _) (by omega))]
      exact aB_J101 g2 hb hf (Nat.le_refl _) (Nat.le_refl _) c6 hB2
    · rw [if_neg (nI_ge (by omega) (by omega))]
      exact aB_J101 g2 hb hf (Nat.le_refl _) z hw hB2
  · rw [if_neg (nI_ge (by omega) (by omega)), if_pos (nI_le (by omega) (by omega))]
    exact aB_J101 g2 hb hf (by omega) (Nat.le_refl _) c6 hB2
theorem aB_loop (h : OB M D K N Q R F ks t1 t2 s) (hb : b ≤ 1) {w : Nat} (hw : w ≤ 60) {KK : Int64 → Int64 → Int64 → Int64 → Int32 → Int32 → CBS → Option (Int32 × CBS)} {Z : Option (Int32 × CBS) → Prop}
    (hB : ∀ s' : CBS, s'.1.1 = s.1.1 → Z (KK (cx_sL (tb b t1 t2) F) (cx_sL (cx_FL M D K N Q R F ks (cx_SS M K ks (tb b t1 t2)) R).1 F) (cx_sL (cx_FL M D K N Q R F ks (cx_SS M K ks (tb b t1 t2)) R).2 F) (cx_wd (cx_FL M D K N Q R F ks (cx_SS M K ks (tb b t1 t2)) R).1 (cx_FL M D K N Q R F ks (cx_SS M K ks (tb b t1 t2)) R).2 F).2 (cx_wd (cx_FL M D K N Q R F ks (cx_SS M K ks (tb b t1 t2)) R).1 (cx_FL M D K N Q R F ks (cx_SS M K ks (tb b t1 t2)) R).2 F).1 (nI F) s')) :
    Z (f_L_areBoundsSound_L39 200 (nI b) (nI w) (cx_cm (cx_FL M D K N Q R F ks (cx_SS M K ks (tb b t1 t2)) R).1 (cx_FL M D K N Q R F ks (cx_SS M K ks (tb b t1 t2)) R).2 F) (nI F) (nI R) KK 200 0 0 0 0 (-1) 0 s) := by
  have c7 := (ob_c h).2.2.2.2.2.2.1
  have key : ∀ (n j : Nat) (s2 : CBS), j ≤ F → F < j + n → s2.1.1 = s.1.1 → Z (f_L_areBoundsSound_L39 200 (nI b) (nI w) (cx_cm (cx_FL M D K N Q R F ks (cx_SS M K ks (tb b t1 t2)) R).1 (cx_FL M D K N Q R F ks (cx_SS M K ks (tb b t1 t2)) R).2 F) (nI F) (nI R) KK n (cx_sL (tb b t1 t2) j) (cx_sL (cx_FL M D K N Q R F ks (cx_SS M K ks (tb b t1 t2)) R).1 j) (cx_sL (cx_FL M D K N Q R F ks (cx_SS M K ks (tb b t1 t2)) R).2 j) (cx_wd (cx_FL M D K N Q R F ks (cx_SS M K ks (tb b t1 t2)) R).1 (cx_FL M D K N Q R F ks (cx_SS M K ks (tb b t1 t2)) R).2 j).2 (cx_wd (cx_FL M D K N Q R F ks (cx_SS M K ks (tb b t1 t2)) R).1 (cx_FL M D K N Q R F ks (cx_SS M K ks (tb b t1 t2)) R).2 j).1 (nI j) s2) := by
    intro n
    induction n with
    | zero => intro j s2 h1 h2; omega
    | succ n ih =>
      intro j s2 h1 h2 x
      by_cases z : j = F
      · subst z
        rw [f_L_areBoundsSound_L39, if_pos (nI_le (Nat.le_refl _) (by omega))]
        exact hB s2 x
      · refine aB_step (OB_same h x) hb (by omega) hw (fun s3 x3 => ?_)
        have hh := ih (j + 1) s3 (by omega) (by omega) (x3.trans x)
        rw [cx_sL, cx_sL, cx_sL, cx_wd] at hh
        by_cases y : (cx_FL M D K N Q R F ks (cx_SS M K ks (tb b t1 t2)) R).2 j - (cx_FL M D K N Q R F ks (cx_SS M K ks (tb b t1 t2)) R).1 j ≤ (cx_wd (cx_FL M D K N Q R F ks (cx_SS M K ks (tb b t1 t2)) R).1 (cx_FL M D K N Q R F ks (cx_SS M K ks (tb b t1 t2)) R).2 j).2
        · simp only [if_pos y] at hh ⊢
          exact hh
        · simp only [if_neg y] at hh ⊢
          exact hh
  exact key 200 0 s (by omega) (by omega) rfl
theorem aB_end (h : OB M D K N Q R F ks t1 t2 s) (hb : b ≤ 1) {x : StateS × HistoryS} (hx : s.1.1 = x) : GZ x (f_L_areBoundsSound_L443 200 (nI b) (nI F) (nI (cx_FN M D K N Q R F ks (cx_SS M K ks (tb b t1 t2)) R)) (fun _ c153 => some (1, c153)) 200 0 s) := by
  have c6 := (ob_c h).2.2.2.2.2.1
  have c7 := (ob_c h).2.2.2.2.2.2.1
  have hl : cx_FN M D K N Q R F ks (cx_SS M K ks (tb b t1 t2)) R ≤ R := cx_lr_le R
  have key : ∀ (n j : Nat) (s2 : CBS), j ≤ F → F < j + n → s2.1.1 = s.1.1 → GZ x (f_L_areBoundsSound_L443 200 (nI b) (nI F) (nI (cx_FN M D K N Q R F ks (cx_SS M K ks (tb b t1 t2)) R)) (fun _ c153 => some (1, c153)) n (nI j) s2) := by
    intro n
    induction n with
    | zero => intro j s2 h1 h2; omega
    | succ n ih =>
      intro j s2 h1 h2 x2
      rw [f_L_areBoundsSound_L443]
      by_cases z : j = F
      · subst z
        rw [if_pos (nI_le (Nat.le_refl _) (by omega))]
        exact ⟨s2, rfl, x2.trans hx⟩
      · have hj : j < F := by omega
        have e := aB_last (nt := F) (b := cx_bF M K ks) (le := cx_gF D (cx_SS M K ks (tb b t1 t2)) (cx_OV M D N Q R (cx_SS M K ks (tb b t1 t2))).1) (gr := cx_gF D (cx_SS M K ks (tb b t1 t2)) (cx_OV M D N Q R (cx_SS M K ks (tb b t1 t2))).2) (lo := fun _ => 0) (hi := fun f => cx_mi (cx_gF D (cx_SS M K ks (tb b t1 t2)) (cx_OV M D N Q R (cx_SS M K ks (tb b t1 t2))).2) (cx_bF M K ks f) 24) R j hj
        have ea : (cx_FL M D K N Q R F ks (cx_SS M K ks (tb b t1 t2)) (cx_FN M D K N Q R F ks (cx_SS M K ks (tb b t1 t2)) R)).1 j = (cx_FL M D K N Q R F ks (cx_SS M K ks (tb b t1 t2)) R).1 j := e.1
        have eb : (cx_FL M D K N Q R F ks (cx_SS M K ks (tb b t1 t2)) (cx_FN M D K N Q R F ks (cx_SS M K ks (tb b t1 t2)) R)).2 j = (cx_FL M D K N Q R F ks (cx_SS M K ks (tb b t1 t2)) R).2 j := e.2
        have g0 := OB_same h x2
        obtain ⟨s3, e3, x3⟩ := q_bA1 g0 hb hj (k := cx_FN M D K N Q R F ks (cx_SS M K ks (tb b t1 t2)) R) (by omega)
        have g3 := OB_same g0 x3
        obtain ⟨s4, e4, x4⟩ := q_bound1 g3 hb hj
        have g4 := OB_same g3 x4
        obtain ⟨s5, e5, x5⟩ := q_bA0 g4 hb hj (k := cx_FN M D K N Q R F ks (cx_SS M K ks (tb b t1 t2)) R) (by omega)
        have g5 := OB_same g4 x5
        obtain ⟨s6, e6, x6⟩ := q_bound0 g5 hb hj
        rw [if_neg (nI_ge hj (by omega)), e3, cx_ob]
        dsimp only
        rw [e4, cx_ob]
        dsimp only
        rw [if_pos eb, e5, cx_ob]
        dsimp only
        rw [e6, cx_ob]
        dsimp only
        rw [if_pos ea, nI_1]
        exact ih (j + 1) s6 (by omega) (by omega) (x6.trans (x5.trans (x4.trans (x3.trans x2))))
  exact key 200 0 s (by omega) (by omega) rfl
theorem aB_all (h : OB M D K N Q R F ks t1 t2 s) (hb : b ≤ 1) {w : Nat} (hw : w ≤ 60) : GZ s.1.1 (f_L_areBoundsSound 200 (nI b) (nI w) s) := by
  have c6 := (ob_c h).2.2.2.2.2.1
  have c7 := (ob_c h).2.2.2.2.2.2.1
  have hl : cx_FN M D K N Q R F ks (cx_SS M K ks (tb b t1 t2)) R ≤ R := cx_lr_le R
  obtain ⟨s1, e1, x1⟩ := q_certain h hb
  have g1 := OB_same h x1
  obtain ⟨-, -, -, f5, f6, -⟩ := q_form g1
  unfold f_L_areBoundsSound
  rw [e1, cx_ob]
  dsimp only
  rw [f6, cx_ob, f5, cx_ob]
  refine aB_loop g1 hb hw (Z := GZ s.1.1) (fun s2 x2 => ?_)
  have hsh : (cx_cm (cx_FL M D K N Q R F ks (cx_SS M K ks (tb b t1 t2)) R).1 (cx_FL M D K N Q R F ks (cx_SS M K ks (tb b t1 t2)) R).2 F) >>> (nI F &&& 31) = 0 := by
    refine cx_ext fun i hi => ?_
    rw [cx_sshr F (by omega) _ hi, cx_b0]
    by_cases z : F + i < 32
    · rw [if_pos z]
      exact Bool.eq_false_iff.mpr fun q => by have := ((cx_cmb (by omega) z).mp q).1; omega
    · rw [if_neg z]
      exact Bool.eq_false_iff.mpr fun q => by have := ((cx_cmb (by omega) (by omega)).mp q).1; omega
  have g2 := OB_same g1 x2
  obtain ⟨s3, e3, x3⟩ := q_widest g2 hb
  have g3 := OB_same g2 x3
  obtain ⟨s4, e4, x4⟩ := q_total0 g3 hb
  have g4 := OB_same g3 x4
  obtain ⟨s5, e5, x5⟩ := q_total1 g4 hb
  have g5 := OB_same g4 x5
  obtain ⟨s6, e6, x6⟩ := q_total2 g5 hb
  have g6 := OB_same g5 x6
  obtain ⟨s7, e7, x7⟩ := q_lastRound g6 hb
  have g7 := OB_same g6 x7
  have hT : cx_sL (tb b t1 t2) 16 = cx_sL (tb b t1 t2) F := cx_sL_ext c7 fun i h1 h2 => (ob_T h b).2 i h2 h1
  rw [if_pos hsh, e3, cx_ob]
  dsimp only
  rw [if_pos rfl, e4, cx_ob]
  dsimp only
  rw [if_pos hT, e5, cx_ob]
  dsimp only
  rw [if_pos rfl, e6, cx_ob]
  dsimp only
  rw [if_pos rfl, e7, cx_ob]
  dsimp only
  rw [if_neg (nI_pos (by omega)), if_pos (nI_le hl (by omega))]
  exact aB_end g7 hb (x7.trans (x6.trans (x5.trans (x4.trans (x3.trans (x2.trans x1))))))
end QA
