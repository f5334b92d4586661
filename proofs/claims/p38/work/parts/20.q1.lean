/-! the calls that decode -/
section QB
variable {M D K N Q R F : Nat} {ks : FI} {t1 t2 : FJ} {r1 m1 : FI} {n1 : FJ} {r2 m2 : FI} {n2 : FJ} {a1 a2 a3 a4 a5 a6 : FJ} {a7 : Nat → FI} {a8 : FI} {a9 : Int32} {b1 b2 b3 b4 b5 b6 : FJ} {b7 : Nat → FI} {b8 : FI} {b9 : Int32}
theorem qz_bA (hn : SOKn M D K N Q R F ks t1 r1 m1 n1 t2 r2 m2 n2) {b f k : Nat} (hb : b ≤ 1) (hf : f < F) (hk : k ≤ 60) : (∃ o, f_CB_boundAfter 200 (nI b) (nI f) 0 (nI k) (nI M) (nI D) (nI K) (nI N) (nI Q) (nI R) (nI F) ks r1 m1 n1 r2 m2 n2 a1 a2 a3 a4 a5 a6 a7 a8 a9 b1 b2 b3 b4 b5 b6 b7 b8 b9 = some o ∧ o.1 = (cx_FL M D K N Q R F ks (cx_SS M K ks (tb b t1 t2)) k).1 f) ∧ (∃ o, f_CB_boundAfter 200 (nI b) (nI f) 1 (nI k) (nI M) (nI D) (nI K) (nI N) (nI Q) (nI R) (nI F) ks r1 m1 n1 r2 m2 n2 a1 a2 a3 a4 a5 a6 a7 a8 a9 b1 b2 b3 b4 b5 b6 b7 b8 b9 = some o ∧ o.1 = (cx_FL M D K N Q R F ks (cx_SS M K ks (tb b t1 t2)) k).2 f) := by
  obtain ⟨s1, s2, s3, s4, s5, s6, s7, s8, s9, s10, s11, s12, s13⟩ := hn
  unfold f_CB_boundAfter
  rw [qb hb, cx_ob, if_neg cx_i1, qf hf s7, cx_ob, if_neg cx_i1, p_from, if_pos (show (0 : Int32) ≤ nI k ∧ nI k ≤ 60 from ⟨nI_pos' (by omega), nI_le (b := 60) (by omega) (by omega)⟩), cx_ob, if_neg cx_i1]
  rcases (show b = 0 ∨ b = 1 by omega) with rfl | rfl
  · rw [if_pos q00, if_pos q00]
    obtain ⟨od, e0, g1, g2, g3⟩ := cx_dec_f (k := k) (a1 := a1) (a2 := a2) (a3 := a3) (a4 := a4) (a5 := a5) (a6 := a6) (a7 := a7) (a8 := a8) (a9 := a9) (b1 := b1) (b2 := b2) (b3 := b3) (b4 := b4) (b5 := b5) (b6 := b6) (b7 := b7) (b8 := b8) (b9 := b9) s1 s2.2 s3.2 s4 s5.2 s6 s7 hk s8 s12
    refine ⟨?_, ?_⟩
    · simp (disch := omega) only [e0, f_Bounds_boundOf, cx_ck, nI_clamp, if_true, eq_self, cx_ob, cx_i10, if_false]
      exact ⟨_, rfl, (g3 f hf).1⟩
    · simp (disch := omega) only [e0, f_Bounds_boundOf, cx_ck, nI_clamp, if_true, eq_self, cx_ob, cx_i10, if_false]
      exact ⟨_, rfl, (g3 f hf).2⟩
  · rw [if_neg q10, if_neg q10]
    obtain ⟨od, e0, g1, g2, g3⟩ := cx_dec_s (k := k) (a1 := a1) (a2 := a2) (a3 := a3) (a4 := a4) (a5 := a5) (a6 := a6) (a7 := a7) (a8 := a8) (a9 := a9) (b1 := b1) (b2 := b2) (b3 := b3) (b4 := b4) (b5 := b5) (b6 := b6) (b7 := b7) (b8 := b8) (b9 := b9) s1 s2.2 s3.2 s4 s5.2 s6 s7 hk s8 s13
    refine ⟨?_, ?_⟩
    · simp (disch := omega) only [e0, f_Bounds_boundOf, cx_ck, nI_clamp, if_true, eq_self, cx_ob, cx_i10, if_false]
      exact ⟨_, rfl, (g3 f hf).1⟩
    · simp (disch := omega) only [e0, f_Bounds_boundOf, cx_ck, nI_clamp, if_true, eq_self, cx_ob, cx_i10, if_false]
      exact ⟨_, rfl, (g3 f hf).2⟩
theorem qz_bad (hn : SOKn M D K N Q R F ks t1 r1 m1 n1 t2 r2 m2 n2) (hF : 1 ≤ F) : ∃ o, f_CB_boundAfter 200 0 0 1 61 (nI M) (nI D) (nI K) (nI N) (nI Q) (nI R) (nI F) ks r1 m1 n1 r2 m2 n2 a1 a2 a3 a4 a5 a6 a7 a8 a9 b1 b2 b3 b4 b5 b6 b7 b8 b9 = some o ∧ o.1 = -3 := by
  obtain ⟨s1, s2, s3, s4, s5, s6, s7, s8, s9, s10, s11, s12, s13⟩ := hn
  have e1 : f_CB_isBraid 0 = some 1 := qb (b := 0) (by omega)
  have e2 : f_CB_isFlow 0 (nI F) = some 1 := qf (f := 0) (by omega) s7
  unfold f_CB_boundAfter
  rw [e1, cx_ob, if_neg cx_i1, e2, cx_ob, if_neg cx_i1, p_from, if_neg (by decide), cx_ob, if_pos rfl]
  exact ⟨_, rfl, rfl⟩
theorem qz_certain (hn : SOKn M D K N Q R F ks t1 r1 m1 n1 t2 r2 m2 n2) {b : Nat} (hb : b ≤ 1) : ∃ o, f_CB_certain 200 (nI b) (nI M) (nI D) (nI K) (nI N) (nI Q) (nI R) (nI F) ks r1 m1 n1 r2 m2 n2 a1 a2 a3 a4 a5 a6 a7 a8 a9 b1 b2 b3 b4 b5 b6 b7 b8 b9 = some o ∧ o.1 = cx_cm (cx_FL M D K N Q R F ks (cx_SS M K ks (tb b t1 t2)) R).1 (cx_FL M D K N Q R F ks (cx_SS M K ks (tb b t1 t2)) R).2 F := by
  obtain ⟨s1, s2, s3, s4, s5, s6, s7, s8, s9, s10, s11, s12, s13⟩ := hn
  unfold f_CB_certain
  rw [qb hb, cx_ob, if_neg cx_i1]
  rcases (show b = 0 ∨ b = 1 by omega) with rfl | rfl
  · rw [if_pos q00]
    obtain ⟨od, e0, g1, g2, g3⟩ := cx_dec_f (k := R) (a1 := a1) (a2 := a2) (a3 := a3) (a4 := a4) (a5 := a5) (a6 := a6) (a7 := a7) (a8 := a8) (a9 := a9) (b1 := b1) (b2 := b2) (b3 := b3) (b4 := b4) (b5 := b5) (b6 := b6) (b7 := b7) (b8 := b8) (b9 := b9) s1 s2.2 s3.2 s4 s5.2 s6 s7 s6 s8 s12
    simp only [e0, cx_ob, g2, cx_cT (show F ≤ 24 by omega)]
    exact ⟨_, rfl, cx_cm_eq g3⟩
  · rw [if_neg q10]
    obtain ⟨od, e0, g1, g2, g3⟩ := cx_dec_s (k := R) (a1 := a1) (a2 := a2) (a3 := a3) (a4 := a4) (a5 := a5) (a6 := a6) (a7 := a7) (a8 := a8) (a9 := a9) (b1 := b1) (b2 := b2) (b3 := b3) (b4 := b4) (b5 := b5) (b6 := b6) (b7 := b7) (b8 := b8) (b9 := b9) s1 s2.2 s3.2 s4 s5.2 s6 s7 s6 s8 s13
    simp only [e0, cx_ob, g2, cx_cT (show F ≤ 24 by omega)]
    exact ⟨_, rfl, cx_cm_eq g3⟩
theorem qz_lastRound (hn : SOKn M D K N Q R F ks t1 r1 m1 n1 t2 r2 m2 n2) {b : Nat} (hb : b ≤ 1) : ∃ o, f_CB_lastRound 200 (nI b) (nI M) (nI D) (nI K) (nI N) (nI Q) (nI R) (nI F) ks r1 m1 n1 r2 m2 n2 a1 a2 a3 a4 a5 a6 a7 a8 a9 b1 b2 b3 b4 b5 b6 b7 b8 b9 = some o ∧ o.1 = nI (cx_FN M D K N Q R F ks (cx_SS M K ks (tb b t1 t2)) R) := by
  obtain ⟨s1, s2, s3, s4, s5, s6, s7, s8, s9, s10, s11, s12, s13⟩ := hn
  unfold f_CB_lastRound
  rw [qb hb, cx_ob, if_neg cx_i1]
  rcases (show b = 0 ∨ b = 1 by omega) with rfl | rfl
  · rw [if_pos q00]
    obtain ⟨od, e0, g1, g2, g3⟩ := cx_dec_f (k := R) (a1 := a1) (a2 := a2) (a3 := a3) (a4 := a4) (a5 := a5) (a6 := a6) (a7 := a7) (a8 := a8) (a9 := a9) (b1 := b1) (b2 := b2) (b3 := b3) (b4 := b4) (b5 := b5) (b6 := b6) (b7 := b7) (b8 := b8) (b9 := b9) s1 s2.2 s3.2 s4 s5.2 s6 s7 s6 s8 s12
    simp only [e0, cx_ob]
    exact ⟨_, rfl, g1⟩
  · rw [if_neg q10]
    obtain ⟨od, e0, g1, g2, g3⟩ := cx_dec_s (k := R) (a1 := a1) (a2 := a2) (a3 := a3) (a4 := a4) (a5 := a5) (a6 := a6) (a7 := a7) (a8 := a8) (a9 := a9) (b1 := b1) (b2 := b2) (b3 := b3) (b4 := b4) (b5 := b5) (b6 := b6) (b7 := b7) (b8 := b8) (b9 := b9) s1 s2.2 s3.2 s4 s5.2 s6 s7 s6 s8 s13
    simp only [e0, cx_ob]
    exact ⟨_, rfl, g1⟩
theorem qz_widest (hn : SOKn M D K N Q R F ks t1 r1 m1 n1 t2 r2 m2 n2) {b : Nat} (hb : b ≤ 1) : ∃ o, f_CB_widest 200 (nI b) (nI M) (nI D) (nI K) (nI N) (nI Q) (nI R) (nI F) ks r1 m1 n1 r2 m2 n2 a1 a2 a3 a4 a5 a6 a7 a8 a9 b1 b2 b3 b4 b5 b6 b7 b8 b9 = some o ∧ o.1 = (cx_wd (cx_FL M D K N Q R F ks (cx_SS M K ks (tb b t1 t2)) R).1 (cx_FL M D K N Q R F ks (cx_SS M K ks (tb b t1 t2)) R).2 F).1 := by
  obtain ⟨s1, s2, s3, s4, s5, s6, s7, s8, s9, s10, s11, s12, s13⟩ := hn
  unfold f_CB_widest
  rw [qb hb, cx_ob, if_neg cx_i1]
  rcases (show b = 0 ∨ b = 1 by omega) with rfl | rfl
  · rw [if_pos q00]
    obtain ⟨od, e0, g1, g2, g3⟩ := cx_dec_f (k := R) (a1 := a1) (a2 := a2) (a3 := a3) (a4 := a4) (a5 := a5) (a6 := a6) (a7 := a7) (a8 := a8) (a9 := a9) (b1 := b1) (b2 := b2) (b3 := b3) (b4 := b4) (b5 := b5) (b6 := b6) (b7 := b7) (b8 := b8) (b9 := b9) s1 s2.2 s3.2 s4 s5.2 s6 s7 s6 s8 s12
    simp only [e0, cx_ob, g2, cx_wT (show F ≤ 24 by omega)]
    exact ⟨_, rfl, congrArg Prod.fst (cx_wd_eq g3)⟩
  · rw [if_neg q10]
    obtain ⟨od, e0, g1, g2, g3⟩ := cx_dec_s (k := R) (a1 := a1) (a2 := a2) (a3 := a3) (a4 := a4) (a5 := a5) (a6 := a6) (a7 := a7) (a8 := a8) (a9 := a9) (b1 := b1) (b2 := b2) (b3 := b3) (b4 := b4) (b5 := b5) (b6 := b6) (b7 := b7) (b8 := b8) (b9 := b9) s1 s2.2 s3.2 s4 s5.2 s6 s7 s6 s8 s13
    simp only [e0, cx_ob, g2, cx_wT (show F ≤ 24 by omega)]
    exact ⟨_, rfl, congrArg Prod.fst (cx_wd_eq g3)⟩
theorem qz_estimate (hn : SOKn M D K N Q R F ks t1 r1 m1 n1 t2 r2 m2 n2) {b f : Nat} (hb : b ≤ 1) (hf : f < F) : ∃ o, f_CB_estimate 200 (nI b) (nI f) (nI M) (nI D) (nI K) (nI N) (nI Q) (nI R) (nI F) ks r1 m1 n1 r2 m2 n2 a1 a2 a3 a4 a5 a6 a7 a8 a9 b1 b2 b3 b4 b5 b6 b7 b8 b9 = some o ∧ o.1 = ((cx_FL M D K N Q R F ks (cx_SS M K ks (tb b t1 t2)) R).1 f + (cx_FL M D K N Q R F ks (cx_SS M K ks (tb b t1 t2)) R).2 f) / 2 := by
  obtain ⟨s1, s2, s3, s4, s5, s6, s7, s8, s9, s10, s11, s12, s13⟩ := hn
  unfold f_CB_estimate
  rw [qb hb, cx_ob, if_neg cx_i1, qf hf s7, cx_ob, if_neg cx_i1]
  rcases (show b = 0 ∨ b = 1 by omega) with rfl | rfl
  · rw [if_pos q00]
    obtain ⟨od, e0, g1, g2, g3⟩ := cx_dec_f (k := R) (a1 := a1) (a2 := a2) (a3 := a3) (a4 := a4) (a5 := a5) (a6 := a6) (a7 := a7) (a8 := a8) (a9 := a9) (b1 := b1) (b2 := b2) (b3 := b3) (b4 := b4) (b5 := b5) (b6 := b6) (b7 := b7) (b8 := b8) (b9 := b9) s1 s2.2 s3.2 s4 s5.2 s6 s7 s6 s8 s12
    simp (disch := omega) only [e0, f_Bounds_boundOf, cx_ck, nI_clamp, if_true, eq_self, cx_ob, cx_i10, if_false]
    exact ⟨_, rfl, by rw [(g3 f hf).1, (g3 f hf).2]; rfl⟩
  · rw [if_neg q10]
    obtain ⟨od, e0, g1, g2, g3⟩ := cx_dec_s (k := R) (a1 := a1) (a2 := a2) (a3 := a3) (a4 := a4) (a5 := a5) (a6 := a6) (a7 := a7) (a8 := a8) (a9 := a9) (b1 := b1) (b2 := b2) (b3 := b3) (b4 := b4) (b5 := b5) (b6 := b6) (b7 := b7) (b8 := b8) (b9 := b9) s1 s2.2 s3.2 s4 s5.2 s6 s7 s6 s8 s13
    simp (disch := omega) only [e0, f_Bounds_boundOf, cx_ck, nI_clamp, if_true, eq_self, cx_ob, cx_i10, if_false]
    exact ⟨_, rfl, by rw [(g3 f hf).1, (g3 f hf).2]; rfl⟩
theorem qz_total1 (hn : SOKn M D K N Q R F ks t1 r1 m1 n1 t2 r2 m2 n2) {b : Nat} (hb : b ≤ 1) : ∃ o, f_CB_total 200 (nI b) 1 (nI M) (nI D) (nI K) (nI N) (nI Q) (nI R) (nI F) ks t1 r1 m1 n1 t2 r2 m2 n2 a1 a2 a3 a4 a5 a6 a7 a8 a9 b1 b2 b3 b4 b5 b6 b7 b8 b9 = some o ∧ o.1 = cx_sL (cx_FL M D K N Q R F ks (cx_SS M K ks (tb b t1 t2)) R).1 F := by
  obtain ⟨s1, s2, s3, s4, s5, s6, s7, s8, s9, s10, s11, s12, s13⟩ := hn
  unfold f_CB_total
  rw [qb hb, cx_ob, if_neg cx_i1, p_from, if_pos (by decide), cx_ob, if_neg cx_i1, if_neg (show ¬ (1 : Int32) = 0 by decide), if_neg (show ¬ (1 : Int32) = 3 by decide)]
  rcases (show b = 0 ∨ b = 1 by omega) with rfl | rfl
  · rw [if_pos q00]
    obtain ⟨od, e0, g1, g2, g3⟩ := cx_dec_f (k := R) (a1 := a1) (a2 := a2) (a3 := a3) (a4 := a4) (a5 := a5) (a6 := a6) (a7 := a7) (a8 := a8) (a9 := a9) (b1 := b1) (b2 := b2) (b3 := b3) (b4 := b4) (b5 := b5) (b6 := b6) (b7 := b7) (b8 := b8) (b9 := b9) s1 s2.2 s3.2 s4 s5.2 s6 s7 s6 s8 s12
    simp only [e0, cx_ob, g2, cx_sT (show F ≤ 24 by omega), if_neg (show ¬ (1 : Int32) = 2 by decide), if_true, eq_self]
    exact ⟨_, rfl, cx_sL_eq fun i hi => (g3 i hi).1⟩
  · rw [if_neg q10]
    obtain ⟨od, e0, g1, g2, g3⟩ := cx_dec_s (k := R) (a1 := a1) (a2 := a2) (a3 := a3) (a4 := a4) (a5 := a5) (a6 := a6) (a7 := a7) (a8 := a8) (a9 := a9) (b1 := b1) (b2 := b2) (b3 := b3) (b4 := b4) (b5 := b5) (b6 := b6) (b7 := b7) (b8 := b8) (b9 := b9) s1 s2.2 s3.2 s4 s5.2 s6 s7 s6 s8 s13
    simp only [e0, cx_ob, g2, cx_sT (show F ≤ 24 by omega), if_neg (show ¬ (1 : Int32) = 2 by decide), if_true, eq_self]
    exact ⟨_, rfl, cx_sL_eq fun i hi => (g3 i hi).1⟩
theorem qz_total2 (hn : SOKn M D K N Q R F ks t1 r1 m1 n1 t2 r2 m2 n2) {b : Nat} (hb : b ≤ 1) : ∃ o, f_CB_total 200 (nI b) 2 (nI M) (nI D) (nI K) (nI N) (nI Q) (nI R) (nI F) ks t1 r1 m1 n1 t2 r2 m2 n2 a1 a2 a3 a4 a5 a6 a7 a8 a9 b1 b2 b3 b4 b5 b6 b7 b8 b9 = some o ∧ o.1 = cx_sL (cx_FL M D K N Q R F ks (cx_SS M K ks (tb b t1 t2)) R).2 F := by
  obtain ⟨s1, s2, s3, s4, s5, s6, s7, s8, s9, s10, s11, s12, s13⟩ := hn
  unfold f_CB_total
  rw [qb hb, cx_ob, if_neg cx_i1, p_from, if_pos (by decide), cx_ob, if_neg cx_i1, if_neg (show ¬ (2 : Int32) = 0 by decide), if_neg (show ¬ (2 : Int32) = 3 by decide)]
  rcases (show b = 0 ∨ b = 1 by omega) with rfl | rfl
  · rw [if_pos q00]
    obtain ⟨od, e0, g1, g2, g3⟩ := cx_dec_f (k := R) (a1 := a1) (a2 := a2) (a3 := a3) (a4 := a4) (a5 := a5) (a6 := a6) (a7 := a7) (a8 := a8) (a9 := a9) (b1 := b1) (b2 := b2) (b3 := b3) (b4 := b4) (b5 := b5) (b6 := b6) (b7 := b7) (b8 := b8) (b9 := b9) s1 s2.2 s3.2 s4 s5.2 s6 s7 s6 s8 s12
    simp only [e0, cx_ob, g2, cx_sT (show F ≤ 24 by omega), if_neg (show ¬ (1 : Int32) = 0 by decide), if_true, eq_self]
    exact ⟨_, rfl, cx_sL_eq fun i hi => (g3 i hi).2⟩
  · rw [if_neg q10]
    obtain ⟨od, e0, g1, g2, g3⟩ := cx_dec_s (k := R) (a1 := a1) (a2 := a2) (a3 := a3) (a4 := a4) (a5 := a5) (a6 := a6) (a7 := a7) (a8 := a8) (a9 := a9) (b1 := b1) (b2 := b2) (b3 := b3) (b4 := b4) (b5 := b5) (b6 := b6) (b7 := b7) (b8 := b8) (b9 := b9) s1 s2.2 s3.2 s4 s5.2 s6 s7 s6 s8 s13
    simp only [e0, cx_ob, g2, cx_sT (show F ≤ 24 by omega), if_neg (show ¬ (1 : Int32) = 0 by decide), if_true, eq_self]
    exact ⟨_, rfl, cx_sL_eq fun i hi => (g3 i hi).2⟩
theorem qz_total0 (_ : SOKn M D K N Q R F ks t1 r1 m1 n1 t2 r2 m2 n2) {b : Nat} (hb : b ≤ 1) : ∃ o, f_CB_total 200 (nI b) 0 (nI M) (nI D) (nI K) (nI N) (nI Q) (nI R) (nI F) ks t1 r1 m1 n1 t2 r2 m2 n2 a1 a2 a3 a4 a5 a6 a7 a8 a9 b1 b2 b3 b4 b5 b6 b7 b8 b9 = some o ∧ o.1 = cx_sL (tb b t1 t2) 16 := by
  unfold f_CB_total
  rw [qb hb, cx_ob, if_neg cx_i1, p_from, if_pos (by decide), cx_ob, if_neg cx_i1, if_pos rfl]
  rcases (show b = 0 ∨ b = 1 by omega) with rfl | rfl
  · rw [if_pos q00, cx_sumT, cx_ob]
    exact ⟨_, rfl, rfl⟩
  · rw [if_neg q10, cx_sumT, cx_ob]
    exact ⟨_, rfl, rfl⟩
theorem qz_total3 (hn : SOKn M D K N Q R F ks t1 r1 m1 n1 t2 r2 m2 n2) {b : Nat} (hb : b ≤ 1) : ∃ o, f_CB_total 200 (nI b) 3 (nI M) (nI D) (nI K) (nI N) (nI Q) (nI R) (nI F) ks t1 r1 m1 n1 t2 r2 m2 n2 a1 a2 a3 a4 a5 a6 a7 a8 a9 b1 b2 b3 b4 b5 b6 b7 b8 b9 = some o ∧ o.1 = cx_sL (cx_nC D N Q (cx_SS M K ks (tb b t1 t2))) 16 := by
  obtain ⟨s1, s2, s3, s4, s5, s6, s7, s8, s9, s10, s11, s12, s13⟩ := hn
  unfold f_CB_total
  rw [qb hb, cx_ob, if_neg cx_i1, p_from, if_pos (by decide), cx_ob, if_neg cx_i1, if_neg (show ¬ (3 : Int32) = 0 by decide), if_pos rfl]
  rcases (show b = 0 ∨ b = 1 by omega) with rfl | rfl
  · rw [if_pos q00, cx_sumN, cx_ob]
    exact ⟨_, rfl, cx_sL_eq fun u hu => s12.2 u hu⟩
  · rw [if_neg q10, cx_sumN, cx_ob]
    exact ⟨_, rfl, cx_sL_eq fun u hu => s13.2 u hu⟩
theorem qz_cO (hn : SOKn M D K N Q R F ks t1 r1 m1 n1 t2 r2 m2 n2) {b : Nat} (hb : b ≤ 1) : ∃ o, f_CB_certainOverflows 200 (nI b) (nI M) (nI N) (nI Q) (nI R) m1 n1 m2 n2 a1 a2 a3 a4 a5 a6 a7 a8 a9 = some o ∧ o.1 = cx_cm (cx_OV M D N Q R (cx_SS M K ks (tb b t1 t2))).1 (cx_OV M D N Q R (cx_SS M K ks (tb b t1 t2))).2 M := by
  obtain ⟨s1, s2, s3, s4, s5, s6, s7, s8, s9, s10, s11, s12, s13⟩ := hn
  unfold f_CB_certainOverflows
  rw [qb hb, cx_ob, if_neg cx_i1]
  rcases (show b = 0 ∨ b = 1 by omega) with rfl | rfl
  · rw [if_pos q00]
    obtain ⟨od, e0, g2, g3⟩ := cx_dO (R := R) (a1 := a1) (a2 := a2) (a3 := a3) (a4 := a4) (a5 := a5) (a6 := a6) (a7 := a7) (a8 := a8) (a9 := a9) s1.2 s4 s5.2 s6 s12
    simp only [e0, cx_ob, g2, cx_cT (show M ≤ 24 by omega)]
    exact ⟨_, rfl, cx_cm_eq g3⟩
  · rw [if_neg q10]
    obtain ⟨od, e0, g2, g3⟩ := cx_dO (R := R) (a1 := a1) (a2 := a2) (a3 := a3) (a4 := a4) (a5 := a5) (a6 := a6) (a7 := a7) (a8 := a8) (a9 := a9) s1.2 s4 s5.2 s6 s13
    simp only [e0, cx_ob, g2, cx_cT (show M ≤ 24 by omega)]
    exact ⟨_, rfl, cx_cm_eq g3⟩
theorem qz_ov0 (hn : SOKn M D K N Q R F ks t1 r1 m1 n1 t2 r2 m2 n2) {b c : Nat} (hb : b ≤ 1) (hc : c < M) : ∃ o, f_CB_overflow 200 (nI b) (nI c) 0 (nI M) (nI N) (nI Q) (nI R) m1 n1 m2 n2 a1 a2 a3 a4 a5 a6 a7 a8 a9 = some o ∧ o.1 = (cx_OV M D N Q R (cx_SS M K ks (tb b t1 t2))).1 c := by
  obtain ⟨s1, s2, s3, s4, s5, s6, s7, s8, s9, s10, s11, s12, s13⟩ := hn
  unfold f_CB_overflow
  rw [qb hb, cx_ob, if_neg cx_i1, qc hc s1.2, cx_ob, if_neg cx_i1]
  rcases (show b = 0 ∨ b = 1 by omega) with rfl | rfl
  · rw [if_pos q00]
    obtain ⟨od, e0, g2, g3⟩ := cx_dO (R := R) (a1 := a1) (a2 := a2) (a3 := a3) (a4 := a4) (a5 := a5) (a6 := a6) (a7 := a7) (a8 := a8) (a9 := a9) s1.2 s4 s5.2 s6 s12
    simp (disch := omega) only [e0, f_Bounds_boundOf, cx_ck, nI_clamp, if_true, eq_self, cx_ob, cx_i10, if_false]
    exact ⟨_, rfl, (g3 c hc).1⟩
  · rw [if_neg q10]
    obtain ⟨od, e0, g2, g3⟩ := cx_dO (R := R) (a1 := a1) (a2 := a2) (a3 := a3) (a4 := a4) (a5 := a5) (a6 := a6) (a7 := a7) (a8 := a8) (a9 := a9) s1.2 s4 s5.2 s6 s13
    simp (disch := omega) only [e0, f_Bounds_boundOf, cx_ck, nI_clamp, if_true, eq_self, cx_ob, cx_i10, if_false]
    exact ⟨_, rfl, (g3 c hc).1⟩
theorem qz_ov1 (hn : SOKn M D K N Q R F ks t1 r1 m1 n1 t2 r2 m2 n2) {b c : Nat} (hb : b ≤ 1) (hc : c < M) : ∃ o, f_CB_overflow 200 (nI b) (nI c) 1 (nI M) (nI N) (nI Q) (nI R) m1 n1 m2 n2 a1 a2 a3 a4 a5 a6 a7 a8 a9 = some o ∧ o.1 = (cx_OV M D N Q R (cx_SS M K ks (tb b t1 t2))).2 c := by
  obtain ⟨s1, s2, s3, s4, s5, s6, s7, s8, s9, s10, s11, s12, s13⟩ := hn
  unfold f_CB_overflow
  rw [qb hb, cx_ob, if_neg cx_i1, qc hc s1.2, cx_ob, if_neg cx_i1]
  rcases (show b = 0 ∨ b = 1 by omega) with rfl | rfl
  · rw [if_pos q00]
    obtain ⟨od, e0, g2, g3⟩ := cx_dO (R := R) (a1 := a1) (a2 := a2) (a3 := a3) (a4 := a4) (a5 := a5) (a6 := a6) (a7 := a7) (a8 := a8) (a9 := a9) s1.2 s4 s5.2 s6 s12
    simp (disch := omega) only [e0, f_Bounds_boundOf, cx_ck, nI_clamp, if_true, eq_self, cx_ob, cx_i10, if_false]
    exact ⟨_, rfl, (g3 c hc).2⟩
  · rw [if_neg q10]
    obtain ⟨od, e0, g2, g3⟩ := cx_dO (R := R) (a1 := a1) (a2 := a2) (a3 := a3) (a4 := a4) (a5 := a5) (a6 := a6) (a7 := a7) (a8 := a8) (a9 := a9) s1.2 s4 s5.2 s6 s13
    simp (disch := omega) only [e0, f_Bounds_boundOf, cx_ck, nI_clamp, if_true, eq_self, cx_ob, cx_i10, if_false]
    exact ⟨_, rfl, (g3 c hc).2⟩
end QB
section QD
variable {M D K N Q R F : Nat} {ks : FI} {t1 t2 : FJ} {s : CBS}
theorem q_bA0 (h : OB M D K N Q R F ks t1 t2 s) {b f k : Nat} (hb : b ≤ 1) (hf : f < F) (hk : k ≤ 60) : ∃ s', f_W_boundAfter 200 (nI b) (nI f) 0 (nI k) s = some ((cx_FL M D K N Q R F ks (cx_SS M K ks (tb b t1 t2)) k).1 f, s') ∧ s'.1.1 = s.1.1 := by
  obtain ⟨⟨r1, m1, n1, r2, m2, n2, e, hn⟩, -⟩ := h
  unfold f_W_boundAfter
  rw [e]
  exact qwrap ((qz_bA hn hb hf hk).1) (fun _ => rfl)
theorem q_bA1 (h : OB M D K N Q R F ks t1 t2 s) {b f k : Nat} (hb : b ≤ 1) (hf : f < F) (hk : k ≤ 60) : ∃ s', f_W_boundAfter 200 (nI b) (nI f) 1 (nI k) s = some ((cx_FL M D K N Q R F ks (cx_SS M K ks (tb b t1 t2)) k).2 f, s') ∧ s'.1.1 = s.1.1 := by
  obtain ⟨⟨r1, m1, n1, r2, m2, n2, e, hn⟩, -⟩ := h
  unfold f_W_boundAfter
  rw [e]
  exact qwrap ((qz_bA hn hb hf hk).2) (fun _ => rfl)
theorem q_bA_bad (h : OB M D K N Q R F ks t1 t2 s) (hF : 1 ≤ F) : ∃ s', f_W_boundAfter 200 0 0 1 61 s = some (-3, s') ∧ s'.1.1 = s.1.1 := by
  obtain ⟨⟨r1, m1, n1, r2, m2, n2, e, hn⟩, -⟩ := h
  unfold f_W_boundAfter
  rw [e]
  exact qwrap (qz_bad hn hF) (fun _ => rfl)
theorem q_certain (h : OB M D K N Q R F ks t1 t2 s) {b : Nat} (hb : b ≤ 1) : ∃ s', f_W_certain 200 (nI b) s = some (cx_cm (cx_FL M D K N Q R F ks (cx_SS M K ks (tb b t1 t2)) R).1 (cx_FL M D K N Q R F ks (cx_SS M K ks (tb b t1 t2)) R).2 F, s') ∧ s'.1.1 = s.1.1 := by
  obtain ⟨⟨r1, m1, n1, r2, m2, n2, e, hn⟩, -⟩ := h
  unfold f_W_certain
  rw [e]
  exact qwrap (qz_certain hn hb) (fun _ => rfl)
theorem q_lastRound (h : OB M D K N Q R F ks t1 t2 s) {b : Nat} (hb : b ≤ 1) : ∃ s', f_W_lastRound 200 (nI b) s = some (nI (cx_FN M D K N Q R F ks (cx_SS M K ks (tb b t1 t2)) R), s') ∧ s'.1.1 = s.1.1 := by
  obtain ⟨⟨r1, m1, n1, r2, m2, n2, e, hn⟩, -⟩ := h
  unfold f_W_lastRound
  rw [e]
  exact qwrap (qz_lastRound hn hb) (fun _ => rfl)
theorem q_widest (h : OB M D K N Q R F ks t1 t2 s) {b : Nat} (hb : b ≤ 1) : ∃ s', f_W_widest 200 (nI b) s = some ((cx_wd (cx_FL M D K N Q R F ks (cx_SS M K ks (tb b t1 t2)) R).1 (cx_FL M D K N Q R F ks (cx_SS M K ks (tb b t1 t2)) R).2 F).1, s') ∧ s'.1.1 = s.1.1 := by
  obtain ⟨⟨r1, m1, n1, r2, m2, n2, e, hn⟩, -⟩ := h
  unfold f_W_widest
  rw [e]
  exact qwrap (qz_widest hn hb) (fun _ => rfl)
theorem q_estimate (h : OB M D K N Q R F ks t1 t2 s) {b f : Nat} (hb : b ≤ 1) (hf : f < F) : ∃ s', f_W_estimate 200 (nI b) (nI f) s = some (((cx_FL M D K N Q R F ks (cx_SS M K ks (tb b t1 t2)) R).1 f + (cx_FL M D K N Q R F ks (cx_SS M K ks (tb b t1 t2)) R).2 f) / 2, s') ∧ s'.1.1 = s.1.1 := by
  obtain ⟨⟨r1, m1, n1, r2, m2, n2, e, hn⟩, -⟩ := h
  unfold f_W_estimate
  rw [e]
  exact qwrap (qz_estimate hn hb hf) (fun _ => rfl)
theorem q_total0 (h : OB M D K N Q R F ks t1 t2 s) {b : Nat} (hb : b ≤ 1) : ∃ s', f_W_total 200 (nI b) 0 s = some (cx_sL (tb b t1 t2) 16, s') ∧ s'.1.1 = s.1.1 := by
  obtain ⟨⟨r1, m1, n1, r2, m2, n2, e, hn⟩, -⟩ := h
  unfold f_W_total
  rw [e]
  exact qwrap (qz_total0 hn hb) (fun _ => rfl)
theorem q_total1 (h : OB M D K N Q R F ks t1 t2 s) {b : Nat} (hb : b ≤ 1) : ∃ s', f_W_total 200 (nI b) 1 s = some (cx_sL (cx_FL M D K N Q R F ks (cx_SS M K ks (tb b t1 t2)) R).1 F, s') ∧ s'.1.1 = s.1.1 := by
  obtain ⟨⟨r1, m1, n1, r2, m2, n2, e, hn⟩, -⟩ := h
  unfold f_W_total
  rw [e]
  exact qwrap (qz_total1 hn hb) (fun _ => rfl)
theorem q_total2 (h : OB M D K N Q R F ks t1 t2 s) {b : Nat} (hb : b ≤ 1) : ∃ s', f_W_total 200 (nI b) 2 s = some (cx_sL (cx_FL M D K N Q R F ks (cx_SS M K ks (tb b t1 t2)) R).2 F, s') ∧ s'.1.1 = s.1.1 := by
  obtain ⟨⟨r1, m1, n1, r2, m2, n2, e, hn⟩, -⟩ := h
  unfold f_W_total
  rw [e]
  exact qwrap (qz_total2 hn hb) (fun _ => rfl)
theorem q_total3 (h : OB M D K N Q R F ks t1 t2 s) {b : Nat} (hb : b ≤ 1) : ∃ s', f_W_total 200 (nI b) 3 s = some (cx_sL (cx_nC D N Q (cx_SS M K ks (tb b t1 t2))) 16, s') ∧ s'.1.1 = s.1.1 := by
  obtain ⟨⟨r1, m1, n1, r2, m2, n2, e, hn⟩, -⟩ := h
  unfold f_W_total
  rw [e]
  exact qwrap (qz_total3 hn hb) (fun _ => rfl)
theorem q_cO (h : OB M D K N Q R F ks t1 t2 s) {b : Nat} (hb : b ≤ 1) : ∃ s', f_W_certainOverflows 200 (nI b) s = some (cx_cm (cx_OV M D N Q R (cx_SS M K ks (tb b t1 t2))).1 (cx_OV M D N Q R (cx_SS M K ks (tb b t1 t2))).2 M, s') ∧ s'.1.1 = s.1.1 := by
  obtain ⟨⟨r1, m1, n1, r2, m2, n2, e, hn⟩, -⟩ := h
  unfold f_W_certainOverflows
  rw [e]
  exact qwrap (qz_cO hn hb) (fun _ => rfl)
theorem q_ov0 (h : OB M D K N Q R F ks t1 t2 s) {b c : Nat} (hb : b ≤ 1) (hc : c < M) : ∃ s', f_W_overflow 200 (nI b) (nI c) 0 s = some ((cx_OV M D N Q R (cx_SS M K ks (tb b t1 t2))).1 c, s') ∧ s'.1.1 = s.1.1 := by
  obtain ⟨⟨r1, m1, n1, r2, m2, n2, e, hn⟩, -⟩ := h
  unfold f_W_overflow
  rw [e]
  exact qwrap (qz_ov0 hn hb hc) (fun _ => rfl)
theorem q_ov1 (h : OB M D K N Q R F ks t1 t2 s) {b c : Nat} (hb : b ≤ 1) (hc : c < M) : ∃ s', f_W_overflow 200 (nI b) (nI c) 1 s = some ((cx_OV M D N Q R (cx_SS M K ks (tb b t1 t2))).2 c, s') ∧ s'.1.1 = s.1.1 := by
  obtain ⟨⟨r1, m1, n1, r2, m2, n2, e, hn⟩, -⟩ := h
  unfold f_W_overflow
  rw [e]
  exact qwrap (qz_ov1 hn hb hc) (fun _ => rfl)
theorem qwrap2 {α β γ : Type} {X : Option (α × β)} {E : α × β → α × γ} {G : α × γ → CBS} {v : α} {x : StateS × HistoryS} (h : ∃ o, X = some o ∧ o.1 = v) (hE : ∀ r, (E r).1 = r.1) (hP : ∀ r, (G r).1.1 = x) : ∃ s' : CBS, ((X.bind fun r => some (E r)).bind fun r => some (r.1, G r)) = some (v, s') ∧ s'.1.1 = x := by
  obtain ⟨o, rfl, rfl⟩ := h
  exact ⟨G (E o), by rw [cx_ob, cx_ob, hE], hP _⟩
theorem q_bound0 (h : OB M D K N Q R F ks t1 t2 s) {b f : Nat} (hb : b ≤ 1) (hf : f < F) : ∃ s', f_W_bound 200 (nI b) (nI f) 0 s = some ((cx_FL M D K N Q R F ks (cx_SS M K ks (tb b t1 t2)) R).1 f, s') ∧ s'.1.1 = s.1.1 := by
  obtain ⟨⟨r1, m1, n1, r2, m2, n2, e, hn⟩, -⟩ := h
  have h6 := hn.2.2.2.2.2.1
  unfold f_W_bound f_CB_bound
  rw [e]
  exact qwrap2 ((qz_bA hn hb hf h6).1) (fun _ => rfl) (fun _ => rfl)
theorem q_bound1 (h : OB M D K N Q R F ks t1 t2 s) {b f : Nat} (hb : b ≤ 1) (hf : f < F) : ∃ s', f_W_bound 200 (nI b) (nI f) 1 s = some ((cx_FL M D K N Q R F ks (cx_SS M K ks (tb b t1 t2)) R).2 f, s') ∧ s'.1.1 = s.1.1 := by
  obtain ⟨⟨r1, m1, n1, r2, m2, n2, e, hn⟩, -⟩ := h
  have h6 := hn.2.2.2.2.2.1
  unfold f_W_bound f_CB_bound
  rw [e]
  exact qwrap2 ((qz_bA hn hb hf h6).2) (fun _ => rfl) (fun _ => rfl)
theorem q_least (h : OB M D K N Q R F ks t1 t2 s) {b f : Nat} (hb : b ≤ 1) (hf : f < F) : ∃ s', f_W_leastPlace 200 (nI b) (nI f) s = some ((cx_FL M D K N Q R F ks (cx_SS M K ks (tb b t1 t2)) 0).2 f, s') ∧ s'.1.1 = s.1.1 := by
  obtain ⟨⟨r1, m1, n1, r2, m2, n2, e, hn⟩, -⟩ := h
  have h6 := hn.2.2.2.2.2.1
  unfold f_W_leastPlace f_CB_leastPlace
  rw [e]
  exact qwrap2 ((qz_bA hn hb hf (k := 0) (by omega)).2) (fun _ => rfl) (fun _ => rfl)
end QD
