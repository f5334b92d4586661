def EQ1 {α β γ : Type} (o1 : Option (α × β)) (o2 : Option (α × γ)) : Prop := ∃ (out1 : α × β) (out2 : α × γ), o1 = some out1 ∧ o2 = some out2 ∧ out1.1 = out2.1
theorem EQ1_mk {α β γ : Type} {x : α} {y : β} {z : γ} : EQ1 (some (x, y)) (some (x, z)) := ⟨_, _, rfl, rfl, rfl⟩
theorem EQ1_of {α β γ : Type} {x x' : α} {y : β} {z : γ} (h : x = x') : EQ1 (some (x, y)) (some (x', z)) := ⟨_, _, rfl, rfl, h⟩
theorem st_all {M D K N Q R F : Nat} {ks : FI} {t1 : FJ} {r1 m1 : FI} {n1 : FJ} {t2 : FJ} {r2 m2 : FI} {n2 : FJ} {row : FI} {num : FJ} (h0 : RS 0 (nI M) (nI D) (nI K) (nI N) (nI Q) (nI R) (nI F) ks t1 r1 m1 n1 t2 r2 m2 n2 row num) (hn : SOKn M D K N Q R F ks t1 r1 m1 n1 t2 r2 m2 n2) : (row 0 = nI M ∧ row 1 = nI D ∧ row 2 = nI K ∧ row 3 = nI N ∧ row 4 = nI Q ∧ row 5 = nI R ∧ row 6 = nI F) ∧ (∀ f, f < F → ∃ x, x ≤ 999 ∧ ks f = nI x ∧ row (7 + f) = nI x) ∧ (∀ f, f < 16 → ∃ a, a ≤ 1000000000 ∧ t1 f = lN a) ∧ (∀ f, f < 16 → ∃ a, a ≤ 1000000000 ∧ t2 f = lN a) ∧ (∀ f, f < 16 → F ≤ f → t1 f = 0) ∧ (∀ f, f < 16 → F ≤ f → t2 f = 0) ∧ cx_SEM D N Q (cx_SS M K ks t1) (cx_vr 0 row) (cx_vm 0 row) (cx_vn 0 num) ∧ cx_SEM D N Q (cx_SS M K ks t2) (cx_vr 1 row) (cx_vm 1 row) (cx_vn 1 num) := by
  obtain ⟨d0, dk, d1, d2, d3, d4⟩ := RS0_out h0
  obtain ⟨s1, s2, s3, s4, s5, s6, s7, s8, s9, s10, s11, s12, s13⟩ := hn
  refine ⟨d0, fun f hf => ?_, fun f hf => ?_, fun f hf => ?_, fun f h1 h2 => (s11 f h1 h2).1, fun f h1 h2 => (s11 f h1 h2).2, cx_SEM_cg s12 d1 (fun u hu => (d3 u hu).2), cx_SEM_cg s13 d2 (fun u hu => (d4 u hu).2)⟩
  · obtain ⟨x, hx, e⟩ := s8 f hf
    exact ⟨x, hx, e, (dk f (by omega)).trans e⟩
  · obtain ⟨a, b, ha, hb, e1, e2⟩ := s10 f hf
    exact ⟨a, ha, e1⟩
  · obtain ⟨a, b, ha, hb, e1, e2⟩ := s10 f hf
    exact ⟨b, hb, e2⟩
theorem p_overflow (x y z : Int32) (hz : z = 0 ∨ z = 1) {M D K N Q R F : Nat} {ks : FI} {t1 : FJ} {r1 m1 : FI} {n1 : FJ} {t2 : FJ} {r2 m2 : FI} {n2 : FJ} {row : FI} {num : FJ} {a1 a2 a3 a4 a5 a6 : FJ} {a7 : Nat → FI} {a8 : FI} {a9 : Int32} {b1 b2 b3 b4 b5 b6 : FJ} {b7 : Nat → FI} {b8 : FI} {b9 : Int32} {pl : FI} {lo hi lB hB le gr : FJ} {th ch : Int32} {oL oH : FJ} (h0 : RS 0 (nI M) (nI D) (nI K) (nI N) (nI Q) (nI R) (nI F) ks t1 r1 m1 n1 t2 r2 m2 n2 row num) (hn : SOKn M D K N Q R F ks t1 r1 m1 n1 t2 r2 m2 n2) : EQ1 (f_CB_overflow 200 x y z (nI M) (nI N) (nI Q) (nI R) m1 n1 m2 n2 a1 a2 a3 a4 a5 a6 a7 a8 a9) (f_Model_overflow 200 x y z row num pl lo hi lB hB le gr th ch oL oH) := by
  obtain ⟨⟨d0, d1, d2, d3, d4, d5, d6⟩, hk, T1, T2, Z1, Z2, v1, v2⟩ := st_all h0 hn
  obtain ⟨s1, s2, s3, s4, s5, s6, s7, s8, s9, s10, s11, s12, s13⟩ := hn
  unfold f_CB_overflow f_Model_overflow
  rw [p_isBraid.1, p_isBraid.2, (p_isCounter d0).1, (p_isCounter d0).2]
  by_cases hx : (0 : Int32) ≤ x ∧ x ≤ 1
  · by_cases hy : 0 ≤ y ∧ y ≤ nI M - 1
    · simp only [if_pos hx, if_pos hy, cx_ob, cx_i10, if_false]
      obtain ⟨c, hc, rfl⟩ := in_nI (nI_toInt (by omega)) hy (by omega)
      rcases braid_cases hx with rfl | rfl
      · obtain ⟨od, e0, g1, g2⟩ := cx_dO (R := R) (a1 := a1) (a2 := a2) (a3 := a3) (a4 := a4) (a5 := a5) (a6 := a6) (a7 := a7) (a8 := a8) (a9 := a9) s1.2 s4 s5.2 s6 s12
        obtain ⟨om, e1, k2⟩ := cx_mO (b := 0) (pl := pl) (lo := lo) (hi := hi) (lB := lB) (hB := hB) (le := le) (gr := gr) (th := th) (ch := ch) (oL := oL) (oH := oH) (by omega) s1.2 s4 s5 s6 (cx_SS34 T1) d0 d3 d4 d5 v1
        have e1 : f_Model_findsOverflows 200 0 row num pl lo hi lB hB le gr th ch oL oH = some om := e1
        rcases hz with rfl | rfl <;> simp (disch := omega) only [e0, e1, f_Bounds_boundOf, cx_ck, nI_clamp, if_true, eq_self, cx_ob, cx_i10, if_false]
        · exact EQ1_of ((g2 c hc).1.trans (k2 c hc).1.symm)
        · exact EQ1_of ((g2 c hc).2.trans (k2 c hc).2.symm)
      · obtain ⟨od, e0, g1, g2⟩ := cx_dO (R := R) (a1 := a1) (a2 := a2) (a3 := a3) (a4 := a4) (a5 := a5) (a6 := a6) (a7 := a7) (a8 := a8) (a9 := a9) s1.2 s4 s5.2 s6 s13
        obtain ⟨om, e1, k2⟩ := cx_mO (b := 1) (pl := pl) (lo := lo) (hi := hi) (lB := lB) (hB := hB) (le := le) (gr := gr) (th := th) (ch := ch) (oL := oL) (oH := oH) (by omega) s1.2 s4 s5 s6 (cx_SS34 T2) d0 d3 d4 d5 v2
        have e1 : f_Model_findsOverflows 200 1 row num pl lo hi lB hB le gr th ch oL oH = some om := e1
        rcases hz with rfl | rfl <;> simp (disch := omega) only [e0, e1, f_Bounds_boundOf, cx_ck, nI_clamp, if_true, eq_self, cx_ob, cx_i10, if_false]
        · exact EQ1_of ((g2 c hc).1.trans (k2 c hc).1.symm)
        · exact EQ1_of ((g2 c hc).2.trans (k2 c hc).2.symm)
    · simp only [if_pos hx, if_neg hy, cx_ob, cx_i10, if_false, if_true, eq_self]
      exact EQ1_mk
  · simp only [if_neg hx, cx_ob, if_true, eq_self]
    exact EQ1_mk
theorem p_boundAfter (x y z w : Int32) (hz : z = 0 ∨ z = 1) {M D K N Q R F : Nat} {ks : FI} {t1 : FJ} {r1 m1 : FI} {n1 : FJ} {t2 : FJ} {r2 m2 : FI} {n2 : FJ} {row : FI} {num : FJ} {a1 a2 a3 a4 a5 a6 : FJ} {a7 : Nat → FI} {a8 : FI} {a9 : Int32} {b1 b2 b3 b4 b5 b6 : FJ} {b7 : Nat → FI} {b8 : FI} {b9 : Int32} {pl : FI} {lo hi lB hB le gr : FJ} {th ch : Int32} {oL oH : FJ} (h0 : RS 0 (nI M) (nI D) (nI K) (nI N) (nI Q) (nI R) (nI F) ks t1 r1 m1 n1 t2 r2 m2 n2 row num) (hn : SOKn M D K N Q R F ks t1 r1 m1 n1 t2 r2 m2 n2) : EQ1 (f_CB_boundAfter 200 x y z w (nI M) (nI D) (nI K) (nI N) (nI Q) (nI R) (nI F) ks r1 m1 n1 r2 m2 n2 a1 a2 a3 a4 a5 a6 a7 a8 a9 b1 b2 b3 b4 b5 b6 b7 b8 b9) (f_Model_boundAfter 200 x y z w row num pl lo hi lB hB le gr th ch oL oH) := by
  obtain ⟨⟨d0, d1, d2, d3, d4, d5, d6⟩, hk, T1, T2, Z1, Z2, v1, v2⟩ := st_all h0 hn
  obtain ⟨s1, s2, s3, s4, s5, s6, s7, s8, s9, s10, s11, s12, s13⟩ := hn
  unfold f_CB_boundAfter f_Model_boundAfter
  rw [p_isBraid.1, p_isBraid.2, (p_isFlow d6).1, (p_isFlow d6).2, p_from, p_in]
  by_cases hx : (0 : Int32) ≤ x ∧ x ≤ 1
  · by_cases hy : 0 ≤ y ∧ y ≤ nI F - 1
    · by_cases hw : (0 : Int32) ≤ w ∧ w ≤ 60
      · simp only [if_pos hx, if_pos hy, if_pos hw, cx_ob, cx_i10, if_false]
        obtain ⟨f, hf, rfl⟩ := in_nI (nI_toInt (by omega)) hy (by omega)
        obtain ⟨k, _, hk60, rfl⟩ := i32_nat (p := 0) (q := 60) rfl rfl hw (by omega)
        rcases braid_cases hx with rfl | rfl
        · obtain ⟨od, e0, g1, g2, g3⟩ := cx_dec_f (k := k) (a1 := a1) (a2 := a2) (a3 := a3) (a4 := a4) (a5 := a5) (a6 := a6) (a7 := a7) (a8 := a8) (a9 := a9) (b1 := b1) (b2 := b2) (b3 := b3) (b4 := b4) (b5 := b5) (b6 := b6) (b7 := b7) (b8 := b8) (b9 := b9) s1 s2.2 s3.2 s4 s5.2 s6 s7 hk60 s8 s12
          obtain ⟨om, e1, k1, k2⟩ := cx_mF (b := 0) (k := k) (T := t1) (pl := pl) (lo := lo) (hi := hi) (lB := lB) (hB := hB) (le := le) (gr := gr) (th := th) (ch := ch) (oL := oL) (oH := oH) (by omega) s1 s2 s3 s4 s5 s6 s7 hk60 d0 d1 d2 d3 d4 d5 d6 hk T1 Z1 v1
          have e1 : f_Model_findsFlows 200 0 (nI k) row num pl lo hi lB hB le gr th ch oL oH = some om := e1
          rcases hz with rfl | rfl <;> simp (disch := omega) only [e0, e1, f_Bounds_boundOf, f_Model_boundOf, cx_ck, nI_clamp, if_true, eq_self, cx_ob, cx_i10, if_false, cx_c5, cx_n5, d5]
          · exact EQ1_of ((g3 f hf).1.trans (k2 f hf).1.symm)
          · exact EQ1_of ((g3 f hf).2.trans (k2 f hf).2.symm)
        · obtain ⟨od, e0, g1, g2, g3⟩ := cx_dec_s (k := k) (a1 := a1) (a2 := a2) (a3 := a3) (a4 := a4) (a5 := a5) (a6 := a6) (a7 := a7) (a8 := a8) (a9 := a9) (b1 := b1) (b2 := b2) (b3 := b3) (b4 := b4) (b5 := b5) (b6 := b6) (b7 := b7) (b8 := b8) (b9 := b9) s1 s2.2 s3.2 s4 s5.2 s6 s7 hk60 s8 s13
          obtain ⟨om, e1, k1, k2⟩ := cx_mF (b := 1) (k := k) (T := t2) (pl := pl) (lo := lo) (hi := hi) (lB := lB) (hB := hB) (le := le) (gr := gr) (th := th) (ch := ch) (oL := oL) (oH := oH) (by omega) s1 s2 s3 s4 s5 s6 s7 hk60 d0 d1 d2 d3 d4 d5 d6 hk T2 Z2 v2
          have e1 : f_Model_findsFlows 200 1 (nI k) row num pl lo hi lB hB le gr th ch oL oH = some om := e1
          rcases hz with rfl | rfl <;> simp (disch := omega) only [e0, e1, f_Bounds_boundOf, f_Model_boundOf, cx_ck, nI_clamp, if_true, eq_self, cx_ob, cx_i10, if_false, cx_c5, cx_n5, d5]
          · exact EQ1_of ((g3 f hf).1.trans (k2 f hf).1.symm)
          · exact EQ1_of ((g3 f hf).2.trans (k2 f hf).2.symm)
      · simp only [if_pos hx, if_pos hy, if_neg hw, cx_ob, cx_i10, if_false, if_true, eq_self]
        exact EQ1_mk
    · simp only [if_pos hx, if_neg hy, cx_ob, cx_i10, if_false, if_true, eq_self]
      exact EQ1_mk
  · simp only [if_neg hx, cx_ob, if_true, eq_self]
    exact EQ1_mk
theorem p_bound (x y z : Int32) (hz : z = 0 ∨ z = 1) {M D K N Q R F : Nat} {ks : FI} {t1 : FJ} {r1 m1 : FI} {n1 : FJ} {t2 : FJ} {r2 m2 : FI} {n2 : FJ} {row : FI} {num : FJ} {a1 a2 a3 a4 a5 a6 : FJ} {a7 : Nat → FI} {a8 : FI} {a9 : Int32} {b1 b2 b3 b4 b5 b6 : FJ} {b7 : Nat → FI} {b8 : FI} {b9 : Int32} {pl : FI} {lo hi lB hB le gr : FJ} {th ch : Int32} {oL oH : FJ} (h0 : RS 0 (nI M) (nI D) (nI K) (nI N) (nI Q) (nI R) (nI F) ks t1 r1 m1 n1 t2 r2 m2 n2 row num) (hn : SOKn M D K N Q R F ks t1 r1 m1 n1 t2 r2 m2 n2) : EQ1 (f_CB_bound 200 x y z (nI M) (nI D) (nI K) (nI N) (nI Q) (nI R) (nI F) ks r1 m1 n1 r2 m2 n2 a1 a2 a3 a4 a5 a6 a7 a8 a9 b1 b2 b3 b4 b5 b6 b7 b8 b9) (f_Model_bound 200 x y z row num pl lo hi lB hB le gr th ch oL oH) := by
  obtain ⟨⟨d0, d1, d2, d3, d4, d5, d6⟩, hk, T1, T2, Z1, Z2, v1, v2⟩ := st_all h0 hn
  obtain ⟨s1, s2, s3, s4, s5, s6, s7, s8, s9, s10, s11, s12, s13⟩ := hn
  unfold f_CB_bound f_CB_boundAfter f_Model_bound
  rw [p_isBraid.1, p_isBraid.2, (p_isFlow d6).1, (p_isFlow d6).2, p_from, if_pos (show (0 : Int32) ≤ nI R ∧ nI R ≤ 60 from ⟨nI_pos' (by omega), nI_le (b := 60) (by omega) (by omega)⟩)]
  by_cases hx : (0 : Int32) ≤ x ∧ x ≤ 1
  · by_cases hy : 0 ≤ y ∧ y ≤ nI F - 1
    · simp only [if_pos hx, if_pos hy, cx_ob, cx_i10, if_false, cx_c5, if_true, cx_n5, d5]
      obtain ⟨f, hf, rfl⟩ := in_nI (nI_toInt (by omega)) hy (by omega)
      rcases braid_cases hx with rfl | rfl
      · obtain ⟨od, e0, g1, g2, g3⟩ := cx_dec_f (k := R) (a1 := a1) (a2 := a2) (a3 := a3) (a4 := a4) (a5 := a5) (a6 := a6) (a7 := a7) (a8 := a8) (a9 := a9) (b1 := b1) (b2 := b2) (b3 := b3) (b4 := b4) (b5 := b5) (b6 := b6) (b7 := b7) (b8 := b8) (b9 := b9) s1 s2.2 s3.2 s4 s5.2 s6 s7 s6 s8 s12
        obtain ⟨om, e1, k1, k2⟩ := cx_mF (b := 0) (k := R) (T := t1) (pl := pl) (lo := lo) (hi := hi) (lB := lB) (hB := hB) (le := le) (gr := gr) (th := th) (ch := ch) (oL := oL) (oH := oH) (by omega) s1 s2 s3 s4 s5 s6 s7 s6 d0 d1 d2 d3 d4 d5 d6 hk T1 Z1 v1
        have e1 : f_Model_findsFlows 200 0 (nI R) row num pl lo hi lB hB le gr th ch oL oH = some om := e1
        rcases hz with rfl | rfl <;> simp (disch := omega) only [e0, e1, f_Bounds_boundOf, f_Model_boundOf, cx_ck, nI_clamp, if_true, eq_self, cx_ob, cx_i10, if_false, cx_c5, cx_n5, d5]
        · exact EQ1_of ((g3 f hf).1.trans (k2 f hf).1.symm)
        · exact EQ1_of ((g3 f hf).2.trans (k2 f hf).2.symm)
      · obtain ⟨od, e0, g1, g2, g3⟩ := cx_dec_s (k := R) (a1 := a1) (a2 := a2) (a3 := a3) (a4 := a4) (a5 := a5) (a6 := a6) (a7 := a7) (a8 := a8) (a9 := a9) (b1 := b1) (b2 := b2) (b3 := b3) (b4 := b4) (b5 := b5) (b6 := b6) (b7 := b7) (b8 := b8) (b9 := b9) s1 s2.2 s3.2 s4 s5.2 s6 s7 s6 s8 s13
        obtain ⟨om, e1, k1, k2⟩ := cx_mF (b := 1) (k := R) (T := t2) (pl := pl) (lo := lo) (hi := hi) (lB := lB) (hB := hB) (le := le) (gr := gr) (th := th) (ch := ch) (oL := oL) (oH := oH) (by omega) s1 s2 s3 s4 s5 s6 s7 s6 d0 d1 d2 d3 d4 d5 d6 hk T2 Z2 v2
        have e1 : f_Model_findsFlows 200 1 (nI R) row num pl lo hi lB hB le gr th ch oL oH = some om := e1
        rcases hz with rfl | rfl <;> simp (disch := omega) only [e0, e1, f_Bounds_boundOf, f_Model_boundOf, cx_ck, nI_clamp, if_true, eq_self, cx_ob, cx_i10, if_false, cx_c5, cx_n5, d5]
        · exact EQ1_of ((g3 f hf).1.trans (k2 f hf).1.symm)
        · exact EQ1_of ((g3 f hf).2.trans (k2 f hf).2.symm)
    · simp only [if_pos hx, if_neg hy, cx_ob, cx_i10, if_false, if_true, eq_self]
      exact EQ1_mk
  · simp only [if_neg hx, cx_ob, if_true, eq_self]
    exact EQ1_mk
theorem p_leastPlace (x y : Int32) {M D K N Q R F : Nat} {ks : FI} {t1 : FJ} {r1 m1 : FI} {n1 : FJ} {t2 : FJ} {r2 m2 : FI} {n2 : FJ} {row : FI} {num : FJ} {a1 a2 a3 a4 a5 a6 : FJ} {a7 : Nat → FI} {a8 : FI} {a9 : Int32} {b1 b2 b3 b4 b5 b6 : FJ} {b7 : Nat → FI} {b8 : FI} {b9 : Int32} {pl : FI} {lo hi lB hB le gr : FJ} {th ch : Int32} {oL oH : FJ} (h0 : RS 0 (nI M) (nI D) (nI K) (nI N) (nI Q) (nI R) (nI F) ks t1 r1 m1 n1 t2 r2 m2 n2 row num) (hn : SOKn M D K N Q R F ks t1 r1 m1 n1 t2 r2 m2 n2) : EQ1 (f_CB_leastPlace 200 x y (nI M) (nI D) (nI K) (nI N) (nI Q) (nI R) (nI F) ks r1 m1 n1 r2 m2 n2 a1 a2 a3 a4 a5 a6 a7 a8 a9 b1 b2 b3 b4 b5 b6 b7 b8 b9) (f_Model_leastPlace 200 x y row num pl lo hi lB hB le gr th ch oL oH) := by
  obtain ⟨⟨d0, d1, d2, d3, d4, d5, d6⟩, hk, T1, T2, Z1, Z2, v1, v2⟩ := st_all h0 hn
  obtain ⟨s1, s2, s3, s4, s5, s6, s7, s8, s9, s10, s11, s12, s13⟩ := hn
  unfold f_CB_leastPlace f_CB_boundAfter f_Model_leastPlace
  rw [p_isBraid.1, p_isBraid.2, (p_isFlow d6).1, (p_isFlow d6).2, p_from, if_pos (show (0 : Int32) ≤ 0 ∧ (0 : Int32) ≤ 60 by decide)]
  by_cases hx : (0 : Int32) ≤ x ∧ x ≤ 1
  · by_cases hy : 0 ≤ y ∧ y ≤ nI F - 1
    · simp only [if_pos hx, if_pos hy, cx_ob, cx_i10, if_false]
      obtain ⟨f, hf, rfl⟩ := in_nI (nI_toInt (by omega)) hy (by omega)
      rcases braid_cases hx with rfl | rfl
      · obtain ⟨od, e0, g1, g2, g3⟩ := cx_dec_f (k := 0) (a1 := a1) (a2 := a2) (a3 := a3) (a4 := a4) (a5 := a5) (a6 := a6) (a7 := a7) (a8 := a8) (a9 := a9) (b1 := b1) (b2 := b2) (b3 := b3) (b4 := b4) (b5 := b5) (b6 := b6) (b7 := b7) (b8 := b8) (b9 := b9) s1 s2.2 s3.2 s4 s5.2 s6 s7 (by omega) s8 s12
        obtain ⟨om, e1, k1, k2⟩ := cx_mF (b := 0) (k := 0) (T := t1) (pl := pl) (lo := lo) (hi := hi) (lB := lB) (hB := hB) (le := le) (gr := gr) (th := th) (ch := ch) (oL := oL) (oH := oH) (by omega) s1 s2 s3 s4 s5 s6 s7 (by omega) d0 d1 d2 d3 d4 d5 d6 hk T1 Z1 v1
        have e1 : f_Model_findsFlows 200 0 (nI 0) row num pl lo hi lB hB le gr th ch oL oH = some om := e1
        have e0 : f_Decoder_decode_f 200 0 a1 a2 a3 a4 a5 a6 a7 a8 a9 b1 b2 b3 b4 b5 b6 b7 b8 b9 (nI M) (nI D) (nI K) (nI N) (nI Q) (nI R) (nI F) ks r1 m1 n1 = some od := e0
        have e1 : f_Model_findsFlows 200 0 0 row num pl lo hi lB hB le gr th ch oL oH = some om := e1
        simp (disch := omega) only [e0, e1, f_Bounds_boundOf, f_Model_boundOf, cx_ck, nI_clamp, if_true, eq_self, cx_ob, cx_i10, if_false]
        exact EQ1_of ((g3 f hf).2.trans (k2 f hf).2.symm)
      · obtain ⟨od, e0, g1, g2, g3⟩ := cx_dec_s (k := 0) (a1 := a1) (a2 := a2) (a3 := a3) (a4 := a4) (a5 := a5) (a6 := a6) (a7 := a7) (a8 := a8) (a9 := a9) (b1 := b1) (b2 := b2) (b3 := b3) (b4 := b4) (b5 := b5) (b6 := b6) (b7 := b7) (b8 := b8) (b9 := b9) s1 s2.2 s3.2 s4 s5.2 s6 s7 (by omega) s8 s13
        obtain ⟨om, e1, k1, k2⟩ := cx_mF (b := 1) (k := 0) (T := t2) (pl := pl) (lo := lo) (hi := hi) (lB := lB) (hB := hB) (le := le) (gr := gr) (th := th) (ch := ch) (oL := oL) (oH := oH) (by omega) s1 s2 s3 s4 s5 s6 s7 (by omega) d0 d1 d2 d3 d4 d5 d6 hk T2 Z2 v2
        have e1 : f_Model_findsFlows 200 1 (nI 0) row num pl lo hi lB hB le gr th ch oL oH = some om := e1
        have e0 : f_Decoder_decode_s 200 0 a1 a2 a3 a4 a5 a6 a7 a8 a9 b1 b2 b3 b4 b5 b6 b7 b8 b9 (nI M) (nI D) (nI K) (nI N) (nI Q) (nI R) (nI F) ks r2 m2 n2 = some od := e0
        have e1 : f_Model_findsFlows 200 1 0 row num pl lo hi lB hB le gr th ch oL oH = some om := e1
        simp (disch := omega) only [e0, e1, f_Bounds_boundOf, f_Model_boundOf, cx_ck, nI_clamp, if_true, eq_self, cx_ob, cx_i10, if_false]
        exact EQ1_of ((g3 f hf).2.trans (k2 f hf).2.symm)
    · simp only [if_pos hx, if_neg hy, cx_ob, cx_i10, if_false, if_true, eq_self]
      exact EQ1_mk
  · simp only [if_neg hx, cx_ob, if_true, eq_self]
    exact EQ1_mk
theorem p_certain (x : Int32) {M D K N Q R F : Nat} {ks : FI} {t1 : FJ} {r1 m1 : FI} {n1 : FJ} {t2 : FJ} {r2 m2 : FI} {n2 : FJ} {row : FI} {num : FJ} {a1 a2 a3 a4 a5 a6 : FJ} {a7 : Nat → FI} {a8 : FI} {a9 : Int32} {b1 b2 b3 b4 b5 b6 : FJ} {b7 : Nat → FI} {b8 : FI} {b9 : Int32} {pl : FI} {lo hi lB hB le gr : FJ} {th ch : Int32} {oL oH : FJ} (h0 : RS 0 (nI M) (nI D) (nI K) (nI N) (nI Q) (nI R) (nI F) ks t1 r1 m1 n1 t2 r2 m2 n2 row num) (hn : SOKn M D K N Q R F ks t1 r1 m1 n1 t2 r2 m2 n2) : EQ1 (f_CB_certain 200 x (nI M) (nI D) (nI K) (nI N) (nI Q) (nI R) (nI F) ks r1 m1 n1 r2 m2 n2 a1 a2 a3 a4 a5 a6 a7 a8 a9 b1 b2 b3 b4 b5 b6 b7 b8 b9) (f_Model_certain 200 x row num pl lo hi lB hB le gr th ch oL oH) := by
  obtain ⟨⟨d0, d1, d2, d3, d4, d5, d6⟩, hk, T1, T2, Z1, Z2, v1, v2⟩ := st_all h0 hn
  obtain ⟨s1, s2, s3, s4, s5, s6, s7, s8, s9, s10, s11, s12, s13⟩ := hn
  unfold f_CB_certain f_Model_certain f_Model_certainOf
  rw [p_isBraid.1, p_isBraid.2]
  by_cases hx : (0 : Int32) ≤ x ∧ x ≤ 1
  · simp only [if_pos hx, cx_ob, cx_i10, if_false, cx_c5, if_true, cx_n5, d5]
    rcases braid_cases hx with rfl | rfl
    · obtain ⟨od, e0, g1, g2, g3⟩ := cx_dec_f (k := R) (a1 := a1) (a2 := a2) (a3 := a3) (a4 := a4) (a5 := a5) (a6 := a6) (a7 := a7) (a8 := a8) (a9 := a9) (b1 := b1) (b2 := b2) (b3 := b3) (b4 := b4) (b5 := b5) (b6 := b6) (b7 := b7) (b8 := b8) (b9 := b9) s1 s2.2 s3.2 s4 s5.2 s6 s7 s6 s8 s12
      obtain ⟨om, e1, k1, k2⟩ := cx_mF (b := 0) (k := R) (T := t1) (pl := pl) (lo := lo) (hi := hi) (lB := lB) (hB := hB) (le := le) (gr := gr) (th := th) (ch := ch) (oL := oL) (oH := oH) (by omega) s1 s2 s3 s4 s5 s6 s7 s6 d0 d1 d2 d3 d4 d5 d6 hk T1 Z1 v1
      have e1 : f_Model_findsFlows 200 0 (nI R) row num pl lo hi lB hB le gr th ch oL oH = some om := e1
      simp only [e0, e1, cx_ob, if_true, eq_self, if_false, cx_i10, g2, cx_cT (show F ≤ 24 by omega), cx_mcF (show F ≤ 24 by omega) d6]
      exact EQ1_of (cx_cm_eq fun t ht => ⟨(g3 t ht).1.trans (k2 t ht).1.symm, (g3 t ht).2.trans (k2 t ht).2.symm⟩)
    · obtain ⟨od, e0, g1, g2, g3⟩ := cx_dec_s (k := R) (a1 := a1) (a2 := a2) (a3 := a3) (a4 := a4) (a5 := a5) (a6 := a6) (a7 := a7) (a8 := a8) (a9 := a9) (b1 := b1) (b2 := b2) (b3 := b3) (b4 := b4) (b5 := b5) (b6 := b6) (b7 := b7) (b8 := b8) (b9 := b9) s1 s2.2 s3.2 s4 s5.2 s6 s7 s6 s8 s13
      obtain ⟨om, e1, k1, k2⟩ := cx_mF (b := 1) (k := R) (T := t2) (pl := pl) (lo := lo) (hi := hi) (lB := lB) (hB := hB) (le := le) (gr := gr) (th := th) (ch := ch) (oL := oL) (oH := oH) (by omega) s1 s2 s3 s4 s5 s6 s7 s6 d0 d1 d2 d3 d4 d5 d6 hk T2 Z2 v2
      have e1 : f_Model_findsFlows 200 1 (nI R) row num pl lo hi lB hB le gr th ch oL oH = some om := e1
      simp only [e0, e1, cx_ob, if_true, eq_self, if_false, cx_i10, g2, cx_cT (show F ≤ 24 by omega), cx_mcF (show F ≤ 24 by omega) d6]
      exact EQ1_of (cx_cm_eq fun t ht => ⟨(g3 t ht).1.trans (k2 t ht).1.symm, (g3 t ht).2.trans (k2 t ht).2.symm⟩)
  · simp only [if_neg hx, cx_ob, if_true, eq_self]
    exact EQ1_mk
theorem p_lastRound (x : Int32) {M D K N Q R F : Nat} {ks : FI} {t1 : FJ} {r1 m1 : FI} {n1 : FJ} {t2 : FJ} {r2 m2 : FI} {n2 : FJ} {row : FI} {num : FJ} {a1 a2 a3 a4 a5 a6 : FJ} {a7 : Nat → FI} {a8 : FI} {a9 : Int32} {b1 b2 b3 b4 b5 b6 : FJ} {b7 : Nat → FI} {b8 : FI} {b9 : Int32} {pl : FI} {lo hi lB hB le gr : FJ} {th ch : Int32} {oL oH : FJ} (h0 : RS 0 (nI M) (nI D) (nI K) (nI N) (nI Q) (nI R) (nI F) ks t1 r1 m1 n1 t2 r2 m2 n2 row num) (hn : SOKn M D K N Q R F ks t1 r1 m1 n1 t2 r2 m2 n2) : EQ1 (f_CB_lastRound 200 x (nI M) (nI D) (nI K) (nI N) (nI Q) (nI R) (nI F) ks r1 m1 n1 r2 m2 n2 a1 a2 a3 a4 a5 a6 a7 a8 a9 b1 b2 b3 b4 b5 b6 b7 b8 b9) (f_Model_lastRound 200 x row num pl lo hi lB hB le gr th ch oL oH) := by
  obtain ⟨⟨d0, d1, d2, d3, d4, d5, d6⟩, hk, T1, T2, Z1, Z2, v1, v2⟩ := st_all h0 hn
  obtain ⟨s1, s2, s3, s4, s5, s6, s7, s8, s9, s10, s11, s12, s13⟩ := hn
  unfold f_CB_lastRound f_Model_lastRound
  rw [p_isBraid.1, p_isBraid.2]
  by_cases hx : (0 : Int32) ≤ x ∧ x ≤ 1
  · simp only [if_pos hx, cx_ob, cx_i10, if_false, cx_c5, if_true, cx_n5, d5]
    rcases braid_cases hx with rfl | rfl
    · obtain ⟨od, e0, g1, g2, g3⟩ := cx_dec_f (k := R) (a1 := a1) (a2 := a2) (a3 := a3) (a4 := a4) (a5 := a5) (a6 := a6) (a7 := a7) (a8 := a8) (a9 := a9) (b1 := b1) (b2 := b2) (b3 := b3) (b4 := b4) (b5 := b5) (b6 := b6) (b7 := b7) (b8 := b8) (b9 := b9) s1 s2.2 s3.2 s4 s5.2 s6 s7 s6 s8 s12
      obtain ⟨om, e1, k1, k2⟩ := cx_mF (b := 0) (k := R) (T := t1) (pl := pl) (lo := lo) (hi := hi) (lB := lB) (hB := hB) (le := le) (gr := gr) (th := th) (ch := ch) (oL := oL) (oH := oH) (by omega) s1 s2 s3 s4 s5 s6 s7 s6 d0 d1 d2 d3 d4 d5 d6 hk T1 Z1 v1
      have e1 : f_Model_findsFlows 200 0 (nI R) row num pl lo hi lB hB le gr th ch oL oH = some om := e1
      simp only [e0, e1, cx_ob, if_true, eq_self, if_false, cx_i10]
      exact EQ1_of (g1.trans k1.symm)
    · obtain ⟨od, e0, g1, g2, g3⟩ := cx_dec_s (k := R) (a1 := a1) (a2 := a2) (a3 := a3) (a4 := a4) (a5 := a5) (a6 := a6) (a7 := a7) (a8 := a8) (a9 := a9) (b1 := b1) (b2 := b2) (b3 := b3) (b4 := b4) (b5 := b5) (b6 := b6) (b7 := b7) (b8 := b8) (b9 := b9) s1 s2.2 s3.2 s4 s5.2 s6 s7 s6 s8 s13
      obtain ⟨om, e1, k1, k2⟩ := cx_mF (b := 1) (k := R) (T := t2) (pl := pl) (lo := lo) (hi := hi) (lB := lB) (hB := hB) (le := le) (gr := gr) (th := th) (ch := ch) (oL := oL) (oH := oH) (by omega) s1 s2 s3 s4 s5 s6 s7 s6 d0 d1 d2 d3 d4 d5 d6 hk T2 Z2 v2
      have e1 : f_Model_findsFlows 200 1 (nI R) row num pl lo hi lB hB le gr th ch oL oH = some om := e1
      simp only [e0, e1, cx_ob, if_true, eq_self, if_false, cx_i10]
      exact EQ1_of (g1.trans k1.symm)
  · simp only [if_neg hx, cx_ob, if_true, eq_self]
    exact EQ1_mk
theorem p_widest (x : Int32) {M D K N Q R F : Nat} {ks : FI} {t1 : FJ} {r1 m1 : FI} {n1 : FJ} {t2 : FJ} {r2 m2 : FI} {n2 : FJ} {row : FI} {num : FJ} {a1 a2 a3 a4 a5 a6 : FJ} {a7 : Nat → FI} {a8 : FI} {a9 : Int32} {b1 b2 b3 b4 b5 b6 : FJ} {b7 : Nat → FI} {b8 : FI} {b9 : Int32} {pl : FI} {lo hi lB hB le gr : FJ} {th ch : Int32} {oL oH : FJ} (h0 : RS 0 (nI M) (nI D) (nI K) (nI N) (nI Q) (nI R) (nI F) ks t1 r1 m1 n1 t2 r2 m2 n2 row num) (hn : SOKn M D K N Q R F ks t1 r1 m1 n1 t2 r2 m2 n2) : EQ1 (f_CB_widest 200 x (nI M) (nI D) (nI K) (nI N) (nI Q) (nI R) (nI F) ks r1 m1 n1 r2 m2 n2 a1 a2 a3 a4 a5 a6 a7 a8 a9 b1 b2 b3 b4 b5 b6 b7 b8 b9) (f_Model_widest 200 x row num pl lo hi lB hB le gr th ch oL oH) := by
  obtain ⟨⟨d0, d1, d2, d3, d4, d5, d6⟩, hk, T1, T2, Z1, Z2, v1, v2⟩ := st_all h0 hn
  obtain ⟨s1, s2, s3, s4, s5, s6, s7, s8, s9, s10, s11, s12, s13⟩ := hn
  unfold f_CB_widest f_Model_widest
  rw [p_isBraid.1, p_isBraid.2]
  by_cases hx : (0 : Int32) ≤ x ∧ x ≤ 1
  · simp only [if_pos hx, cx_ob, cx_i10, if_false, cx_c5, if_true, cx_n5, d5]
    rcases braid_cases hx with rfl | rfl
    · obtain ⟨od, e0, g1, g2, g3⟩ := cx_dec_f (k := R) (a1 := a1) (a2 := a2) (a3 := a3) (a4 := a4) (a5 := a5) (a6 := a6) (a7 := a7) (a8 := a8) (a9 := a9) (b1 := b1) (b2 := b2) (b3 := b3) (b4 := b4) (b5 := b5) (b6 := b6) (b7 := b7) (b8 := b8) (b9 := b9) s1 s2.2 s3.2 s4 s5.2 s6 s7 s6 s8 s12
      obtain ⟨om, e1, k1, k2⟩ := cx_mF (b := 0) (k := R) (T := t1) (pl := pl) (lo := lo) (hi := hi) (lB := lB) (hB := hB) (le := le) (gr := gr) (th := th) (ch := ch) (oL := oL) (oH := oH) (by omega) s1 s2 s3 s4 s5 s6 s7 s6 d0 d1 d2 d3 d4 d5 d6 hk T1 Z1 v1
      have e1 : f_Model_findsFlows 200 0 (nI R) row num pl lo hi lB hB le gr th ch oL oH = some om := e1
      simp only [e0, e1, cx_ob, if_true, eq_self, if_false, cx_i10, g2, cx_wT (show F ≤ 24 by omega), cx_mw (show F ≤ 24 by omega) d6]
      exact EQ1_of (congrArg Prod.fst (cx_wd_eq fun t ht => ⟨(g3 t ht).1.trans (k2 t ht).1.symm, (g3 t ht).2.trans (k2 t ht).2.symm⟩))
    · obtain ⟨od, e0, g1, g2, g3⟩ := cx_dec_s (k := R) (a1 := a1) (a2 := a2) (a3 := a3) (a4 := a4) (a5 := a5) (a6 := a6) (a7 := a7) (a8 := a8) (a9 := a9) (b1 := b1) (b2 := b2) (b3 := b3) (b4 := b4) (b5 := b5) (b6 := b6) (b7 := b7) (b8 := b8) (b9 := b9) s1 s2.2 s3.2 s4 s5.2 s6 s7 s6 s8 s13
      obtain ⟨om, e1, k1, k2⟩ := cx_mF (b := 1) (k := R) (T := t2) (pl := pl) (lo := lo) (hi := hi) (lB := lB) (hB := hB) (le := le) (gr := gr) (th := th) (ch := ch) (oL := oL) (oH := oH) (by omega) s1 s2 s3 s4 s5 s6 s7 s6 d0 d1 d2 d3 d4 d5 d6 hk T2 Z2 v2
      have e1 : f_Model_findsFlows 200 1 (nI R) row num pl lo hi lB hB le gr th ch oL oH = some om := e1
      simp only [e0, e1, cx_ob, if_true, eq_self, if_false, cx_i10, g2, cx_wT (show F ≤ 24 by omega), cx_mw (show F ≤ 24 by omega) d6]
      exact EQ1_of (congrArg Prod.fst (cx_wd_eq fun t ht => ⟨(g3 t ht).1.trans (k2 t ht).1.symm, (g3 t ht).2.trans (k2 t ht).2.symm⟩))
  · simp only [if_neg hx, cx_ob, if_true, eq_self]
    exact EQ1_mk
theorem p_certainOverflows (x : Int32) {M D K N Q R F : Nat} {ks : FI} {t1 : FJ} {r1 m1 : FI} {n1 : FJ} {t2 : FJ} {r2 m2 : FI} {n2 : FJ} {row : FI} {num : FJ} {a1 a2 a3 a4 a5 a6 : FJ} {a7 : Nat → FI} {a8 : FI} {a9 : Int32} {b1 b2 b3 b4 b5 b6 : FJ} {b7 : Nat → FI} {b8 : FI} {b9 : Int32} {pl : FI} {lo hi lB hB le gr : FJ} {th ch : Int32} {oL oH : FJ} (h0 : RS 0 (nI M) (nI D) (nI K) (nI N) (nI Q) (nI R) (nI F) ks t1 r1 m1 n1 t2 r2 m2 n2 row num) (hn : SOKn M D K N Q R F ks t1 r1 m1 n1 t2 r2 m2 n2) : EQ1 (f_CB_certainOverflows 200 x (nI M) (nI N) (nI Q) (nI R) m1 n1 m2 n2 a1 a2 a3 a4 a5 a6 a7 a8 a9) (f_Model_certainOverflows 200 x row num pl lo hi lB hB le gr th ch oL oH) := by
  obtain ⟨⟨d0, d1, d2, d3, d4, d5, d6⟩, hk, T1, T2, Z1, Z2, v1, v2⟩ := st_all h0 hn
  obtain ⟨s1, s2, s3, s4, s5, s6, s7, s8, s9, s10, s11, s12, s13⟩ := hn
  unfold f_CB_certainOverflows f_Model_certainOverflows
  rw [p_isBraid.1, p_isBraid.2]
  by_cases hx : (0 : Int32) ≤ x ∧ x ≤ 1
  · simp only [if_pos hx, cx_ob, cx_i10, if_false]
    rcases braid_cases hx with rfl | rfl
    · obtain ⟨od, e0, g1, g2⟩ := cx_dO (R := R) (a1 := a1) (a2 := a2) (a3 := a3) (a4 := a4) (a5 := a5) (a6 := a6) (a7 := a7) (a8 := a8) (a9 := a9) s1.2 s4 s5.2 s6 s12
      obtain ⟨om, e1, k2⟩ := cx_mO (b := 0) (pl := pl) (lo := lo) (hi := hi) (lB := lB) (hB := hB) (le := le) (gr := gr) (th := th) (ch := ch) (oL := oL) (oH := oH) (by omega) s1.2 s4 s5 s6 (cx_SS34 T1) d0 d3 d4 d5 v1
      have e1 : f_Model_findsOverflows 200 0 row num pl lo hi lB hB le gr th ch oL oH = some om := e1
      simp only [e0, e1, cx_ob, if_true, eq_self, if_false, cx_i10, g1, cx_cT s1.2, cx_mcO s1.2 d0]
      exact EQ1_of (cx_cm_eq fun t ht => ⟨(g2 t ht).1.trans (k2 t ht).1.symm, (g2 t ht).2.trans (k2 t ht).2.symm⟩)
    · obtain ⟨od, e0, g1, g2⟩ := cx_dO (R := R) (a1 := a1) (a2 := a2) (a3 := a3) (a4 := a4) (a5 := a5) (a6 := a6) (a7 := a7) (a8 := a8) (a9 := a9) s1.2 s4 s5.2 s6 s13
      obtain ⟨om, e1, k2⟩ := cx_mO (b := 1) (pl := pl) (lo := lo) (hi := hi) (lB := lB) (hB := hB) (le := le) (gr := gr) (th := th) (ch := ch) (oL := oL) (oH := oH) (by omega) s1.2 s4 s5 s6 (cx_SS34 T2) d0 d3 d4 d5 v2
      have e1 : f_Model_findsOverflows 200 1 row num pl lo hi lB hB le gr th ch oL oH = some om := e1
      simp only [e0, e1, cx_ob, if_true, eq_self, if_false, cx_i10, g1, cx_cT s1.2, cx_mcO s1.2 d0]
      exact EQ1_of (cx_cm_eq fun t ht => ⟨(g2 t ht).1.trans (k2 t ht).1.symm, (g2 t ht).2.trans (k2 t ht).2.symm⟩)
  · simp only [if_neg hx, cx_ob, if_true, eq_self]
    exact EQ1_mk
theorem p_estimate (x y : Int32) {M D K N Q R F : Nat} {ks : FI} {t1 : FJ} {r1 m1 : FI} {n1 : FJ} {t2 : FJ} {r2 m2 : FI} {n2 : FJ} {row : FI} {num : FJ} {a1 a2 a3 a4 a5 a6 : FJ} {a7 : Nat → FI} {a8 : FI} {a9 : Int32} {b1 b2 b3 b4 b5 b6 : FJ} {b7 : Nat → FI} {b8 : FI} {b9 : Int32} {pl : FI} {lo hi lB hB le gr : FJ} {th ch : Int32} {oL oH : FJ} (h0 : RS 0 (nI M) (nI D) (nI K) (nI N) (nI Q) (nI R) (nI F) ks t1 r1 m1 n1 t2 r2 m2 n2 row num) (hn : SOKn M D K N Q R F ks t1 r1 m1 n1 t2 r2 m2 n2) : EQ1 (f_CB_estimate 200 x y (nI M) (nI D) (nI K) (nI N) (nI Q) (nI R) (nI F) ks r1 m1 n1 r2 m2 n2 a1 a2 a3 a4 a5 a6 a7 a8 a9 b1 b2 b3 b4 b5 b6 b7 b8 b9) (f_Model_estimate 200 x y row num pl lo hi lB hB le gr th ch oL oH) := by
  obtain ⟨⟨d0, d1, d2, d3, d4, d5, d6⟩, hk, T1, T2, Z1, Z2, v1, v2⟩ := st_all h0 hn
  obtain ⟨s1, s2, s3, s4, s5, s6, s7, s8, s9, s10, s11, s12, s13⟩ := hn
  unfold f_CB_estimate f_Model_estimate
  rw [p_isBraid.1, p_isBraid.2, (p_isFlow d6).1, (p_isFlow d6).2]
  by_cases hx : (0 : Int32) ≤ x ∧ x ≤ 1
  · by_cases hy : 0 ≤ y ∧ y ≤ nI F - 1
    · simp only [if_pos hx, if_pos hy, cx_ob, cx_i10, if_false, cx_c5, if_true, cx_n5, d5]
      obtain ⟨f, hf, rfl⟩ := in_nI (nI_toInt (by omega)) hy (by omega)
      rcases braid_cases hx with rfl | rfl
      · obtain ⟨od, e0, g1, g2, g3⟩ := cx_dec_f (k := R) (a1 := a1) (a2 := a2) (a3 := a3) (a4 := a4) (a5 := a5) (a6 := a6) (a7 := a7) (a8 := a8) (a9 := a9) (b1 := b1) (b2 := b2) (b3 := b3) (b4 := b4) (b5 := b5) (b6 := b6) (b7 := b7) (b8 := b8) (b9 := b9) s1 s2.2 s3.2 s4 s5.2 s6 s7 s6 s8 s12
        obtain ⟨om, e1, k1, k2⟩ := cx_mF (b := 0) (k := R) (T := t1) (pl := pl) (lo := lo) (hi := hi) (lB := lB) (hB := hB) (le := le) (gr := gr) (th := th) (ch := ch) (oL := oL) (oH := oH) (by omega) s1 s2 s3 s4 s5 s6 s7 s6 d0 d1 d2 d3 d4 d5 d6 hk T1 Z1 v1
        have e1 : f_Model_findsFlows 200 0 (nI R) row num pl lo hi lB hB le gr th ch oL oH = some om := e1
        simp (disch := omega) only [e0, e1, f_Bounds_boundOf, cx_ck, nI_clamp, if_true, eq_self, cx_ob, cx_i10, if_false]
        refine EQ1_of ?_
        rw [(g3 f hf).1, (g3 f hf).2, (k2 f hf).1, (k2 f hf).2]
      · obtain ⟨od, e0, g1, g2, g3⟩ := cx_dec_s (k := R) (a1 := a1) (a2 := a2) (a3 := a3) (a4 := a4) (a5 := a5) (a6 := a6) (a7 := a7) (a8 := a8) (a9 := a9) (b1 := b1) (b2 := b2) (b3 := b3) (b4 := b4) (b5 := b5) (b6 := b6) (b7 := b7) (b8 := b8) (b9 := b9) s1 s2.2 s3.2 s4 s5.2 s6 s7 s6 s8 s13
        obtain ⟨om, e1, k1, k2⟩ := cx_mF (b := 1) (k := R) (T := t2) (pl := pl) (lo := lo) (hi := hi) (lB := lB) (hB := hB) (le := le) (gr := gr) (th := th) (ch := ch) (oL := oL) (oH := oH) (by omega) s1 s2 s3 s4 s5 s6 s7 s6 d0 d1 d2 d3 d4 d5 d6 hk T2 Z2 v2
        have e1 : f_Model_findsFlows 200 1 (nI R) row num pl lo hi lB hB le gr th ch oL oH = some om := e1
        simp (disch := omega) only [e0, e1, f_Bounds_boundOf, cx_ck, nI_clamp, if_true, eq_self, cx_ob, cx_i10, if_false]
        refine EQ1_of ?_
        rw [(g3 f hf).1, (g3 f hf).2, (k2 f hf).1, (k2 f hf).2]
    · simp only [if_pos hx, if_neg hy, cx_ob, cx_i10, if_false, if_true, eq_self]
      exact EQ1_mk
  · simp only [if_neg hx, cx_ob, if_true, eq_self]
    exact EQ1_mk
theorem cx_t40 {b F w : Nat} {row : FI} {num lo hi : FJ} {K : Int64 → Int32 → Option (Int64 × FI × FJ × FJ × FJ × FJ × FJ × FJ × Int32 × Int32 × FJ × FJ)} (hb : b ≤ 2) (hF : F ≤ 16) (hw : w < 3) (r6 : row 6 = nI F) : f_Model_total_L40 (nI b) (nI w) lo hi row num K 200 0 0 = K (cx_sL (if w = 0 then cx_vt b num else if w = 1 then lo else hi) F) (nI F) := by
  refine cx_lf (fun n j (s : Int64) => f_Model_total_L40 (nI b) (nI w) lo hi row num K n s (nI j)) (fun s => K s (nI F)) (fun j => cx_sL (if w = 0 then cx_vt b num else if w = 1 then lo else hi) j) F (fun n => ?_) (fun n j hj => ?_) 200 0 (by omega) (by omega)
  · show f_Model_total_L40 (nI b) (nI w) lo hi row num K (n + 1) _ (nI F) = _
    rw [f_Model_total_L40, if_pos (show ck 6 1002 = true from rfl), cx_n6, r6, if_pos (nI_le (Nat.le_refl _) (by omega))]
  · show f_Model_total_L40 (nI b) (nI w) lo hi row num K (n + 1) _ (nI j) = f_Model_total_L40 (nI b) (nI w) lo hi row num K n _ (nI (j + 1))
    rw [f_Model_total_L40, if_pos (show ck 6 1002 = true from rfl), cx_n6, r6, if_neg (nI_ge hj (by omega)), if_neg (cx_G3 (by omega)), cx_truthAt hb (by omega), cx_ob, cx_sL, if_pos (ck_nI (by omega) (by decide)), nI_clamp (by omega), nI_1]
    rcases (show w = 0 ∨ w = 1 ∨ w = 2 by omega) with rfl | rfl | rfl
    · rfl
    · rfl
    · rw [if_neg (show ¬ nI 2 = (0 : Int32) by decide), if_neg (show ¬ nI 2 = (1 : Int32) by decide), if_pos (ck_nI (by omega) (by decide))]
      rfl
theorem cx_t40x {b F : Nat} {row : FI} {num lo hi : FJ} {K : Int64 → Int32 → Option (Int64 × FI × FJ × FJ × FJ × FJ × FJ × FJ × Int32 × Int32 × FJ × FJ)} (r6 : row 6 = nI F) : f_Model_total_L40 (nI b) 3 lo hi row num K 200 0 0 = K 0 0 := by
  rw [f_Model_total_L40, if_pos (show ck 6 1002 = true from rfl), if_pos (show (3 : Int32) ≤ 3 by decide), ite_self]
theorem cx_t105 {b N : Nat} {row : FI} {num : FJ} {K : Int64 → Int32 → Option (Int64 × FI × FJ × FJ × FJ × FJ × FJ × FJ × Int32 × Int32 × FJ × FJ)} (hb : b ≤ 2) (hN : N ≤ 16) (r3 : row 3 = nI N) : f_Model_total_L105 (nI b) 3 row num K 200 0 0 = K (cx_sL (cx_vn b num) N) (nI N) := by
  refine cx_lf (fun n j (s : Int64) => f_Model_total_L105 (nI b) 3 row num K n s (nI j)) (fun s => K s (nI N)) (fun j => cx_sL (cx_vn b num) j) N (fun n => ?_) (fun n j hj => ?_) 200 0 (by omega) (by omega)
  · show f_Model_total_L105 (nI b) 3 row num K (n + 1) _ (nI N) = _
    rw [f_Model_total_L105, if_pos (show ck 3 1002 = true from rfl), cx_n3, r3, if_pos (nI_le (Nat.le_refl _) (by omega))]
  · show f_Model_total_L105 (nI b) 3 row num K (n + 1) _ (nI j) = f_Model_total_L105 (nI b) 3 row num K n _ (nI (j + 1))
    rw [f_Model_total_L105, if_pos (show ck 3 1002 = true from rfl), cx_n3, r3, if_neg (nI_ge hj (by omega)), if_pos rfl, cx_aboveAt hb (by omega), cx_ob, nI_1]
    rfl
theorem cx_t105x {b w : Nat} {row : FI} {num : FJ} {s : Int64} {K : Int64 → Int32 → Option (Int64 × FI × FJ × FJ × FJ × FJ × FJ × FJ × Int32 × Int32 × FJ × FJ)} (hw : w < 3) : f_Model_total_L105 (nI b) (nI w) row num K 200 s 0 = K s 0 := by
  rw [f_Model_total_L105, if_pos (show ck 3 1002 = true from rfl), if_neg (show ¬ nI w = (3 : Int32) from fun z => by have := (nI_eq (b := 3) (by omega) (by omega)).mp z; omega), ite_self]
theorem cx_nz {D N Q : Nat} {S : Nat → Nat} {r m : FI} {n : FJ} (hN : 1 ≤ N ∧ N ≤ 16) (h : cx_SEM D N Q S r m n) : ∀ u, N ≤ u → u < 16 → n u = 0 := by
  intro u h1 h2
  rw [h.2 u h2, cx_sm_z (fun c _ => if_neg fun z => by have := cx_pU_lt (by omega) hN.2 (by omega) z; omega)]
  rfl
theorem cx_d01 : ((0 : Int32) = 1) = False := eq_false (by decide)
theorem cx_d02 : ((0 : Int32) = 2) = False := eq_false (by decide)
theorem cx_d03 : ((0 : Int32) = 3) = False := eq_false (by decide)
theorem cx_d10 : ((1 : Int32) = 0) = False := eq_false (by decide)
theorem cx_d12 : ((1 : Int32) = 2) = False := eq_false (by decide)
theorem cx_d13 : ((1 : Int32) = 3) = False := eq_false (by decide)
theorem cx_d20 : ((2 : Int32) = 0) = False := eq_false (by decide)
theorem cx_d21 : ((2 : Int32) = 1) = False := eq_false (by decide)
theorem cx_d23 : ((2 : Int32) = 3) = False := eq_false (by decide)
theorem cx_d30 : ((3 : Int32) = 0) = False := eq_false (by decide)
theorem cx_d31 : ((3 : Int32) = 1) = False := eq_false (by decide)
theorem cx_d32 : ((3 : Int32) = 2) = False := eq_false (by decide)
theorem p_total (x y : Int32) {M D K N Q R F : Nat} {ks : FI} {t1 : FJ} {r1 m1 : FI} {n1 : FJ} {t2 : FJ} {r2 m2 : FI} {n2 : FJ} {row : FI} {num : FJ} {a1 a2 a3 a4 a5 a6 : FJ} {a7 : Nat → FI} {a8 : FI} {a9 : Int32} {b1 b2 b3 b4 b5 b6 : FJ} {b7 : Nat → FI} {b8 : FI} {b9 : Int32} {pl : FI} {lo hi lB hB le gr : FJ} {th ch : Int32} {oL oH : FJ} (h0 : RS 0 (nI M) (nI D) (nI K) (nI N) (nI Q) (nI R) (nI F) ks t1 r1 m1 n1 t2 r2 m2 n2 row num) (hn : SOKn M D K N Q R F ks t1 r1 m1 n1 t2 r2 m2 n2) : EQ1 (f_CB_total 200 x y (nI M) (nI D) (nI K) (nI N) (nI Q) (nI R) (nI F) ks t1 r1 m1 n1 t2 r2 m2 n2 a1 a2 a3 a4 a5 a6 a7 a8 a9 b1 b2 b3 b4 b5 b6 b7 b8 b9) (f_Model_total 200 x y row num pl lo hi lB hB le gr th ch oL oH) := by
  obtain ⟨_, _, _, _, q3, q4⟩ := RS0_out h0
  obtain ⟨⟨d0, d1, d2, d3, d4, d5, d6⟩, hk, T1, T2, Z1, Z2, v1, v2⟩ := st_all h0 hn
  obtain ⟨s1, s2, s3, s4, s5, s6, s7, s8, s9, s10, s11, s12, s13⟩ := hn
  unfold f_CB_total f_Model_total
  rw [p_isBraid.1, p_isBraid.2, p_from, p_in]
  by_cases hx : (0 : Int32) ≤ x ∧ x ≤ 1
  · by_cases hy : (0 : Int32) ≤ y ∧ y ≤ 3
    · simp only [if_pos hx, if_pos hy, cx_ob, cx_i10, if_false, cx_c5, if_true, cx_n5, d5]
      obtain ⟨j, _, hj, rfl⟩ := i32_nat (p := 0) (q := 3) rfl rfl hy (by omega)
      rcases braid_cases hx with rfl | rfl
      · obtain ⟨od, e0, g1, g2, g3⟩ := cx_dec_f (k := R) (a1 := a1) (a2 := a2) (a3 := a3) (a4 := a4) (a5 := a5) (a6 := a6) (a7 := a7) (a8 := a8) (a9 := a9) (b1 := b1) (b2 := b2) (b3 := b3) (b4 := b4) (b5 := b5) (b6 := b6) (b7 := b7) (b8 := b8) (b9 := b9) s1 s2.2 s3.2 s4 s5.2 s6 s7 s6 s8 s12
        obtain ⟨om, e1, k1, k2⟩ := cx_mF (b := 0) (k := R) (T := t1) (pl := pl) (lo := lo) (hi := hi) (lB := lB) (hB := hB) (le := le) (gr := gr) (th := th) (ch := ch) (oL := oL) (oH := oH) (by omega) s1 s2 s3 s4 s5 s6 s7 s6 d0 d1 d2 d3 d4 d5 d6 hk T1 Z1 v1
        have e1 : f_Model_findsFlows 200 0 (nI R) row num pl lo hi lB hB le gr th ch oL oH = some om := e1
        rcases (show j = 0 ∨ j = 1 ∨ j = 2 ∨ j = 3 by omega) with rfl | rfl | rfl | rfl
        · have e2 : ∀ K, f_Model_total_L40 0 0 om.2.1 om.2.2.1 row num K 200 0 0 = K (cx_sL (cx_vt 0 num) F) (nI F) := fun K => cx_t40 (b := 0) (w := 0) (by omega) s7 (by omega) d6
          have e3 : ∀ s K, f_Model_total_L105 0 0 row num K 200 s 0 = K s 0 := fun s K => cx_t105x (b := 0) (w := 0) (by omega)
          simp only [show nI 0 = (0 : Int32) from rfl, if_true, eq_self, if_false, cx_i10, e1, cx_ob, f_Model_total_J102, e2, e3, cx_sumT]
          exact EQ1_of ((cx_sL_ext s7 (fun i h1 h2 => Z1 i h2 h1)).trans (cx_sL_eq fun i hi => (q3 i (by omega)).1.symm))
        · have e2 : ∀ K, f_Model_total_L40 0 1 om.2.1 om.2.2.1 row num K 200 0 0 = K (cx_sL om.2.1 F) (nI F) := fun K => cx_t40 (b := 0) (w := 1) (by omega) s7 (by omega) d6
          have e3 : ∀ s K, f_Model_total_L105 0 1 row num K 200 s 0 = K s 0 := fun s K => cx_t105x (b := 0) (w := 1) (by omega)
          have e4 : f_Bounds_sumOfBounds 200 0 od.2.2.2.2.2.2.2.2.2.2.2.2.2.2.1 od.2.2.2.2.2.2.2.2.2.2.2.2.2.2.2.1 (nI F) = some (cx_sL od.2.2.2.2.2.2.2.2.2.2.2.2.2.2.1 F) := (cx_sT (z := 0) (by omega)).trans (by rw [if_pos rfl])
          simp only [show nI 1 = (1 : Int32) from rfl, if_true, eq_self, if_false, cx_d10, cx_d13, cx_d12, e0, e1, cx_ob, f_Model_total_J102, e2, e3, g2, e4]
          exact EQ1_of (cx_sL_eq fun i hi => (g3 i hi).1.trans (k2 i hi).1.symm)
        · have e2 : ∀ K, f_Model_total_L40 0 2 om.2.1 om.2.2.1 row num K 200 0 0 = K (cx_sL om.2.2.1 F) (nI F) := fun K => cx_t40 (b := 0) (w := 2) (by omega) s7 (by omega) d6
          have e3 : ∀ s K, f_Model_total_L105 0 2 row num K 200 s 0 = K s 0 := fun s K => cx_t105x (b := 0) (w := 2) (by omega)
          have e4 : f_Bounds_sumOfBounds 200 1 od.2.2.2.2.2.2.2.2.2.2.2.2.2.2.1 od.2.2.2.2.2.2.2.2.2.2.2.2.2.2.2.1 (nI F) = some (cx_sL od.2.2.2.2.2.2.2.2.2.2.2.2.2.2.2.1 F) := (cx_sT (z := 1) (by omega)).trans (by rw [if_neg cx_i1])
          simp only [show nI 2 = (2 : Int32) from rfl, if_true, eq_self, if_false, cx_d10, cx_d20, cx_d23, e0, e1, cx_ob, f_Model_total_J102, e2, e3, g2, e4]
          exact EQ1_of (cx_sL_eq fun i hi => (g3 i hi).2.trans (k2 i hi).2.symm)
        · have e2 : ∀ K, f_Model_total_L40 0 3 om.2.1 om.2.2.1 row num K 200 0 0 = K 0 0 := fun K => cx_t40x (b := 0) d6
          have e3 : ∀ K, f_Model_total_L105 0 3 row num K 200 0 0 = K (cx_sL (cx_vn 0 num) N) (nI N) := fun K => cx_t105 (b := 0) (by omega) s4.2 d3
          simp only [show nI 3 = (3 : Int32) from rfl, if_true, eq_self, if_false, cx_d10, cx_d30, e1, cx_ob, f_Model_total_J102, e2, e3, cx_sumN]
          exact EQ1_of ((cx_sL_ext s4.2 (cx_nz s4 s12)).trans (cx_sL_eq fun i hi => (q3 i (by omega)).2.symm))
      · obtain ⟨od, e0, g1, g2, g3⟩ := cx_dec_s (k := R) (a1 := a1) (a2 := a2) (a3 := a3) (a4 := a4) (a5 := a5) (a6 := a6) (a7 := a7) (a8 := a8) (a9 := a9) (b1 := b1) (b2 := b2) (b3 := b3) (b4 := b4) (b5 := b5) (b6 := b6) (b7 := b7) (b8 := b8) (b9 := b9) s1 s2.2 s3.2 s4 s5.2 s6 s7 s6 s8 s13
        obtain ⟨om, e1, k1, k2⟩ := cx_mF (b := 1) (k := R) (T := t2) (pl := pl) (lo := lo) (hi := hi) (lB := lB) (hB := hB) (le := le) (gr := gr) (th := th) (ch := ch) (oL := oL) (oH := oH) (by omega) s1 s2 s3 s4 s5 s6 s7 s6 d0 d1 d2 d3 d4 d5 d6 hk T2 Z2 v2
        have e1 : f_Model_findsFlows 200 1 (nI R) row num pl lo hi lB hB le gr th ch oL oH = some om := e1
        rcases (show j = 0 ∨ j = 1 ∨ j = 2 ∨ j = 3 by omega) with rfl | rfl | rfl | rfl
        · have e2 : ∀ K, f_Model_total_L40 1 0 om.2.1 om.2.2.1 row num K 200 0 0 = K (cx_sL (cx_vt 1 num) F) (nI F) := fun K => cx_t40 (b := 1) (w := 0) (by omega) s7 (by omega) d6
          have e3 : ∀ s K, f_Model_total_L105 1 0 row num K 200 s 0 = K s 0 := fun s K => cx_t105x (b := 1) (w := 0) (by omega)
          simp only [show nI 0 = (0 : Int32) from rfl, if_true, eq_self, if_false, cx_i10, e1, cx_ob, f_Model_total_J102, e2, e3, cx_sumT]
          exact EQ1_of ((cx_sL_ext s7 (fun i h1 h2 => Z2 i h2 h1)).trans (cx_sL_eq fun i hi => (q4 i (by omega)).1.symm))
        · have e2 : ∀ K, f_Model_total_L40 1 1 om.2.1 om.2.2.1 row num K 200 0 0 = K (cx_sL om.2.1 F) (nI F) := fun K => cx_t40 (b := 1) (w := 1) (by omega) s7 (by omega) d6
          have e3 : ∀ s K, f_Model_total_L105 1 1 row num K 200 s 0 = K s 0 := fun s K => cx_t105x (b := 1) (w := 1) (by omega)
          have e4 : f_Bounds_sumOfBounds 200 0 od.2.2.2.2.2.2.2.2.2.2.2.2.2.2.1 od.2.2.2.2.2.2.2.2.2.2.2.2.2.2.2.1 (nI F) = some (cx_sL od.2.2.2.2.2.2.2.2.2.2.2.2.2.2.1 F) := (cx_sT (z := 0) (by omega)).trans (by rw [if_pos rfl])
          simp only [show nI 1 = (1 : Int32) from rfl, if_true, eq_self, if_false, cx_d10, cx_d13, cx_d12, e0, e1, cx_ob, f_Model_total_J102, e2, e3, g2, e4]
          exact EQ1_of (cx_sL_eq fun i hi => (g3 i hi).1.trans (k2 i hi).1.symm)
        · have e2 : ∀ K, f_Model_total_L40 1 2 om.2.1 om.2.2.1 row num K 200 0 0 = K (cx_sL om.2.2.1 F) (nI F) := fun K => cx_t40 (b := 1) (w := 2) (by omega) s7 (by omega) d6
          have e3 : ∀ s K, f_Model_total_L105 1 2 row num K 200 s 0 = K s 0 := fun s K => cx_t105x (b := 1) (w := 2) (by omega)
          have e4 : f_Bounds_sumOfBounds 200 1 od.2.2.2.2.2.2.2.2.2.2.2.2.2.2.1 od.2.2.2.2.2.2.2.2.2.2.2.2.2.2.2.1 (nI F) = some (cx_sL od.2.2.2.2.2.2.2.2.2.2.2.2.2.2.2.1 F) := (cx_sT (z := 1) (by omega)).trans (by rw [if_neg cx_i1])
          simp only [show nI 2 = (2 : Int32) from rfl, if_true, eq_self, if_false, cx_d10, cx_d20, cx_d23, e0, e1, cx_ob, f_Model_total_J102, e2, e3, g2, e4]
          exact EQ1_of (cx_sL_eq fun i hi => (g3 i hi).2.trans (k2 i hi).2.symm)
        · have e2 : ∀ K, f_Model_total_L40 1 3 om.2.1 om.2.2.1 row num K 200 0 0 = K 0 0 := fun K => cx_t40x (b := 1) d6
          have e3 : ∀ K, f_Model_total_L105 1 3 row num K 200 0 0 = K (cx_sL (cx_vn 1 num) N) (nI N) := fun K => cx_t105 (b := 1) (by omega) s4.2 d3
          simp only [show nI 3 = (3 : Int32) from rfl, if_true, eq_self, if_false, cx_d10, cx_d30, e1, cx_ob, f_Model_total_J102, e2, e3, cx_sumN]
          exact EQ1_of ((cx_sL_ext s4.2 (cx_nz s4 s13)).trans (cx_sL_eq fun i hi => (q4 i (by omega)).2.symm))
    · simp only [if_pos hx, if_neg hy, cx_ob, cx_i10, if_false, if_true, eq_self]
      exact EQ1_mk
  · simp only [if_neg hx, cx_ob, if_true, eq_self]
    exact EQ1_mk
