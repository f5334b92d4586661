/-- a flow counts, on both sides -/
theorem p_cnt_f {M D K N Q R F : Nat} {ks : FI} {t1 : FJ} {r1 m1 : FI} {n1 : FJ} {t2 : FJ} {r2 m2 : FI} {n2 : FJ} {row : FI} {num : FJ} (h0 : RS 0 (nI M) (nI D) (nI K) (nI N) (nI Q) (nI R) (nI F) ks t1 r1 m1 n1 t2 r2 m2 n2 row num) (hn : SOKn M D K N Q R F ks t1 r1 m1 n1 t2 r2 m2 n2) {f v a : Nat} (hf : f < F) (ea : t1 f = lN a) (hav : a + v ≤ 1000000000) : ∃ (r' m' : FI) (n' : FJ) (row' : FI) (num' : FJ), f_State_countFlow_f 200 (nI f) (lN v) (nI M) (nI D) (nI K) (nI N) (nI Q) (nI F) ks t1 r1 m1 n1 = some (vp_updL t1 f (t1 f + lN v), r', m', n') ∧ f_Model_counts 200 (nI 0) (nI f) (lN v) row num = some (row', num') ∧
    RS 0 (nI M) (nI D) (nI K) (nI N) (nI Q) (nI R) (nI F) ks (vp_updL t1 f (t1 f + lN v)) r' m' n' t2 r2 m2 n2 row' num' ∧ SOKn M D K N Q R F ks (vp_updL t1 f (t1 f + lN v)) r' m' n' t2 r2 m2 n2 ∧ (∀ x, 167 ≤ x → row' x = row x) ∧ (∀ x, 96 ≤ x → num' x = num x) ∧ num' (32 * 0 + f) = t1 f + lN v := by
  obtain ⟨_, hk, T1, T2, Z1, Z2, v1, v2⟩ := st_all h0 hn
  obtain ⟨⟨e0, e1, e2, e3, e4, e5, e6⟩, dk, d1, d2, d3, d4⟩ := RS0_out h0
  obtain ⟨s1, s2, s3, s4, s5, s6, s7, s8, s9, s10, s11, s12, s13⟩ := hn
  obtain ⟨x, hx, k1, k2⟩ := hk f hf
  obtain ⟨r', m', n', f1, f2⟩ := cx_countF_f (t := t1) s1 s2.2 s3.2 s4 s5.2 s7 hf k1 hx (show v < 2 ^ 60 by omega) s12
  obtain ⟨row', num', g1, g2, g3, g4, g5⟩ := cx_counts (b := 0) (f := f) (by omega) s1 s2 s3.2 s4 s5.2 (by omega) e0 e1 e2 e3 e4 k2 hx (show v < 2 ^ 60 by omega) v1
  have SE : cx_SEM D N Q (cx_SS M K ks (vp_updL t1 f (t1 f + lN v))) r' m' n' := cx_SEM_eq f2 fun c _ => (cx_SS_up (by omega) k1 hx ea (by omega) c).symm
  have FN := cx_SEM_fn g2 f2
  refine ⟨r', m', n', row', num', f1, g1, RS0_mk ⟨(g4 _ (by omega)).trans e0, (g4 _ (by omega)).trans e1, (g4 _ (by omega)).trans e2, (g4 _ (by omega)).trans e3, (g4 _ (by omega)).trans e4, (g4 _ (by omega)).trans e5, (g4 _ (by omega)).trans e6⟩ (fun i hi => (g4 _ (by omega)).trans (dk i hi))
      (fun c hc => ⟨((FN.1 c hc).1), ((FN.1 c hc).2)⟩)
      (fun c hc => ⟨(g4 _ (by omega)).trans (d2 c hc).1, (g4 _ (by omega)).trans (d2 c hc).2⟩)
      (fun i hi => ⟨by
        by_cases q : i = f
        · subst q
          exact g3.trans ((congrArg (· + lN v) (d3 i hi).1).trans pk_uLs.symm)
        · exact (g5 _ (by omega) (by omega)).trans ((d3 i hi).1.trans (pk_uLn q).symm), FN.2 i hi⟩)
      (fun i hi => ⟨(g5 _ (by omega) (by omega)).trans (d4 i hi).1, (g5 _ (by omega) (by omega)).trans (d4 i hi).2⟩), ⟨s1, s2, s3, s4, s5, s6, s7, s8, s9, fun i hi => ?_, fun i hi hF => ⟨(pk_uLn (by omega)).trans (s11 i hi hF).1, (s11 i hi hF).2⟩, SE, s13⟩, fun y hy => g4 y (by omega), fun y hy => g5 y (by omega) (by omega), ?_⟩
  · obtain ⟨a', b', ha', hb', ea', eb'⟩ := s10 i hi
    by_cases q : i = f
    · subst q
      exact ⟨a + v, b', by omega, hb', by rw [pk_uLs, ea, lN_add], eb'⟩
    · exact ⟨a', b', ha', hb', (pk_uLn q).trans ea', eb'⟩
  · rw [g3]
    exact congrArg (· + lN v) (d3 f (by omega)).1

/-- a flow counts, on both sides -/
theorem p_cnt_s {M D K N Q R F : Nat} {ks : FI} {t1 : FJ} {r1 m1 : FI} {n1 : FJ} {t2 : FJ} {r2 m2 : FI} {n2 : FJ} {row : FI} {num : FJ} (h0 : RS 0 (nI M) (nI D) (nI K) (nI N) (nI Q) (nI R) (nI F) ks t1 r1 m1 n1 t2 r2 m2 n2 row num) (hn : SOKn M D K N Q R F ks t1 r1 m1 n1 t2 r2 m2 n2) {f v a : Nat} (hf : f < F) (ea : t2 f = lN a) (hav : a + v ≤ 1000000000) : ∃ (r' m' : FI) (n' : FJ) (row' : FI) (num' : FJ), f_State_countFlow_s 200 (nI f) (lN v) (nI M) (nI D) (nI K) (nI N) (nI Q) (nI F) ks t2 r2 m2 n2 = some (vp_updL t2 f (t2 f + lN v), r', m', n') ∧ f_Model_counts 200 (nI 1) (nI f) (lN v) row num = some (row', num') ∧
    RS 0 (nI M) (nI D) (nI K) (nI N) (nI Q) (nI R) (nI F) ks t1 r1 m1 n1 (vp_updL t2 f (t2 f + lN v)) r' m' n' row' num' ∧ SOKn M D K N Q R F ks t1 r1 m1 n1 (vp_updL t2 f (t2 f + lN v)) r' m' n' ∧ (∀ x, 167 ≤ x → row' x = row x) ∧ (∀ x, 96 ≤ x → num' x = num x) ∧ num' (32 * 1 + f) = t2 f + lN v := by
  obtain ⟨_, hk, T1, T2, Z1, Z2, v1, v2⟩ := st_all h0 hn
  obtain ⟨⟨e0, e1, e2, e3, e4, e5, e6⟩, dk, d1, d2, d3, d4⟩ := RS0_out h0
  obtain ⟨s1, s2, s3, s4, s5, s6, s7, s8, s9, s10, s11, s12, s13⟩ := hn
  obtain ⟨x, hx, k1, k2⟩ := hk f hf
  obtain ⟨r', m', n', f1, f2⟩ := cx_countF_s (t := t2) s1 s2.2 s3.2 s4 s5.2 s7 hf k1 hx (show v < 2 ^ 60 by omega) s13
  obtain ⟨row', num', g1, g2, g3, g4, g5⟩ := cx_counts (b := 1) (f := f) (by omega) s1 s2 s3.2 s4 s5.2 (by omega) e0 e1 e2 e3 e4 k2 hx (show v < 2 ^ 60 by omega) v2
  have SE : cx_SEM D N Q (cx_SS M K ks (vp_updL t2 f (t2 f + lN v))) r' m' n' := cx_SEM_eq f2 fun c _ => (cx_SS_up (by omega) k1 hx ea (by omega) c).symm
  have FN := cx_SEM_fn g2 f2
  refine ⟨r', m', n', row', num', f1, g1, RS0_mk ⟨(g4 _ (by omega)).trans e0, (g4 _ (by omega)).trans e1, (g4 _ (by omega)).trans e2, (g4 _ (by omega)).trans e3, (g4 _ (by omega)).trans e4, (g4 _ (by omega)).trans e5, (g4 _ (by omega)).trans e6⟩ (fun i hi => (g4 _ (by omega)).trans (dk i hi))
      (fun c hc => ⟨(g4 _ (by omega)).trans (d1 c hc).1, (g4 _ (by omega)).trans (d1 c hc).2⟩)
      (fun c hc => ⟨((FN.1 c hc).1), ((FN.1 c hc).2)⟩)
      (fun i hi => ⟨(g5 _ (by omega) (by omega)).trans (d3 i hi).1, (g5 _ (by omega) (by omega)).trans (d3 i hi).2⟩)
      (fun i hi => ⟨by
        by_cases q : i = f
        · subst q
          exact g3.trans ((congrArg (· + lN v) (d4 i hi).1).trans pk_uLs.symm)
        · exact (g5 _ (by omega) (by omega)).trans ((d4 i hi).1.trans (pk_uLn q).symm), FN.2 i hi⟩), ⟨s1, s2, s3, s4, s5, s6, s7, s8, s9, fun i hi => ?_, fun i hi hF => ⟨(s11 i hi hF).1, (pk_uLn (by omega)).trans (s11 i hi hF).2⟩, s12, SE⟩, fun y hy => g4 y (by omega), fun y hy => g5 y (by omega) (by omega), ?_⟩
  · obtain ⟨a', b', ha', hb', ea', eb'⟩ := s10 i hi
    by_cases q : i = f
    · subst q
      exact ⟨a', a + v, ha', by omega, ea', by rw [pk_uLs, ea, lN_add]⟩
    · exact ⟨a', b', ha', hb', ea', (pk_uLn q).trans eb'⟩
  · rw [g3]
    exact congrArg (· + lN v) (d4 f (by omega)).1

theorem p_count (x y w : Int32) {M D K N Q R F : Nat} {ks : FI} {t1 : FJ} {r1 m1 : FI} {n1 : FJ} {t2 : FJ} {r2 m2 : FI} {n2 : FJ} {h : HistoryS} {saved : Int32} {row : FI} {num : FJ} (h0 : RS 0 (nI M) (nI D) (nI K) (nI N) (nI Q) (nI R) (nI F) ks t1 r1 m1 n1 t2 r2 m2 n2 row num) (hn : SOKn M D K N Q R F ks t1 r1 m1 n1 t2 r2 m2 n2) (H : HR h saved row num) : OUTP (f_CB_count 200 x y w ((((((nI M, nI D), nI K), ((nI N, nI Q), nI R)), nI F), ks), (((t1, r1), (m1, n1)), ((t2, r2), (m2, n2)))) h) (f_Model_count 200 x y w row num saved) := by
  obtain ⟨⟨d0, d1, d2, d3, d4, d5, d6⟩, hk, T1, T2, Z1, Z2, v1, v2⟩ := st_all h0 hn
  obtain ⟨_, _, _, _, q3, q4⟩ := RS0_out h0
  have s7 := hn.2.2.2.2.2.2.1
  unfold f_CB_count f_Model_count
  rw [p_isBraid.1, p_isBraid.2, (p_isFlow d6).1, (p_isFlow d6).2, p_from, p_in]
  by_cases hx : (0 : Int32) ≤ x ∧ x ≤ 1
  · by_cases hy : 0 ≤ y ∧ y ≤ nI F - 1
    · by_cases hw : (1 : Int32) ≤ w ∧ w ≤ 1000000
      · simp only [if_pos hx, if_pos hy, if_pos hw, cx_ob, cx_i10, if_false]
        obtain ⟨f, hf, rfl⟩ := in_nI (nI_toInt (by omega)) hy (by omega)
        obtain ⟨v, hv1, hv2, rfl⟩ := i32_nat (p := 1) (q := 1000000) rfl rfl hw (by omega)
        rcases braid_cases hx with rfl | rfl
        · obtain ⟨a, ha, ea⟩ := T1 f (by omega)
          have et : f_Model_truthAt 0 (nI f) num = some (t1 f) := (cx_truthAt (b := 0) (by omega) (by omega)).trans (congrArg some (q3 f (by omega)).1)
          simp (disch := omega) only [if_true, eq_self, cx_i10, if_false, cx_ck, nI_clamp, et, cx_ob, ea, nI_l, lN_add]
          by_cases hm : a + v ≤ 1000000000
          · have hm2 : lN (a + v) ≤ 1000000000 := (pk_lLE (b := 1000000000) (by omega) (by omega)).mpr hm
            obtain ⟨h', row', num', sv, g1, g2, g3, g4, g5, g6⟩ := p_push (s := ((((((nI M, nI D), nI K), ((nI N, nI Q), nI R)), nI F), ks), (((t1, r1), (m1, n1)), ((t2, r2), (m2, n2))))) h0 (sok_in hn) H
            obtain ⟨r', m', n', row2, num2, c1, c2, c3, c4, c5, c6, c7⟩ := p_cnt_f (show RS 0 (nI M) (nI D) (nI K) (nI N) (nI Q) (nI R) (nI F) ks t1 r1 m1 n1 t2 r2 m2 n2 row' num' from g6) hn (v := v) hf ea hm
            have c2 : f_Model_counts 200 0 (nI f) (lN v) row' num' = some (row2, num2) := c2
            have et2 : f_Model_truthAt 0 (nI f) num2 = some (t1 f + lN v) := (cx_truthAt (b := 0) (by omega) (by omega)).trans (congrArg some c7)
            simp only [if_pos hm2, g1, g2, cx_ob, c1, c2, et2, pk_uLs, ea]
            rw [ea] at c3 c4
            exact ⟨_, _, rfl, rfl, rfl, ⟨c3, sok_in c4⟩, HR_frame g3 c5 c6⟩
          · have hm2 : ¬ lN (a + v) ≤ 1000000000 := fun w => hm ((pk_lLE (b := 1000000000) (by omega) (by omega)).mp w)
            simp only [if_neg hm2]
            exact OUTP_same h0 hn H
        · obtain ⟨a, ha, ea⟩ := T2 f (by omega)
          have et : f_Model_truthAt 1 (nI f) num = some (t2 f) := (cx_truthAt (b := 1) (by omega) (by omega)).trans (congrArg some (q4 f (by omega)).1)
          simp (disch := omega) only [if_true, eq_self, cx_i10, if_false, cx_ck, nI_clamp, et, cx_ob, ea, nI_l, lN_add]
          by_cases hm : a + v ≤ 1000000000
          · have hm2 : lN (a + v) ≤ 1000000000 := (pk_lLE (b := 1000000000) (by omega) (by omega)).mpr hm
            obtain ⟨h', row', num', sv, g1, g2, g3, g4, g5, g6⟩ := p_push (s := ((((((nI M, nI D), nI K), ((nI N, nI Q), nI R)), nI F), ks), (((t1, r1), (m1, n1)), ((t2, r2), (m2, n2))))) h0 (sok_in hn) H
            obtain ⟨r', m', n', row2, num2, c1, c2, c3, c4, c5, c6, c7⟩ := p_cnt_s (show RS 0 (nI M) (nI D) (nI K) (nI N) (nI Q) (nI R) (nI F) ks t1 r1 m1 n1 t2 r2 m2 n2 row' num' from g6) hn (v := v) hf ea hm
            have c2 : f_Model_counts 200 1 (nI f) (lN v) row' num' = some (row2, num2) := c2
            have et2 : f_Model_truthAt 1 (nI f) num2 = some (t2 f + lN v) := (cx_truthAt (b := 1) (by omega) (by omega)).trans (congrArg some c7)
            simp only [if_pos hm2, g1, g2, cx_ob, c1, c2, et2, pk_uLs, ea]
            rw [ea] at c3 c4
            exact ⟨_, _, rfl, rfl, rfl, ⟨c3, sok_in c4⟩, HR_frame g3 c5 c6⟩
          · have hm2 : ¬ lN (a + v) ≤ 1000000000 := fun w => hm ((pk_lLE (b := 1000000000) (by omega) (by omega)).mp w)
            simp only [if_neg hm2]
            exact OUTP_same h0 hn H
      · simp only [if_pos hx, if_pos hy, if_neg hw, cx_ob, cx_i10, if_false, if_true, eq_self]
        exact OUTP_same h0 hn H
    · simp only [if_pos hx, if_neg hy, cx_ob, cx_i10, if_false, if_true, eq_self]
      exact OUTP_same h0 hn H
  · simp only [if_neg hx, cx_ob, if_true, eq_self]
    exact OUTP_same h0 hn H
theorem p_find2 {x : Int32} {F : Nat} {ks row : FI} (hF : F ≤ 16) (hr : row 6 = nI F) (h1 : ∀ f, f < 16 → row (7 + f) = ks f) (hd : ∀ f g : Nat, f < g → g < F → ks f ≠ ks g) : (∃ j, j < F ∧ ks j = x ∧ f_State_find 200 x (nI F) ks = some (nI j) ∧ f_Model_find 200 x row = some (nI j)) ∨ ((∀ j, j < F → ¬ ks j = x) ∧ f_State_find 200 x (nI F) ks = some (-1) ∧ f_Model_find 200 x row = some (-1)) := by
  unfold f_State_find f_Model_find
  by_cases q : ∃ j, j < F ∧ ks j = x
  · obtain ⟨j, hj, hx⟩ := q
    refine Or.inl ⟨j, hj, hx, findC_at hF hj hx (fun i hi e => hd i j hi hj (e.trans hx.symm)) 200 0 (by omega) (by omega), ?_⟩
    have := findM_at (K := fun i4 i5 => some i4) hF hr hj ((h1 j (by omega)).trans hx) (fun i hi hne e => by
      rw [h1 i (by omega)] at e
      rcases Nat.lt_or_gt_of_ne hne with hl | hl
      · exact hd i j hl hj (e.trans hx.symm)
      · exact hd j i hl hi (hx.trans e.symm)) 200 0 (-1) (by omega) (by omega)
    rw [if_pos (Nat.zero_le _)] at this
    exact this
  · exact Or.inr ⟨fun j hj e => q ⟨j, hj, e⟩, findC_no (K := fun i3 => some (-1)) hF (fun j hj e => q ⟨j, hj, e⟩) 200 0 (by omega) (by omega), findM_no (K := fun i4 i5 => some i4) hF hr (fun j hj e => q ⟨j, hj, (h1 j (by omega)).symm.trans e⟩) 200 0 (-1) (by omega) (by omega)⟩
theorem nI_m1 {j : Nat} (h : j < 2 ^ 31) : (nI j = (-1 : Int32)) = False := eq_false fun w => by
  have := congrArg Int32.toInt w
  rw [nI_toInt h] at this
  have h2 : (-1 : Int32).toInt = -1 := by decide
  omega
/-- a new flow, on both sides -/
theorem p_adds {M D K N Q R F : Nat} {ks : FI} {t1 : FJ} {r1 m1 : FI} {n1 : FJ} {t2 : FJ} {r2 m2 : FI} {n2 : FJ} {row : FI} {num : FJ} (h0 : RS 0 (nI M) (nI D) (nI K) (nI N) (nI Q) (nI R) (nI F) ks t1 r1 m1 n1 t2 r2 m2 n2 row num) (hn : SOKn M D K N Q R F ks t1 r1 m1 n1 t2 r2 m2 n2) {x : Nat} (hx : x ≤ 999) (hF : F < 16) (hno : ∀ j, j < F → ¬ ks j = nI x) : ∃ (row' : FI) (num' : FJ), f_State_findOrAppend 200 (nI x) (nI F) ks = some (nI F, nI (F + 1), upd ks F (nI x)) ∧ f_Model_adds (nI x) row num = some (nI F, row', num') ∧ RS 0 (nI M) (nI D) (nI K) (nI N) (nI Q) (nI R) (nI (F + 1)) (upd ks F (nI x)) t1 r1 m1 n1 t2 r2 m2 n2 row' num' ∧ SOKn M D K N Q R (F + 1) (upd ks F (nI x)) t1 r1 m1 n1 t2 r2 m2 n2 ∧ (∀ y, 167 ≤ y → row' y = row y) ∧ (∀ y, 96 ≤ y → num' y = num y) := by
  obtain ⟨_, hk, T1, T2, Z1, Z2, v1, v2⟩ := st_all h0 hn
  obtain ⟨⟨e0, e1, e2, e3, e4, e5, e6⟩, dk, d1, d2, d3, d4⟩ := RS0_out h0
  obtain ⟨s1, s2, s3, s4, s5, s6, s7, s8, s9, s10, s11, s12, s13⟩ := hn
  have hA6 : upd row (7 + F) (nI x) 6 = nI F := (pk_un (by omega)).trans e6
  have hS : ∀ {T : FJ} (_ : T F = 0) (c : Nat), cx_SS M K ks T c = cx_SS M K (upd ks F (nI x)) T c := fun {T} hT c => cx_sm_eq fun i _ => by
    by_cases q : i = F
    · subst q
      rw [hT]
      exact (ite_self _).trans (ite_self _).symm
    · rw [pk_un q]
  refine ⟨upd (upd row (7 + F) (nI x)) 6 (nI (F + 1)), vp_updL (vp_updL num F 0) (32 + F) 0, ?_, ?_, ?_, ?_, fun y hy => (pk_un (by omega)).trans (pk_un (by omega)), fun y hy => (pk_uLn (by omega)).trans (pk_uLn (by omega))⟩
  · unfold f_State_findOrAppend
    rcases p_find2 (x := nI x) s7 e6 dk s9 with ⟨j, j1, j2, j3, _⟩ | ⟨_, j3, _⟩
    · exact absurd j2 (hno j j1)
    · rw [j3, cx_ob, if_pos rfl, if_neg (cx_G16 (by omega)), if_pos (ck_nI (by omega) (by decide)), nI_clamp (by omega), nI_1]
  · unfold f_Model_adds
    simp (disch := omega) only [cx_c6, if_true, cx_n6, e6, cx_p7, cx_ck, nI_clamp, hA6, cx_p32, nI_1, pk_us, nI_pred]
  · refine RS0_mk ⟨(pk_un (by omega)).trans ((pk_un (by omega)).trans e0), (pk_un (by omega)).trans ((pk_un (by omega)).trans e1), (pk_un (by omega)).trans ((pk_un (by omega)).trans e2), (pk_un (by omega)).trans ((pk_un (by omega)).trans e3), (pk_un (by omega)).trans ((pk_un (by omega)).trans e4), (pk_un (by omega)).trans ((pk_un (by omega)).trans e5), pk_us⟩ (fun i hi => (pk_un (by omega)).trans ?_) (fun c hc => ⟨(pk_un (by omega)).trans ((pk_un (by omega)).trans (d1 c hc).1), (pk_un (by omega)).trans ((pk_un (by omega)).trans (d1 c hc).2)⟩) (fun c hc => ⟨(pk_un (by omega)).trans ((pk_un (by omega)).trans (d2 c hc).1), (pk_un (by omega)).trans ((pk_un (by omega)).trans (d2 c hc).2)⟩)
      (fun i hi => ⟨?_, (pk_uLn (by omega)).trans ((pk_uLn (by omega)).trans (d3 i hi).2)⟩) (fun i hi => ⟨?_, (pk_uLn (by omega)).trans ((pk_uLn (by omega)).trans (d4 i hi).2)⟩)
    · by_cases q : i = F
      · subst q; rw [pk_us, pk_us]
      · rw [pk_un q, pk_un (by omega)]; exact dk i hi
    · show vp_updL (vp_updL num F 0) (32 + F) 0 (32 * 0 + i) = t1 i
      by_cases q : i = F
      · subst q
        rw [pk_uLn (by omega), show 32 * 0 + i = i by omega, pk_uLs, Z1 i hi (Nat.le_refl _)]
      · rw [pk_uLn (by omega), pk_uLn (by omega)]; exact (d3 i hi).1
    · show vp_updL (vp_updL num F 0) (32 + F) 0 (32 * 1 + i) = t2 i
      by_cases q : i = F
      · subst q
        rw [show 32 * 1 + i = 32 + i by omega, pk_uLs, Z2 i hi (Nat.le_refl _)]
      · rw [pk_uLn (by omega), pk_uLn (by omega)]; exact (d4 i hi).1
  · refine ⟨s1, s2, s3, s4, s5, s6, by omega, fun i hi => ?_, fun i j hij hj => ?_, s10, fun i hi hFi => s11 i hi (by omega), cx_SEM_eq s12 fun c _ => hS (Z1 F hF (Nat.le_refl _)) c, cx_SEM_eq s13 fun c _ => hS (Z2 F hF (Nat.le_refl _)) c⟩
    · by_cases q : i = F
      · subst q; exact ⟨x, hx, pk_us⟩
      · rw [pk_un q]; exact s8 i (by omega)
    · by_cases q : j = F
      · subst q
        rw [pk_us, pk_un (by omega)]
        exact hno i hij
      · rw [pk_un q, pk_un (by omega)]
        exact s9 i j hij (by omega)
theorem p_addFlow (y : Int32) {M D K N Q R F : Nat} {ks : FI} {t1 : FJ} {r1 m1 : FI} {n1 : FJ} {t2 : FJ} {r2 m2 : FI} {n2 : FJ} {h : HistoryS} {saved : Int32} {row : FI} {num : FJ} (h0 : RS 0 (nI M) (nI D) (nI K) (nI N) (nI Q) (nI R) (nI F) ks t1 r1 m1 n1 t2 r2 m2 n2 row num) (hn : SOKn M D K N Q R F ks t1 r1 m1 n1 t2 r2 m2 n2) (H : HR h saved row num) : OUTP (f_CB_addFlow 200 y ((((((nI M, nI D), nI K), ((nI N, nI Q), nI R)), nI F), ks), (((t1, r1), (m1, n1)), ((t2, r2), (m2, n2)))) h) (f_Model_addFlow 200 y row num saved) := by
  obtain ⟨⟨e0, e1, e2, e3, e4, e5, e6⟩, dk, d1, d2, d3, d4⟩ := RS0_out h0
  unfold f_CB_addFlow f_Model_addFlow
  simp only [p_from, p_in, cx_ob]
  by_cases hy : (0 : Int32) ≤ y ∧ y ≤ 999
  · simp only [if_pos hy, cx_i10, if_false]
    obtain ⟨x, _, hx, rfl⟩ := i32_nat (p := 0) (q := 999) rfl rfl hy (by omega)
    have s7 := hn.2.2.2.2.2.2.1
    rcases p_find2 (x := nI x) s7 e6 dk hn.2.2.2.2.2.2.2.2.1 with ⟨j, j1, j2, j3, j4⟩ | ⟨hno, j3, j4⟩
    · simp (disch := omega) only [j3, j4, cx_ob, nI_m1, if_false]
      exact OUTP_same h0 hn H
    · simp only [j3, j4, cx_ob, eq_self, if_true, cx_c6, cx_n6, e6]
      by_cases hF : F < 16
      · have hF1 : nI F < (16 : Int32) := nI_lt (b := 16) hF (by omega)
        have hF2 : ¬ nI F = (16 : Int32) := fun w => by have := (nI_eq (b := 16) (by omega) (by omega)).mp w; omega
        obtain ⟨h', row', num', sv, g1, g2, g3, g4, g5, g6⟩ := p_push (s := ((((((nI M, nI D), nI K), ((nI N, nI Q), nI R)), nI F), ks), (((t1, r1), (m1, n1)), ((t2, r2), (m2, n2))))) h0 (sok_in hn) H
        obtain ⟨row2, num2, c1, c2, c3, c4, c5, c6⟩ := p_adds (show RS 0 (nI M) (nI D) (nI K) (nI N) (nI Q) (nI R) (nI F) ks t1 r1 m1 n1 t2 r2 m2 n2 row' num' from g6) hn hx hF hno
        simp only [if_pos hF1, if_neg hF2, g1, g2, cx_ob, c1, c2]
        exact ⟨_, _, rfl, rfl, rfl, ⟨c3, sok_in c4⟩, HR_frame g3 c5 c6⟩
      · have hF1 : ¬ nI F < (16 : Int32) := nI_nlt (b := 16) (by omega) (by omega)
        have hF2 : nI F = (16 : Int32) := (nI_eq (b := 16) (by omega) (by omega)).mpr (by omega)
        simp only [if_neg hF1, if_pos hF2]
        exact OUTP_same h0 hn H
  · simp only [if_neg hy, eq_self, if_true]
    exact OUTP_same h0 hn H
