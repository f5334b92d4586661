theorem cx_lcl {a : Nat} (h : a < 2 ^ 63) : (lN a).toNatClampNeg = a := by
  show (lN a).toInt.toNat = a
  rw [pk_lT h]
  rfl
theorem cx_SEM_cg {D N Q : Nat} {S : Nat → Nat} {r m r' m' : FI} {n n' : FJ} (h : cx_SEM D N Q S r m n) (e : ∀ c, c < 24 → r' c = r c ∧ m' c = m c) (e2 : ∀ u, u < 16 → n' u = n u) : cx_SEM D N Q S r' m' n' :=
  ⟨fun c hc => ⟨(e c hc).1.trans (h.1 c hc).1, (e c hc).2.trans (h.1 c hc).2⟩, fun u hu => (e2 u hu).trans (h.2 u hu)⟩
theorem cx_SS_up {M K f a v x : Nat} {ks : FI} {T : FJ} (hf : f < 16) (hk : ks f = nI x) (hx : x ≤ 999) (ha : T f = lN a) (hv : a + v < 2 ^ 63) (c : Nat) : cx_SS M K ks (vp_updL T f (T f + lN v)) c = cx_SS M K ks T c + (if cx_bt (cx_pK M K x) c = true then v else 0) := by
  unfold cx_SS
  refine cx_sm_up (k := f) hf ?_ (fun i hi hne => by rw [pk_uLn hne])
  rw [pk_uLs, ha, lN_add, cx_lcl hv, cx_lcl (by omega), hk, nI_clamp (by omega)]
  by_cases z : cx_bt (cx_pK M K x) c = true
  · rw [if_pos z, if_pos z, if_pos z]
  · rw [if_neg z, if_neg z, if_neg z]
theorem cx_S_step {S : Nat → Nat} {m : Int32} {v j : Nat} (hb : cx_bt m j = true) : ∀ c, (if c = j then (S j + (if j < j ∧ cx_bt m j = true then v else 0)) + v else S c + (if c < j ∧ cx_bt m c = true then v else 0)) = S c + (if c < j + 1 ∧ cx_bt m c = true then v else 0) := by
  intro c
  by_cases q : c = j
  · subst q
    rw [if_pos rfl, if_neg (fun t => by omega), if_pos ⟨by omega, hb⟩]; omega
  · rw [if_neg q]
    by_cases z : c < j ∧ cx_bt m c = true
    · rw [if_pos z, if_pos ⟨by omega, z.2⟩]
    · rw [if_neg z, if_neg (fun t => z ⟨by omega, t.2⟩)]
theorem cx_S_skip {S : Nat → Nat} {m : Int32} {v j : Nat} (hb : ¬ cx_bt m j = true) : ∀ c, S c + (if c < j ∧ cx_bt m c = true then v else 0) = S c + (if c < j + 1 ∧ cx_bt m c = true then v else 0) := by
  intro c
  by_cases z : c < j ∧ cx_bt m c = true
  · rw [if_pos z, if_pos ⟨by omega, z.2⟩]
  · rw [if_neg z, if_neg (fun t => z ⟨by
      rcases Nat.lt_or_ge c j with w | w
      · exact w
      · exact absurd (by rw [show j = c by omega]; exact t.2) hb, t.2⟩)]
/-- the present state of the model's rows, by braids -/
theorem RS0_mk {fc fb ff fu fv fr fl : Int32} {ks : FI} {t1 : FJ} {r1 m1 : FI} {n1 : FJ} {t2 : FJ} {r2 m2 : FI} {n2 : FJ} {row : FI} {num : FJ} (hf : row 0 = fc ∧ row 1 = fb ∧ row 2 = ff ∧ row 3 = fu ∧ row 4 = fv ∧ row 5 = fr ∧ row 6 = fl) (hk : ∀ f, f < 16 → row (7 + f) = ks f)
    (h1 : ∀ c, c < 24 → cx_vr 0 row c = r1 c ∧ cx_vm 0 row c = m1 c) (h2 : ∀ c, c < 24 → cx_vr 1 row c = r2 c ∧ cx_vm 1 row c = m2 c) (h3 : ∀ f, f < 16 → cx_vt 0 num f = t1 f ∧ cx_vn 0 num f = n1 f) (h4 : ∀ f, f < 16 → cx_vt 1 num f = t2 f ∧ cx_vn 1 num f = n2 f) : RS 0 fc fb ff fu fv fr fl ks t1 r1 m1 n1 t2 r2 m2 n2 row num := by
  refine ⟨hf, fun f hf => ?_, fun c hc => ⟨?_, ?_, ?_, ?_⟩, fun f hf => ⟨?_, ?_, ?_, ?_⟩⟩
  · exact (congrArg row (by omega)).trans (hk f hf)
  · rw [← (h1 c hc).1]; exact congrArg row (by omega)
  · rw [← (h1 c hc).2]; exact congrArg row (by omega)
  · rw [← (h2 c hc).1]; exact congrArg row (by omega)
  · rw [← (h2 c hc).2]; exact congrArg row (by omega)
  · rw [← (h3 f hf).1]; exact congrArg num (by omega)
  · rw [← (h3 f hf).2]; exact congrArg num (by omega)
  · rw [← (h4 f hf).1]; exact congrArg num (by omega)
  · rw [← (h4 f hf).2]; exact congrArg num (by omega)
theorem RS0_out {fc fb ff fu fv fr fl : Int32} {ks : FI} {t1 : FJ} {r1 m1 : FI} {n1 : FJ} {t2 : FJ} {r2 m2 : FI} {n2 : FJ} {row : FI} {num : FJ} (h : RS 0 fc fb ff fu fv fr fl ks t1 r1 m1 n1 t2 r2 m2 n2 row num) : (row 0 = fc ∧ row 1 = fb ∧ row 2 = ff ∧ row 3 = fu ∧ row 4 = fv ∧ row 5 = fr ∧ row 6 = fl) ∧ (∀ f, f < 16 → row (7 + f) = ks f) ∧
    (∀ c, c < 24 → cx_vr 0 row c = r1 c ∧ cx_vm 0 row c = m1 c) ∧ (∀ c, c < 24 → cx_vr 1 row c = r2 c ∧ cx_vm 1 row c = m2 c) ∧ (∀ f, f < 16 → cx_vt 0 num f = t1 f ∧ cx_vn 0 num f = n1 f) ∧ (∀ f, f < 16 → cx_vt 1 num f = t2 f ∧ cx_vn 1 num f = n2 f) := by
  obtain ⟨a, b, c, d⟩ := h
  refine ⟨a, fun f hf => ?_, fun x hx => ⟨?_, ?_⟩, fun x hx => ⟨?_, ?_⟩, fun f hf => ⟨?_, ?_⟩, fun f hf => ⟨?_, ?_⟩⟩
  · exact (congrArg row (by omega)).trans (b f hf)
  · rw [← (c x hx).1]; exact congrArg row (by omega)
  · rw [← (c x hx).2.1]; exact congrArg row (by omega)
  · rw [← (c x hx).2.2.1]; exact congrArg row (by omega)
  · rw [← (c x hx).2.2.2]; exact congrArg row (by omega)
  · rw [← (d f hf).1]; exact congrArg num (by omega)
  · rw [← (d f hf).2.1]; exact congrArg num (by omega)
  · rw [← (d f hf).2.2.1]; exact congrArg num (by omega)
  · rw [← (d f hf).2.2.2]; exact congrArg num (by omega)
theorem cx_countF_f {M D K N Q F f x v : Nat} {ks : FI} {t : FJ} {r m : FI} {n : FJ} {S : Nat → Nat} (hM : 2 ≤ M ∧ M ≤ 24) (hD : D ≤ 8) (hK : K ≤ 4) (hN : 1 ≤ N ∧ N ≤ 16) (hQ : Q ≤ 3) (hF : F ≤ 16) (hf : f < F) (hk : ks f = nI x) (hx : x ≤ 999) (hv : v < 2 ^ 60) (h : cx_SEM D N Q S r m n) :
    ∃ (r' m' : FI) (n' : FJ), f_State_countFlow_f 200 (nI f) (lN v) (nI M) (nI D) (nI K) (nI N) (nI Q) (nI F) ks t r m n = some (vp_updL t f (t f + lN v), r', m', n') ∧ cx_SEM D N Q (fun c => S c + (if cx_bt (cx_pK M K x) c = true then v else 0)) r' m' n' := by
  obtain ⟨s, hP, e⟩ := cx_lp (fun n j (s : FI × FI × FJ) => f_State_countFlow_f_L43 200 (lN v) (cx_pK M K x) (nI D) (nI N) (nI Q) (fun i15 c16 c17 c18 => some (vp_updL t f (t f + lN v), c16, c17, c18)) n (nI j) s.1 s.2.1 s.2.2) (fun s => some (vp_updL t f (t f + lN v), s.1, s.2.1, s.2.2))
    (fun j s => cx_SEM D N Q (fun c => S c + (if c < j ∧ cx_bt (cx_pK M K x) c = true then v else 0)) s.1 s.2.1 s.2.2) 24
    (fun n s _ => by
      show f_State_countFlow_f_L43 200 (lN v) (cx_pK M K x) (nI D) (nI N) (nI Q) _ (n + 1) (nI 24) s.1 s.2.1 s.2.2 = _
      rw [f_State_countFlow_f_L43, if_pos (cx_L24 (by omega) (by omega))])
    (fun n j s hj hP => by
      by_cases hb : cx_bt (cx_pK M K x) j = true
      · obtain ⟨r', m', n', g1, g2⟩ := cx_raise (v := v) hD hN hQ hj hv hP
        refine ⟨(r', m', n'), cx_SEM_eq g2 (fun c _ => cx_S_step hb c), ?_⟩
        show f_State_countFlow_f_L43 200 (lN v) (cx_pK M K x) (nI D) (nI N) (nI Q) _ (n + 1) (nI j) s.1 s.2.1 s.2.2 = _
        rw [f_State_countFlow_f_L43, if_neg (cx_G24 (by omega)), cx_isIn (by omega), cx_ob, if_pos hb, if_neg (by decide), g1, cx_ob, nI_1]
      · refine ⟨s, cx_SEM_eq hP (fun c _ => cx_S_skip hb c), ?_⟩
        show f_State_countFlow_f_L43 200 (lN v) (cx_pK M K x) (nI D) (nI N) (nI Q) _ (n + 1) (nI j) s.1 s.2.1 s.2.2 = _
        rw [f_State_countFlow_f_L43, if_neg (cx_G24 (by omega)), cx_isIn (by omega), cx_ob, if_neg hb, if_pos rfl, nI_1]) 200 0 (r, m, n) (by omega) (by omega) (cx_SEM_eq h (fun c _ => by rw [if_neg (fun t => Nat.not_lt_zero c t.1)]; rfl))
  refine ⟨s.1, s.2.1, s.2.2, ?_, cx_SEM_eq hP (fun c hc => ?_)⟩
  · unfold f_State_countFlow_f
    have hF1 : nI F - 1 = nI (F - 1) := pk_sub (b := 1) (by omega)
    rw [p_from, hF1, if_pos ⟨nI_pos' (by omega), nI_le (by omega) (by omega)⟩, cx_ob, if_neg (by decide), if_pos (ck_nI (by omega) (by decide)), if_pos (ck_nI (by omega) (by decide)), if_pos (ck_nI (by omega) (by decide)), nI_clamp (by omega), hk, cx_plK hx hM hK, cx_ob]
    exact e
  · by_cases z : cx_bt (cx_pK M K x) c = true
    · rw [if_pos ⟨hc, z⟩, if_pos z]
    · rw [if_neg (fun t => z t.2), if_neg z]
theorem cx_countF_s {M D K N Q F f x v : Nat} {ks : FI} {t : FJ} {r m : FI} {n : FJ} {S : Nat → Nat} (hM : 2 ≤ M ∧ M ≤ 24) (hD : D ≤ 8) (hK : K ≤ 4) (hN : 1 ≤ N ∧ N ≤ 16) (hQ : Q ≤ 3) (hF : F ≤ 16) (hf : f < F) (hk : ks f = nI x) (hx : x ≤ 999) (hv : v < 2 ^ 60) (h : cx_SEM D N Q S r m n) :
    ∃ (r' m' : FI) (n' : FJ), f_State_countFlow_s 200 (nI f) (lN v) (nI M) (nI D) (nI K) (nI N) (nI Q) (nI F) ks t r m n = some (vp_updL t f (t f + lN v), r', m', n') ∧ cx_SEM D N Q (fun c => S c + (if cx_bt (cx_pK M K x) c = true then v else 0)) r' m' n' := by
  obtain ⟨s, hP, e⟩ := cx_lp (fun n j (s : FI × FI × FJ) => f_State_countFlow_s_L43 200 (lN v) (cx_pK M K x) (nI D) (nI N) (nI Q) (fun i15 c16 c17 c18 => some (vp_updL t f (t f + lN v), c16, c17, c18)) n (nI j) s.1 s.2.1 s.2.2) (fun s => some (vp_updL t f (t f + lN v), s.1, s.2.1, s.2.2))
    (fun j s => cx_SEM D N Q (fun c => S c + (if c < j ∧ cx_bt (cx_pK M K x) c = true then v else 0)) s.1 s.2.1 s.2.2) 24
    (fun n s _ => by
      show f_State_countFlow_s_L43 200 (lN v) (cx_pK M K x) (nI D) (nI N) (nI Q) _ (n + 1) (nI 24) s.1 s.2.1 s.2.2 = _
      rw [f_State_countFlow_s_L43, if_pos (cx_L24 (by omega) (by omega))])
    (fun n j s hj hP => by
      by_cases hb : cx_bt (cx_pK M K x) j = true
      · obtain ⟨r', m', n', g1, g2⟩ := cx_raise (v := v) hD hN hQ hj hv hP
        refine ⟨(r', m', n'), cx_SEM_eq g2 (fun c _ => cx_S_step hb c), ?_⟩
        show f_State_countFlow_s_L43 200 (lN v) (cx_pK M K x) (nI D) (nI N) (nI Q) _ (n + 1) (nI j) s.1 s.2.1 s.2.2 = _
        rw [f_State_countFlow_s_L43, if_neg (cx_G24 (by omega)), cx_isIn (by omega), cx_ob, if_pos hb, if_neg (by decide), g1, cx_ob, nI_1]
      · refine ⟨s, cx_SEM_eq hP (fun c _ => cx_S_skip hb c), ?_⟩
        show f_State_countFlow_s_L43 200 (lN v) (cx_pK M K x) (nI D) (nI N) (nI Q) _ (n + 1) (nI j) s.1 s.2.1 s.2.2 = _
        rw [f_State_countFlow_s_L43, if_neg (cx_G24 (by omega)), cx_isIn (by omega), cx_ob, if_neg hb, if_pos rfl, nI_1]) 200 0 (r, m, n) (by omega) (by omega) (cx_SEM_eq h (fun c _ => by rw [if_neg (fun t => Nat.not_lt_zero c t.1)]; rfl))
  refine ⟨s.1, s.2.1, s.2.2, ?_, cx_SEM_eq hP (fun c hc => ?_)⟩
  · unfold f_State_countFlow_s
    have hF1 : nI F - 1 = nI (F - 1) := pk_sub (b := 1) (by omega)
    rw [p_from, hF1, if_pos ⟨nI_pos' (by omega), nI_le (by omega) (by omega)⟩, cx_ob, if_neg (by decide), if_pos (ck_nI (by omega) (by decide)), if_pos (ck_nI (by omega) (by decide)), if_pos (ck_nI (by omega) (by decide)), nI_clamp (by omega), hk, cx_plK hx hM hK, cx_ob]
    exact e
  · by_cases z : cx_bt (cx_pK M K x) c = true
    · rw [if_pos ⟨hc, z⟩, if_pos z]
    · rw [if_neg (fun t => z t.2), if_neg z]
theorem cx_counts {M D K N Q f x v b : Nat} {row : FI} {num : FJ} {S : Nat → Nat} (hb : b ≤ 2) (hM : 2 ≤ M ∧ M ≤ 24) (hD : 1 ≤ D ∧ D ≤ 8) (hK : K ≤ 4) (hN : 1 ≤ N ∧ N ≤ 16) (hQ : Q ≤ 3) (hf : f < 16) (r0 : row 0 = nI M) (r1 : row 1 = nI D) (r2 : row 2 = nI K) (r3 : row 3 = nI N) (r4 : row 4 = nI Q) (hk : row (7 + f) = nI x) (hx : x ≤ 999) (hv : v < 2 ^ 60) (h : cx_SEM D N Q S (cx_vr b row) (cx_vm b row) (cx_vn b num)) :
    ∃ (row' : FI) (num' : FJ), f_Model_counts 200 (nI b) (nI f) (lN v) row num = some (row', num') ∧ cx_SEM D N Q (fun c => S c + (if cx_bt (cx_pK M K x) c = true then v else 0)) (cx_vr b row') (cx_vm b row') (cx_vn b num') ∧ num' (32 * b + f) = num (32 * b + f) + lN v ∧ (∀ y, ¬ (23 + 48 * b ≤ y ∧ y < 23 + 48 * b + 48) → row' y = row y) ∧ (∀ y, y ≠ 32 * b + f → ¬ (32 * b + 16 ≤ y ∧ y < 32 * b + 32) → num' y = num y) := by
  obtain ⟨s, hP, e⟩ := cx_lp (fun n j (s : FI × FJ) => f_Model_counts_L18 200 (nI b) (lN v) (cx_pK M K x) (fun i12 c13 c14 => if ck ((32 * nI b) + nI f) 576 = true then if ck ((32 * nI b) + nI f) 576 = true then some (c13, (vp_updL c14 ((32 * nI b) + nI f).toNatClampNeg ((c14 ((32 * nI b) + nI f).toNatClampNeg) + lN v))) else none else none) n (nI j) s.1 s.2) (fun s => some (s.1, vp_updL s.2 (32 * b + f) (s.2 (32 * b + f) + lN v)))
    (fun j s => cx_SEM D N Q (fun c => S c + (if c < j ∧ cx_bt (cx_pK M K x) c = true then v else 0)) (cx_vr b s.1) (cx_vm b s.1) (cx_vn b s.2) ∧ (∀ y, ¬ (23 + 48 * b ≤ y ∧ y < 23 + 48 * b + 48) → s.1 y = row y) ∧ (∀ y, ¬ (32 * b + 16 ≤ y ∧ y < 32 * b + 32) → s.2 y = num y)) M
    (fun n s hP => by
      show f_Model_counts_L18 200 (nI b) (lN v) (cx_pK M K x) _ (n + 1) (nI M) s.1 s.2 = _
      rw [f_Model_counts_L18, if_pos (show ck 0 1002 = true from rfl), cx_n0, hP.2.1 0 (by omega), r0, if_pos (nI_le (Nat.le_refl _) (by omega))]
      simp (disch := omega) only [cx_m32, nI_add, cx_ck, if_true, nI_clamp])
    (fun n j s hj hP => by
      have e0 : s.1 0 = nI M := (hP.2.1 0 (by omega)).trans r0
      by_cases hbt : cx_bt (cx_pK M K x) j = true
      · obtain ⟨z, row', num', g1, g2, g3, g4⟩ := cx_grows (v := v) (c := j) hb hD hN hQ (by omega) hv ((hP.2.1 1 (by omega)).trans r1) ((hP.2.1 3 (by omega)).trans r3) ((hP.2.1 4 (by omega)).trans r4) hP.1
        refine ⟨(row', num'), ⟨cx_SEM_eq g2 (fun c _ => cx_S_step hbt c), fun y hy => (g3 y hy).trans (hP.2.1 y hy), fun y hy => (g4 y hy).trans (hP.2.2 y hy)⟩, ?_⟩
        show f_Model_counts_L18 200 (nI b) (lN v) (cx_pK M K x) _ (n + 1) (nI j) s.1 s.2 = _
        rw [f_Model_counts_L18, if_pos (show ck 0 1002 = true from rfl), cx_n0, e0, if_neg (nI_ge (by omega) (by omega)), cx_bif (by omega), if_pos hbt, g1, cx_ob, ite_self, nI_1]
      · refine ⟨s, ⟨cx_SEM_eq hP.1 (fun c _ => cx_S_skip hbt c), hP.2⟩, ?_⟩
        show f_Model_counts_L18 200 (nI b) (lN v) (cx_pK M K x) _ (n + 1) (nI j) s.1 s.2 = _
        rw [f_Model_counts_L18, if_pos (show ck 0 1002 = true from rfl), cx_n0, e0, if_neg (nI_ge (by omega) (by omega)), cx_bif (by omega), if_neg hbt, nI_1]) 200 0 (row, num) (by omega) (by omega) ⟨cx_SEM_eq h (fun c _ => by rw [if_neg (fun t => Nat.not_lt_zero c t.1)]; rfl), fun _ _ => rfl, fun _ _ => rfl⟩
  refine ⟨s.1, vp_updL s.2 (32 * b + f) (s.2 (32 * b + f) + lN v), ?_, cx_SEM_cg (cx_SEM_eq hP.1 (fun c hc => ?_)) (fun _ _ => ⟨rfl, rfl⟩) (fun u hu => pk_uLn (by omega)), ?_, hP.2.1, fun y hy hy2 => ?_⟩
  · unfold f_Model_counts
    simp (disch := omega) only [cx_p7, cx_ck, if_true, nI_clamp, hk]
    rw [cx_pmK r0 r2 hx hM hK, cx_ob]
    exact e
  · by_cases z : cx_bt (cx_pK M K x) c = true
    · rw [if_pos ⟨cx_pK_lt (by omega) hM.2 (by omega) z, z⟩, if_pos z]
    · rw [if_neg (fun t => z t.2), if_neg z]
  · rw [pk_uLs, hP.2.2 _ (by omega)]
  · rw [pk_uLn hy]; exact hP.2.2 y hy2
theorem cx_empties {b : Nat} (hb : b ≤ 2) (row : FI) (num : FJ) : ∃ (row' : FI) (num' : FJ), f_Model_empties 200 (nI b) row num = some (row', num') ∧ (∀ y, row' y = if 23 + 48 * b ≤ y ∧ y < 23 + 48 * b + 48 then 0 else row y) ∧ (∀ y, num' y = if 32 * b ≤ y ∧ y < 32 * b + 32 then 0 else num y) := by
  obtain ⟨row', h1, e1⟩ := cx_lp (fun n j s => f_Model_empties_L2 (nI b) (fun i7 c8 => f_Model_empties_L31 (nI b) (fun i15 c16 => some (c8, c16)) 200 0 num) n (nI j) s) (fun s => f_Model_empties_L31 (nI b) (fun i15 c16 => some (s, c16)) 200 0 num) (fun j s => ∀ y, s y = if 23 + 48 * b ≤ y ∧ y < 23 + 48 * b + j then 0 else row y) 48
    (fun n s _ => by
      show f_Model_empties_L2 (nI b) _ (n + 1) (nI 48) s = _
      rw [f_Model_empties_L2, if_pos (cx_L48 (by omega) (by omega))])
    (fun n j s hj hP => by
      refine ⟨upd s (23 + 48 * b + j) 0, fun y => ?_, ?_⟩
      · by_cases q : y = 23 + 48 * b + j
        · subst q; rw [pk_us, if_pos (by omega)]
        · rw [pk_un q, hP y]
          by_cases z : 23 + 48 * b ≤ y ∧ y < 23 + 48 * b + j
          · rw [if_pos z, if_pos (by omega)]
          · rw [if_neg z, if_neg (by omega)]
      · show f_Model_empties_L2 (nI b) _ (n + 1) (nI j) s = _
        rw [f_Model_empties_L2]
        simp (disch := omega) only [cx_le48, if_neg, cx_m48, cx_p23, nI_add, cx_ck, if_true, nI_clamp, nI_1]) 200 0 row (by omega) (by omega) (fun y => by rw [if_neg (by omega)])
  obtain ⟨num', h2, e2⟩ := cx_lp (fun n j s => f_Model_empties_L31 (nI b) (fun i15 c16 => some (row', c16)) n (nI j) s) (fun s => some (row', s)) (fun j s => ∀ y, s y = if 32 * b ≤ y ∧ y < 32 * b + j then 0 else num y) 32
    (fun n s _ => by
      show f_Model_empties_L31 (nI b) _ (n + 1) (nI 32) s = _
      rw [f_Model_empties_L31, if_pos (cx_L32 (by omega) (by omega))])
    (fun n j s hj hP => by
      refine ⟨vp_updL s (32 * b + j) 0, fun y => ?_, ?_⟩
      · by_cases q : y = 32 * b + j
        · subst q; rw [pk_uLs, if_pos (by omega)]
        · rw [pk_uLn q, hP y]
          by_cases z : 32 * b ≤ y ∧ y < 32 * b + j
          · rw [if_pos z, if_pos (by omega)]
          · rw [if_neg z, if_neg (by omega)]
      · show f_Model_empties_L31 (nI b) _ (n + 1) (nI j) s = _
        rw [f_Model_empties_L31]
        simp (disch := omega) only [cx_le32, if_neg, cx_m32, nI_add, cx_ck, if_true, nI_clamp, nI_1]) 200 0 num (by omega) (by omega) (fun y => by rw [if_neg (by omega)])
  exact ⟨row', num', e1.trans e2, h1, h2⟩
