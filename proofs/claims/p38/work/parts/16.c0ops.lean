theorem cx_lcl {a : Nat} (h : a < 2 ^ 63) : (lN a).toNatClampNeg = a := by
  show (lN a).toInt.toNat = a
  rw [pk_lT h]
  rfl
theorem cx_SEM_cg {D N Q : Nat} {S : Nat → Nat} {r m r' m' : FI} {n n' : FJ} (h : cx_SEM D N Q S r m n) (e : ∀ c, c < 24 → r' c = r c ∧ m' c = m c) (e2 : ∀ u, u < 16 → n' u = n u) : cx_SEM D N Q S r' m' n' :=
  ⟨fun c hc => ⟨(e c hc).1.trans (h.1 c hc).1, (e c hc).2.trans (h.1 c hc).2⟩, fun u hu => (e2 u hu).trans (h.2 u hu)⟩
theorem cx_SS_up {M K f a v x : Nat} {ks : FI} {T : FJ} (hf : f < 16) (hk : ks f = nI x) (hx : x ≤ 999) (ha : T f = lN a) (hv : a + v < 2 ^ 63) (c : Nat) : cx_SS M K ks (vp_updL T f (T f + lN v)) c = cx_SS M K ks T c + (if cx_bt (cx_pK M K x) c = true then v else 0) := by
  unfold cx_SS
  refine cx_sm_up (k := f) hf ?_ (fun i hi hne => by rw [pk_uLn hne])
  rw [pk_uLs, ha, lN_add, cx_lcl hv, cx_lcl (by omega), hk, nI_clamp (by omega)]
  by_cases z : cx_bt (cx_pK M K x) c = true
  · rw [if_pos z, if_pos z, if_pos z]
  · rw [if_neg z, if_neg z, if_neg z]
theorem cx_S_step {S : Nat → Nat} {m : Int32} {v j : Nat} (hb : cx_bt m j = true) : ∀ c, (if c = j then (S j + (if j < j ∧ cx_bt m j = true then v else 0)) + v else S c + (if c < j ∧ cx_bt m c = true then v else 0)) = S c + (if c < j + 1 ∧ cx_bt m c = true then v else 0) := by
  intro c
  by_cases q : c = j
  · subst q
    rw [if_pos rfl, if_neg (fun t => by omega), if_pos ⟨by omega, hb⟩]; omega
  · rw [if_neg q]
    by_cases z : c < j ∧ cx_bt m c = true
    · rw [if_pos z, if_pos ⟨by omega, z.2⟩]
    · rw [if_neg z, if_neg (fun t => z ⟨by omega, t.2⟩)]
theorem cx_S_skip {S : Nat → Nat} {m : Int32} {v j : Nat} (hb : ¬ cx_bt m j = true) : ∀ c, S c + (if c < j ∧ cx_bt m c = true then v else 0) = S c + (if c < j + 1 ∧ cx_bt m c = true then v else 0) := by
  intro c
  by_cases z : c < j ∧ cx_bt m c = true
  · rw [if_pos z, if_pos ⟨by omega, z.2⟩]
  · rw [if_neg z, if_neg (fun t => z ⟨by
      rcases Nat.lt_or_ge c j with w | w
      · exact w
      · exact absurd (by rw [show j = c by omega]; exact t.2) hb, t.2⟩)]
theorem cx_countF_f {M D K N Q F f x v : Nat} {ks : FI} {t : FJ} {r m : FI} {n : FJ} {S : Nat → Nat} (hM : 2 ≤ M ∧ M ≤ 24) (hD : D ≤ 8) (hK : K ≤ 4) (hN : 1 ≤ N ∧ N ≤ 16) (hQ : Q ≤ 3) (hF : F ≤ 16) (hf : f < F) (hk : ks f = nI x) (hx : x ≤ 999) (hv : v < 2 ^ 60) (h : cx_SEM D N Q S r m n) :
    ∃ (r' m' : FI) (n' : FJ), f_State_countFlow_f 200 (nI f) (lN v) (nI M) (nI D) (nI K) (nI N) (nI Q) (nI F) ks t r m n = some (vp_updL t f (t f + lN v), r', m', n') ∧ cx_SEM D N Q (fun c => S c + (if cx_bt (cx_pK M K x) c = true then v else 0)) r' m' n' := by
  obtain ⟨s, hP, e⟩ := cx_lp (fun n j (s : FI × FI × FJ) => f_State_countFlow_f_L43 200 (lN v) (cx_pK M K x) (nI D) (nI N) (nI Q) (fun i15 c16 c17 c18 => some (vp_updL t f (t f + lN v), c16, c17, c18)) n (nI j) s.1 s.2.1 s.2.2) (fun s => some (vp_updL t f (t f + lN v), s.1, s.2.1, s.2.2))
    (fun j s => cx_SEM D N Q (fun c => S c + (if c < j ∧ cx_bt (cx_pK M K x) c = true then v else 0)) s.1 s.2.1 s.2.2) 24
    (fun n s _ => by
      show f_State_countFlow_f_L43 200 (lN v) (cx_pK M K x) (nI D) (nI N) (nI Q) _ (n + 1) (nI 24) s.1 s.2.1 s.2.2 = _
      rw [f_State_countFlow_f_L43, if_pos (cx_L24 (by omega) (by omega))])
    (fun n j s hj hP => by
      by_cases hb : cx_bt (cx_pK M K x) j = true
      · obtain ⟨r', m', n', g1, g2⟩ := cx_raise (v := v) hD hN hQ hj hv hP
        refine ⟨(r', m', n'), cx_SEM_eq g2 (fun c _ => cx_S_step hb c), ?_⟩
        show f_State_countFlow_f_L43 200 (lN v) (cx_pK M K x) (nI D) (nI N) (nI Q) _ (n + 1) (nI j) s.1 s.2.1 s.2.2 = _
        rw [f_State_countFlow_f_L43, if_neg (cx_G24 (by omega)), cx_isIn (by omega), cx_ob, if_pos hb, if_neg (by decide), g1, cx_ob, nI_1]
      · refine ⟨s, cx_SEM_eq hP (fun c _ => cx_S_skip hb c), ?_⟩
        show f_State_countFlow_f_L43 200 (lN v) (cx_pK M K x) (nI D) (nI N) (nI Q) _ (n + 1) (nI j) s.1 s.2.1 s.2.2 = _
        rw [f_State_countFlow_f_L43, if_neg (cx_G24 (by omega)), cx_isIn (by omega), cx_ob, if_neg hb, if_pos rfl, nI_1]) 200 0 (r, m, n) (by omega) (by omega) (cx_SEM_eq h (fun c _ => by rw [if_neg (fun t => Nat.not_lt_zero c t.1)]; rfl))
  refine ⟨s.1, s.2.1, s.2.2, ?_, cx_SEM_eq hP (fun c hc => ?_)⟩
  · unfold f_State_countFlow_f
    have hF1 : nI F - 1 = nI (F - 1) := pk_sub (b := 1) (by omega)
    rw [p_from, hF1, if_pos ⟨nI_pos' (by omega), nI_le (by omega) (by omega)⟩, cx_ob, if_neg (by decide), if_pos (ck_nI (by omega) (by decide)), if_pos (ck_nI (by omega) (by decide)), if_pos (ck_nI (by omega) (by decide)), nI_clamp (by omega), hk, cx_plK hx hM hK, cx_ob]
    exact e
  · by_cases z : cx_bt (cx_pK M K x) c = true
    · rw [if_pos ⟨hc, z⟩, if_pos z]
    · rw [if_neg (fun t => z t.2), if_neg z]
theorem cx_countF_s {M D K N Q F f x v : Nat} {ks : FI} {t : FJ} {r m : FI} {n : FJ} {S : Nat → Nat} (hM : 2 ≤ M ∧ M ≤ 24) (hD : D ≤ 8) (hK : K ≤ 4) (hN : 1 ≤ N ∧ N ≤ 16) (hQ : Q ≤ 3) (hF : F ≤ 16) (hf : f < F) (hk : ks f = nI x) (hx : x ≤ 999) (hv : v < 2 ^ 60) (h : cx_SEM D N Q S r m n) :
    ∃ (r' m' : FI) (n' : FJ), f_State_countFlow_s 200 (nI f) (lN v) (nI M) (nI D) (nI K) (nI N) (nI Q) (nI F) ks t r m n = some (vp_updL t f (t f + lN v), r', m', n') ∧ cx_SEM D N Q (fun c => S c + (if cx_bt (cx_pK M K x) c = true then v else 0)) r' m' n' := by
  obtain ⟨s, hP, e⟩ := cx_lp (fun n j (s : FI × FI × FJ) => f_State_countFlow_s_L43 200 (lN v) (cx_pK M K x) (nI D) (nI N) (nI Q) (fun i15 c16 c17 c18 => some (vp_updL t f (t f + lN v), c16, c17, c18)) n (nI j) s.1 s.2.1 s.2.2) (fun s => some (vp_updL t f (t f + lN v), s.1, s.2.1, s.2.2))
    (fun j s => cx_SEM D N Q (fun c => S c + (if c < j ∧ cx_bt (cx_pK M K x) c = true then v else 0)) s.1 s.2.1 s.2.2) 24
    (fun n s _ => by
      show f_State_countFlow_s_L43 200 (lN v) (cx_pK M K x) (nI D) (nI N) (nI Q) _ (n + 1) (nI 24) s.1 s.2.1 s.2.2 = _
      rw [f_State_countFlow_s_L43, if_pos (cx_L24 (by omega) (by omega))])
    (fun n j s hj hP => by
      by_cases hb : cx_bt (cx_pK M K x) j = true
      · obtain ⟨r', m', n', g1, g2⟩ := cx_raise (v := v) hD hN hQ hj hv hP
        refine ⟨(r', m', n'), cx_SEM_eq g2 (fun c _ => cx_S_step hb c), ?_⟩
        show f_State_countFlow_s_L43 200 (lN v) (cx_pK M K x) (nI D) (nI N) (nI Q) _ (n + 1) (nI j) s.1 s.2.1 s.2.2 = _
        rw [f_State_countFlow_s_L43, if_neg (cx_G24 (by omega)), cx_isIn (by omega), cx_ob, if_pos hb, if_neg (by decide), g1, cx_ob, nI_1]
      · refine ⟨s, cx_SEM_eq hP (fun c _ => cx_S_skip hb c), ?_⟩
        show f_State_countFlow_s_L43 200 (lN v) (cx_pK M K x) (nI D) (nI N) (nI Q) _ (n + 1) (nI j) s.1 s.2.1 s.2.2 = _
        rw [f_State_countFlow_s_L43, if_neg (cx_G24 (by omega)), cx_isIn (by omega), cx_ob, if_neg hb, if_pos rfl, nI_1]) 200 0 (r, m, n) (by omega) (by omega) (cx_SEM_eq h (fun c _ => by rw [if_neg (fun t => Nat.not_lt_zero c t.1)]; rfl))
  refine ⟨s.1, s.2.1, s.2.2, ?_, cx_SEM_eq hP (fun c hc => ?_)⟩
  · unfold f_State_countFlow_s
    have hF1 : nI F - 1 = nI (F - 1) := pk_sub (b := 1) (by omega)
    rw [p_from, hF1, if_pos ⟨nI_pos' (by omega), nI_le (by omega) (by omega)⟩, cx_ob, if_neg (by decide), if_pos (ck_nI (by omega) (by decide)), if_pos (ck_nI (by omega) (by decide)), if_pos (ck_nI (by omega) (by decide)), nI_clamp (by omega), hk, cx_plK hx hM hK, cx_ob]
    exact e
  · by_cases z : cx_bt (cx_pK M K x) c = true
    · rw [if_pos ⟨hc, z⟩, if_pos z]
    · rw [if_neg (fun t => z t.2), if_neg z]
