theorem cx_lpK {κ σ R : Type} (L : κ → Nat → Nat → σ → Option R) (Kf : κ → σ → Option R) (P : Nat → σ → Prop) (m : Nat) (hend : ∀ K n s, P m s → L K (n + 1) m s = Kf K s) (hstep : ∀ n j s, j < m → P j s → ∃ s', P (j + 1) s' ∧ ∀ K, L K (n + 1) j s = L K n (j + 1) s') : ∀ (n j : Nat) (s : σ), j ≤ m → m < j + n → P j s → ∃ s', P m s' ∧ ∀ K, L K n j s = Kf K s' := by
  intro n
  induction n with
  | zero => intro j s h1 h2; omega
  | succ n ih =>
    intro j s h1 h2 hP
    by_cases q : j = m
    · subst q
      exact ⟨s, hP, fun K => hend K n s hP⟩
    · obtain ⟨s', hP', e⟩ := hstep n j s (by omega) hP
      obtain ⟨s2, h3, h4⟩ := ih (j + 1) s' (by omega) (by omega) hP'
      exact ⟨s2, h3, fun K => (e K).trans (h4 K)⟩
def cx_tr (T : FJ) (j : Nat) : FJ := fun f => if f < j then T f else 0
theorem cx_SS_tr {M K j x a : Nat} {ks : FI} {T : FJ} (hj : j < 16) (hk : ks j = nI x) (hx : x ≤ 999) (ha : T j = lN a) (h63 : a < 2 ^ 63) (c : Nat) : cx_SS M K ks (cx_tr T (j + 1)) c = cx_SS M K ks (cx_tr T j) c + (if cx_bt (cx_pK M K x) c = true then a else 0) := by
  unfold cx_SS
  refine cx_sm_up (k := j) hj ?_ (fun i hi hne => ?_)
  · have e1 : cx_tr T (j + 1) j = lN a := (if_pos (by omega)).trans ha
    have e2 : cx_tr T j j = 0 := if_neg (Nat.lt_irrefl j)
    rw [e1, e2, hk, nI_clamp (by omega), cx_lcl h63]
    by_cases z : cx_bt (cx_pK M K x) c = true
    · rw [if_pos z, if_pos z]; exact (Nat.zero_add a).symm
    · rw [if_neg z, if_neg z]
  · have e : cx_tr T (j + 1) i = cx_tr T j i := by
      unfold cx_tr
      by_cases z : i < j
      · rw [if_pos z, if_pos (by omega)]
      · rw [if_neg z, if_neg (by omega)]
    rw [e]
theorem cx_SS_trF {M K F : Nat} {ks : FI} {T : FJ} (hT0 : ∀ f, f < 16 → F ≤ f → T f = 0) (c : Nat) : cx_SS M K ks (cx_tr T F) c = cx_SS M K ks T c := cx_sm_eq fun f hf => by
  have e : cx_tr T F f = T f := by
    unfold cx_tr
    by_cases z : f < F
    · rw [if_pos z]
    · rw [if_neg z, hT0 f hf (by omega)]
  rw [e]
theorem cx_SS_tr0 {M K : Nat} {ks : FI} {T : FJ} {D N Q : Nat} : cx_SEM D N Q (cx_SS M K ks (cx_tr T 0)) (fun _ => 0) (fun _ => 0) (fun _ => 0) := by
  refine cx_SEM_eq (sem0 (M := M) (K := K) (ks := ks)) fun c _ => cx_sm_eq fun f _ => ?_
  have e : cx_tr T 0 f = 0 := if_neg (Nat.not_lt_zero f)
  rw [e]
theorem cx_trL_f {M D K N Q F : Nat} {ks : FI} {T : FJ} (hM : 2 ≤ M ∧ M ≤ 24) (hD : 1 ≤ D ∧ D ≤ 8) (hK : 1 ≤ K ∧ K ≤ 4) (hN : 1 ≤ N ∧ N ≤ 16) (hQ : 1 ≤ Q ∧ Q ≤ 3) (hF : F ≤ 16) (hks : ∀ f, f < F → ∃ x, x ≤ 999 ∧ ks f = nI x) (hT : ∀ f, f < 16 → ∃ a, a ≤ 1000000000 ∧ T f = lN a) (hT0 : ∀ f, f < 16 → F ≤ f → T f = 0) :
    ∃ s : FJ × FI × FI × FJ, cx_SEM D N Q (cx_SS M K ks T) s.2.1 s.2.2.1 s.2.2.2 ∧ ∀ (K47 : Int32 → FJ → FI → FI → FJ → Option (Int32 × FJ × FJ × FJ × FJ × FJ × FJ × (Nat → FI) × FI × Int32 × FJ × FJ × FJ × FJ × FJ × FJ × (Nat → FI) × FI × Int32 × FJ × FI × FI × FJ × FJ × FI × FI × FJ)), f_CB_isTrialCertain_f_L15 200 T (nI M) (nI D) (nI K) (nI N) (nI Q) (nI F) ks K47 200 0 (fun _ => 0) (fun _ => 0) (fun _ => 0) (fun _ => 0) = K47 (nI F) s.1 s.2.1 s.2.2.1 s.2.2.2 := by
  obtain ⟨s, hP, e⟩ := cx_lpK (fun (K47 : Int32 → FJ → FI → FI → FJ → Option (Int32 × FJ × FJ × FJ × FJ × FJ × FJ × (Nat → FI) × FI × Int32 × FJ × FJ × FJ × FJ × FJ × FJ × (Nat → FI) × FI × Int32 × FJ × FI × FI × FJ × FJ × FI × FI × FJ)) n j (s : FJ × FI × FI × FJ) => f_CB_isTrialCertain_f_L15 200 T (nI M) (nI D) (nI K) (nI N) (nI Q) (nI F) ks K47 n (nI j) s.1 s.2.1 s.2.2.1 s.2.2.2) (fun K47 s => K47 (nI F) s.1 s.2.1 s.2.2.1 s.2.2.2)
    (fun j s => cx_SEM D N Q (cx_SS M K ks (cx_tr T j)) s.2.1 s.2.2.1 s.2.2.2) F
    (fun K47 n s _ => by
      show f_CB_isTrialCertain_f_L15 200 T (nI M) (nI D) (nI K) (nI N) (nI Q) (nI F) ks K47 (n + 1) (nI F) _ _ _ _ = _
      rw [f_CB_isTrialCertain_f_L15, if_pos (nI_le (Nat.le_refl _) (by omega))])
    (fun n j s hj hP => by
      obtain ⟨x, hx, ex⟩ := hks j hj
      obtain ⟨a, ha, ea⟩ := hT j (by omega)
      obtain ⟨r', m', n', g1, g2⟩ := cx_countF_f (t := s.1) (F := F) (v := a) hM hD.2 hK.2 hN hQ.2 hF hj ex hx (by omega) hP
      refine ⟨(vp_updL s.1 j (s.1 j + lN a), r', m', n'), cx_SEM_eq g2 (fun c _ => (cx_SS_tr (by omega) ex hx ea (by omega) c).symm), fun K47 => ?_⟩
      show f_CB_isTrialCertain_f_L15 200 T (nI M) (nI D) (nI K) (nI N) (nI Q) (nI F) ks K47 (n + 1) (nI j) _ _ _ _ = _
      rw [f_CB_isTrialCertain_f_L15, if_neg (nI_ge hj (by omega)), if_pos (ck_nI (by omega) (by decide)), nI_clamp (by omega), ea, g1, cx_ob, nI_1]) 200 0 (fun _ => 0, fun _ => 0, fun _ => 0, fun _ => 0) (by omega) (by omega) cx_SS_tr0
  exact ⟨s, cx_SEM_eq hP (fun c _ => cx_SS_trF hT0 c), e⟩
theorem cx_trial_f {M D K N Q R F : Nat} {ks : FI} {T : FJ} {a1 a2 a3 a4 a5 a6 : FJ} {a7 : Nat → FI} {a8 : FI} {a9 : Int32} {b1 b2 b3 b4 b5 b6 : FJ} {b7 : Nat → FI} {b8 : FI} {b9 : Int32} {w1 : FJ} {w2 w3 : FI} {w4 w5 : FJ} {w6 w7 : FI} {w8 : FJ} (hM : 2 ≤ M ∧ M ≤ 24) (hD : 1 ≤ D ∧ D ≤ 8) (hK : 1 ≤ K ∧ K ≤ 4) (hN : 1 ≤ N ∧ N ≤ 16) (hQ : 1 ≤ Q ∧ Q ≤ 3) (hF : F ≤ 16) (hR : R ≤ 60) (hks : ∀ f, f < F → ∃ x, x ≤ 999 ∧ ks f = nI x) (hT : ∀ f, f < 16 → ∃ a, a ≤ 1000000000 ∧ T f = lN a) (hT0 : ∀ f, f < 16 → F ≤ f → T f = 0) :
    ∃ out : Int32 × FJ × FJ × FJ × FJ × FJ × FJ × (Nat → FI) × FI × Int32 × FJ × FJ × FJ × FJ × FJ × FJ × (Nat → FI) × FI × Int32 × FJ × FI × FI × FJ × FJ × FI × FI × FJ, f_CB_isTrialCertain_f 200 T a1 a2 a3 a4 a5 a6 a7 a8 a9 b1 b2 b3 b4 b5 b6 b7 b8 b9 (nI M) (nI D) (nI K) (nI N) (nI Q) (nI R) (nI F) ks w1 w2 w3 w4 w5 w6 w7 w8 = some out ∧ out.1 = if (cx_wd (cx_FL M D K N Q R F ks (cx_SS M K ks T) R).1 (cx_FL M D K N Q R F ks (cx_SS M K ks T) R).2 F).1 = -1 then 1 else 0 := by
  obtain ⟨s, h, e⟩ := cx_trL_f (ks := ks) (T := T) hM hD hK hN hQ hF hks hT hT0
  obtain ⟨od, e0, g1, g2, g3⟩ := cx_dec_f (k := R) (a1 := a1) (a2 := a2) (a3 := a3) (a4 := a4) (a5 := a5) (a6 := a6) (a7 := a7) (a8 := a8) (a9 := a9) (b1 := b1) (b2 := b2) (b3 := b3) (b4 := b4) (b5 := b5) (b6 := b6) (b7 := b7) (b8 := b8) (b9 := b9) hM hD.2 hK.2 hN hQ.2 hR hF hR hks h
  have hw := congrArg Prod.fst (cx_wd_eq (lo := od.2.2.2.2.2.2.2.2.2.2.2.2.2.2.1) (hi := od.2.2.2.2.2.2.2.2.2.2.2.2.2.2.2.1) g3)
  unfold f_CB_isTrialCertain_f
  simp only [if_pos (rfl : (0 : Int32) = 0), e, e0, cx_ob, g2, cx_wT (show F ≤ 24 by omega), hw]
  by_cases z : (cx_wd (cx_FL M D K N Q R F ks (cx_SS M K ks T) R).1 (cx_FL M D K N Q R F ks (cx_SS M K ks T) R).2 F).1 = -1
  · simp only [if_pos z]
    exact ⟨_, rfl, rfl⟩
  · simp only [if_neg z]
    exact ⟨_, rfl, rfl⟩
theorem cx_trL_s {M D K N Q F : Nat} {ks : FI} {T : FJ} (hM : 2 ≤ M ∧ M ≤ 24) (hD : 1 ≤ D ∧ D ≤ 8) (hK : 1 ≤ K ∧ K ≤ 4) (hN : 1 ≤ N ∧ N ≤ 16) (hQ : 1 ≤ Q ∧ Q ≤ 3) (hF : F ≤ 16) (hks : ∀ f, f < F → ∃ x, x ≤ 999 ∧ ks f = nI x) (hT : ∀ f, f < 16 → ∃ a, a ≤ 1000000000 ∧ T f = lN a) (hT0 : ∀ f, f < 16 → F ≤ f → T f = 0) :
    ∃ s : FJ × FI × FI × FJ, cx_SEM D N Q (cx_SS M K ks T) s.2.1 s.2.2.1 s.2.2.2 ∧ ∀ (K47 : Int32 → FJ → FI → FI → FJ → Option (Int32 × FJ × FJ × FJ × FJ × FJ × FJ × (Nat → FI) × FI × Int32 × FJ × FJ × FJ × FJ × FJ × FJ × (Nat → FI) × FI × Int32 × FJ × FI × FI × FJ × FJ × FI × FI × FJ)), f_CB_isTrialCertain_s_L15 200 T (nI M) (nI D) (nI K) (nI N) (nI Q) (nI F) ks K47 200 0 (fun _ => 0) (fun _ => 0) (fun _ => 0) (fun _ => 0) = K47 (nI F) s.1 s.2.1 s.2.2.1 s.2.2.2 := by
  obtain ⟨s, hP, e⟩ := cx_lpK (fun (K47 : Int32 → FJ → FI → FI → FJ → Option (Int32 × FJ × FJ × FJ × FJ × FJ × FJ × (Nat → FI) × FI × Int32 × FJ × FJ × FJ × FJ × FJ × FJ × (Nat → FI) × FI × Int32 × FJ × FI × FI × FJ × FJ × FI × FI × FJ)) n j (s : FJ × FI × FI × FJ) => f_CB_isTrialCertain_s_L15 200 T (nI M) (nI D) (nI K) (nI N) (nI Q) (nI F) ks K47 n (nI j) s.1 s.2.1 s.2.2.1 s.2.2.2) (fun K47 s => K47 (nI F) s.1 s.2.1 s.2.2.1 s.2.2.2)
    (fun j s => cx_SEM D N Q (cx_SS M K ks (cx_tr T j)) s.2.1 s.2.2.1 s.2.2.2) F
    (fun K47 n s _ => by
      show f_CB_isTrialCertain_s_L15 200 T (nI M) (nI D) (nI K) (nI N) (nI Q) (nI F) ks K47 (n + 1) (nI F) _ _ _ _ = _
      rw [f_CB_isTrialCertain_s_L15, if_pos (nI_le (Nat.le_refl _) (by omega))])
    (fun n j s hj hP => by
      obtain ⟨x, hx, ex⟩ := hks j hj
      obtain ⟨a, ha, ea⟩ := hT j (by omega)
      obtain ⟨r', m', n', g1, g2⟩ := cx_countF_f (t := s.1) (F := F) (v := a) hM hD.2 hK.2 hN hQ.2 hF hj ex hx (by omega) hP
      refine ⟨(vp_updL s.1 j (s.1 j + lN a), r', m', n'), cx_SEM_eq g2 (fun c _ => (cx_SS_tr (by omega) ex hx ea (by omega) c).symm), fun K47 => ?_⟩
      show f_CB_isTrialCertain_s_L15 200 T (nI M) (nI D) (nI K) (nI N) (nI Q) (nI F) ks K47 (n + 1) (nI j) _ _ _ _ = _
      rw [f_CB_isTrialCertain_s_L15, if_neg (nI_ge hj (by omega)), if_pos (ck_nI (by omega) (by decide)), nI_clamp (by omega), ea, g1, cx_ob, nI_1]) 200 0 (fun _ => 0, fun _ => 0, fun _ => 0, fun _ => 0) (by omega) (by omega) cx_SS_tr0
  exact ⟨s, cx_SEM_eq hP (fun c _ => cx_SS_trF hT0 c), e⟩
theorem cx_trial_s {M D K N Q R F : Nat} {ks : FI} {T : FJ} {a1 a2 a3 a4 a5 a6 : FJ} {a7 : Nat → FI} {a8 : FI} {a9 : Int32} {b1 b2 b3 b4 b5 b6 : FJ} {b7 : Nat → FI} {b8 : FI} {b9 : Int32} {w1 : FJ} {w2 w3 : FI} {w4 w5 : FJ} {w6 w7 : FI} {w8 : FJ} (hM : 2 ≤ M ∧ M ≤ 24) (hD : 1 ≤ D ∧ D ≤ 8) (hK : 1 ≤ K ∧ K ≤ 4) (hN : 1 ≤ N ∧ N ≤ 16) (hQ : 1 ≤ Q ∧ Q ≤ 3) (hF : F ≤ 16) (hR : R ≤ 60) (hks : ∀ f, f < F → ∃ x, x ≤ 999 ∧ ks f = nI x) (hT : ∀ f, f < 16 → ∃ a, a ≤ 1000000000 ∧ T f = lN a) (hT0 : ∀ f, f < 16 → F ≤ f → T f = 0) :
    ∃ out : Int32 × FJ × FJ × FJ × FJ × FJ × FJ × (Nat → FI) × FI × Int32 × FJ × FJ × FJ × FJ × FJ × FJ × (Nat → FI) × FI × Int32 × FJ × FI × FI × FJ × FJ × FI × FI × FJ, f_CB_isTrialCertain_s 200 T a1 a2 a3 a4 a5 a6 a7 a8 a9 b1 b2 b3 b4 b5 b6 b7 b8 b9 (nI M) (nI D) (nI K) (nI N) (nI Q) (nI R) (nI F) ks w1 w2 w3 w4 w5 w6 w7 w8 = some out ∧ out.1 = if (cx_wd (cx_FL M D K N Q R F ks (cx_SS M K ks T) R).1 (cx_FL M D K N Q R F ks (cx_SS M K ks T) R).2 F).1 = -1 then 1 else 0 := by
  obtain ⟨s, h, e⟩ := cx_trL_s (ks := ks) (T := T) hM hD hK hN hQ hF hks hT hT0
  obtain ⟨od, e0, g1, g2, g3⟩ := cx_dec_f (k := R) (a1 := a1) (a2 := a2) (a3 := a3) (a4 := a4) (a5 := a5) (a6 := a6) (a7 := a7) (a8 := a8) (a9 := a9) (b1 := b1) (b2 := b2) (b3 := b3) (b4 := b4) (b5 := b5) (b6 := b6) (b7 := b7) (b8 := b8) (b9 := b9) hM hD.2 hK.2 hN hQ.2 hR hF hR hks h
  have hw := congrArg Prod.fst (cx_wd_eq (lo := od.2.2.2.2.2.2.2.2.2.2.2.2.2.2.1) (hi := od.2.2.2.2.2.2.2.2.2.2.2.2.2.2.2.1) g3)
  unfold f_CB_isTrialCertain_s
  simp only [if_pos (rfl : (0 : Int32) = 0), e, e0, cx_ob, g2, cx_wT (show F ≤ 24 by omega), hw]
  by_cases z : (cx_wd (cx_FL M D K N Q R F ks (cx_SS M K ks T) R).1 (cx_FL M D K N Q R F ks (cx_SS M K ks T) R).2 F).1 = -1
  · simp only [if_pos z]
    exact ⟨_, rfl, rfl⟩
  · simp only [if_neg z]
    exact ⟨_, rfl, rfl⟩
theorem cx_cmb {lo hi : FJ} {n i : Nat} (hn : n ≤ 24) (hi2 : i < 32) : cx_bt (cx_cm lo hi n) i = true ↔ i < n ∧ lo i = hi i := by
  induction n with
  | zero =>
    rw [cx_cm, cx_b0]
    exact ⟨fun h => absurd h (by decide), fun h => absurd h.1 (Nat.not_lt_zero i)⟩
  | succ n ih =>
    have ih := ih (by omega)
    rw [cx_cm]
    by_cases z : lo n = hi n
    · rw [if_pos z, cx_or, Bool.or_eq_true, ih, cx_sh1 (by omega) hi2, decide_eq_true_eq]
      constructor
      · rintro (⟨h1, h2⟩ | h)
        · exact ⟨by omega, h2⟩
        · subst h; exact ⟨by omega, z⟩
      · rintro ⟨h1, h2⟩
        by_cases q : i = n
        · exact Or.inr q.symm
        · exact Or.inl ⟨by omega, h2⟩
    · rw [if_neg z, ih]
      constructor
      · rintro ⟨h1, h2⟩; exact ⟨by omega, h2⟩
      · rintro ⟨h1, h2⟩
        refine ⟨?_, h2⟩
        by_cases q : i = n
        · subst q; exact absurd h2 z
        · omega
theorem cx_full : ∀ F, F < 17 → cx_mk (fun i => i) F = (1 <<< (nI F &&& 31)) - 1 := by decide +kernel
theorem cx_cm_full {lo hi : FJ} {F : Nat} (hF : F ≤ 16) : cx_cm lo hi F = (1 <<< (nI F &&& 31)) - 1 ↔ ∀ t, t < F → lo t = hi t := by
  rw [← cx_full F (by omega)]
  constructor
  · intro h t ht
    have h1 : cx_bt (cx_mk (fun i => i) F) t = true := (cx_mkb (fun i hi => by omega) (by omega)).mpr ⟨t, ht, rfl⟩
    rw [← h] at h1
    exact ((cx_cmb (by omega) (by omega)).mp h1).2
  · intro h
    refine cx_ext fun i hi32 => ?_
    by_cases q : i < F
    · rw [(cx_cmb (by omega) hi32).mpr ⟨q, h i q⟩]
      exact ((cx_mkb (fun i hi => by omega) hi32).mpr ⟨i, q, rfl⟩).symm
    · have z1 : ¬ cx_bt (cx_cm lo hi F) i = true := fun w => q ((cx_cmb (by omega) hi32).mp w).1
      have z2 : ¬ cx_bt (cx_mk (fun i => i) F) i = true := fun w => by
        obtain ⟨k, k1, k2⟩ := (cx_mkb (fun i hi => by omega) hi32).mp w
        have k2 : k = i := k2
        omega
      cases h1 : cx_bt (cx_cm lo hi F) i with
      | true => exact absurd h1 z1
      | false =>
        cases h2 : cx_bt (cx_mk (fun i => i) F) i with
        | true => exact absurd h2 z2
        | false => rfl
/-- the model counts into its third braid -/
theorem cx_m50 {M D K N Q F b : Nat} {ks : FI} {T : FJ} {row : FI} {num : FJ} (hb : b ≤ 1) (hM : 2 ≤ M ∧ M ≤ 24) (hD : 1 ≤ D ∧ D ≤ 8) (hK : 1 ≤ K ∧ K ≤ 4) (hN : 1 ≤ N ∧ N ≤ 16) (hQ : 1 ≤ Q ∧ Q ≤ 3) (hF : F ≤ 16) (r0 : row 0 = nI M) (r1 : row 1 = nI D) (r2 : row 2 = nI K) (r3 : row 3 = nI N) (r4 : row 4 = nI Q) (r6 : row 6 = nI F) (hks : ∀ f, f < F → ∃ x, x ≤ 999 ∧ ks f = nI x ∧ row (7 + f) = nI x) (hT : ∀ f, f < 16 → ∃ a, a ≤ 1000000000 ∧ T f = lN a) (hT0 : ∀ f, f < 16 → F ≤ f → T f = 0) (hv : ∀ f, f < 16 → cx_vt b num f = T f) (hz : cx_SEM D N Q (cx_SS M K ks (cx_tr T 0)) (cx_vr 2 row) (cx_vm 2 row) (cx_vn 2 num)) :
    ∃ s : FI × FJ, (cx_SEM D N Q (cx_SS M K ks T) (cx_vr 2 s.1) (cx_vm 2 s.1) (cx_vn 2 s.2) ∧ (∀ y, ¬ (119 ≤ y ∧ y < 167) → s.1 y = row y) ∧ (∀ y, ¬ (64 ≤ y ∧ y < 96) → s.2 y = num y)) ∧ ∀ (K94 : Int32 → FI → FJ → Option (Int32 × FI × FJ × FI × FJ × FJ × FJ × FJ × FJ × FJ × Int32 × Int32 × FJ × FJ)), f_Model_leastSpace_L50 200 (nI b) K94 200 0 row num = K94 (nI F) s.1 s.2 := by
  obtain ⟨s, hP, e⟩ := cx_lpK (fun (K94 : Int32 → FI → FJ → Option (Int32 × FI × FJ × FI × FJ × FJ × FJ × FJ × FJ × FJ × Int32 × Int32 × FJ × FJ)) n j (s : FI × FJ) => f_Model_leastSpace_L50 200 (nI b) K94 n (nI j) s.1 s.2) (fun K94 s => K94 (nI F) s.1 s.2)
    (fun j s => cx_SEM D N Q (cx_SS M K ks (cx_tr T j)) (cx_vr 2 s.1) (cx_vm 2 s.1) (cx_vn 2 s.2) ∧ (∀ y, ¬ (119 ≤ y ∧ y < 167) → s.1 y = row y) ∧ (∀ y, ¬ (64 ≤ y ∧ y < 96) → s.2 y = num y)) F
    (fun K94 n s hP => by
      show f_Model_leastSpace_L50 200 (nI b) K94 (n + 1) (nI F) s.1 s.2 = _
      rw [f_Model_leastSpace_L50, if_pos (show ck 6 1002 = true from rfl), cx_n6, hP.2.1 6 (by omega), r6, if_pos (nI_le (Nat.le_refl _) (by omega))])
    (fun n j s hj hP => by
      obtain ⟨x, hx, ex, er⟩ := hks j hj
      obtain ⟨a, ha, ea⟩ := hT j (by omega)
      have et : f_Model_truthAt (nI b) (nI j) s.2 = some (lN a) := by
        rw [cx_truthAt (by omega) (by omega)]
        refine congrArg some ?_
        show s.2 (32 * b + j) = _
        rw [hP.2.2 _ (by omega), ← ea]
        exact hv j (by omega)
      have f := fun y hy => hP.2.1 y hy
      by_cases za : a = 0
      · subst za
        refine ⟨s, ⟨cx_SEM_eq hP.1 (fun c _ => ?_), hP.2⟩, fun K94 => ?_⟩
        · rw [cx_SS_tr (by omega) ex hx ea (by omega) c, ite_self, Nat.add_zero]
        · show f_Model_leastSpace_L50 200 (nI b) K94 (n + 1) (nI j) s.1 s.2 = _
          rw [f_Model_leastSpace_L50, if_pos (show ck 6 1002 = true from rfl), cx_n6, f 6 (by omega), r6, if_neg (nI_ge hj (by omega)), et, cx_ob, if_pos (show lN 0 ≤ 0 by decide), nI_1]
      · obtain ⟨row', num', g1, g2, _, g4, g5⟩ := cx_counts (b := 2) (f := j) (v := a) (by omega) hM hD hK.2 hN hQ.2 (by omega) ((f 0 (by omega)).trans r0) ((f 1 (by omega)).trans r1) ((f 2 (by omega)).trans r2) ((f 3 (by omega)).trans r3) ((f 4 (by omega)).trans r4) ((f _ (by omega)).trans er) hx (by omega) hP.1
        have g1 : f_Model_counts 200 2 (nI j) (lN a) s.1 s.2 = some (row', num') := g1
        refine ⟨(row', num'), ⟨cx_SEM_eq g2 (fun c _ => (cx_SS_tr (by omega) ex hx ea (by omega) c).symm), fun y hy => (g4 y (by omega)).trans (hP.2.1 y hy), fun y hy => (g5 y (by omega) (by omega)).trans (hP.2.2 y hy)⟩, fun K94 => ?_⟩
        show f_Model_leastSpace_L50 200 (nI b) K94 (n + 1) (nI j) s.1 s.2 = _
        have hne : ¬ lN a ≤ 0 := by
          rw [cx_lN0 (by omega)]; exact za
        rw [f_Model_leastSpace_L50, if_pos (show ck 6 1002 = true from rfl), cx_n6, f 6 (by omega), r6, if_neg (nI_ge hj (by omega)), et, cx_ob, if_neg hne, cx_ob, g1, cx_ob, nI_1]) 200 0 (row, num) (by omega) (by omega) ⟨hz, fun _ _ => rfl, fun _ _ => rfl⟩
  exact ⟨s, ⟨cx_SEM_eq hP.1 (fun c _ => cx_SS_trF hT0 c), hP.2⟩, e⟩
theorem cx_ls_f {D K N Q R F : Nat} {ks : FI} {t1 t2 : FJ} {row : FI} {num : FJ} (hD : 1 ≤ D ∧ D ≤ 8) (hK : 1 ≤ K ∧ K ≤ 4) (hN : 1 ≤ N ∧ N ≤ 16) (hQ : 1 ≤ Q ∧ Q ≤ 3) (hF : F ≤ 16) (hR : R ≤ 60) (r1 : row 1 = nI D) (r2 : row 2 = nI K) (r3 : row 3 = nI N) (r4 : row 4 = nI Q) (r5 : row 5 = nI R) (r6 : row 6 = nI F) (hks : ∀ f, f < F → ∃ x, x ≤ 999 ∧ ks f = nI x ∧ row (7 + f) = nI x) (hT : ∀ f, f < 16 → ∃ a, a ≤ 1000000000 ∧ t1 f = lN a) (hT0 : ∀ f, f < 16 → F ≤ f → t1 f = 0) (hv : ∀ f, f < 16 → cx_vt 0 num f = t1 f)
    (KC : Int32 → FJ → FJ → FJ → FJ → FJ → FJ → (Nat → FI) → FI → Int32 → FJ → FJ → FJ → FJ → FJ → FJ → (Nat → FI) → FI → Int32 → Int32 → FJ → FI → FI → FJ → FJ → FI → FI → FJ → Option (Int32 × FJ × FJ × FJ × FJ × FJ × FJ × (Nat → FI) × FI × Int32 × FJ × FJ × FJ × FJ × FJ × FJ × (Nat → FI) × FI × Int32 × Int32 × Int32 × Int32 × Int32 × Int32 × Int32 × Int32 × FI × FJ × FI × FI × FJ × FJ × FI × FI × FJ)) (hKC : ∀ (i : Int32) (c6 : FJ) (c7 : FJ) (c8 : FJ) (c9 : FJ) (c10 : FJ) (c11 : FJ) (c12 : Nat → FI) (c13 : FI) (c14 : Int32) (c15 : FJ) (c16 : FJ) (c17 : FJ) (c18 : FJ) (c19 : FJ) (c20 : FJ) (c21 : Nat → FI) (c22 : FI) (c23 : Int32) (c24 : Int32) (c32 : FJ) (c33 : FI) (c34 : FI) (c35 : FJ) (c36 : FJ) (c37 : FI) (c38 : FI) (c39 : FJ), ∃ o, KC i c6 c7 c8 c9 c10 c11 c12 c13 c14 c15 c16 c17 c18 c19 c20 c21 c22 c23 c24 c32 c33 c34 c35 c36 c37 c38 c39 = some o ∧ o.1 = -1) (KM : Int32 → Int32 → FI → FJ → FI → FJ → FJ → FJ → FJ → FJ → FJ → Int32 → Int32 → FJ → FJ → Option (Int32 × FI × FJ × FI × FJ × FJ × FJ × FJ × FJ × FJ × Int32 × Int32 × FJ × FJ)) (hKM : ∀ (z i : Int32) (row' : FI) (num' : FJ) (p16 : FI) (p17 p18 p19 p20 p21 p22 : FJ) (p23 p24 : Int32) (p25 p26 : FJ), (∀ y, y ≠ 0 → ¬ (119 ≤ y ∧ y < 167) → row' y = row y) → (∀ y, ¬ (64 ≤ y ∧ y < 96) → num' y = num y) → ∃ o : Int32 × FI × FJ × FI × FJ × FJ × FJ × FJ × FJ × FJ × Int32 × Int32 × FJ × FJ, KM z i row' num' p16 p17 p18 p19 p20 p21 p22 p23 p24 p25 p26 = some o ∧ o.1 = z ∧ (∀ y, ¬ (119 ≤ y ∧ y < 167) → o.2.1 y = row y) ∧ (∀ y, ¬ (64 ≤ y ∧ y < 96) → o.2.2.1 y = num y)) :
    ∀ (d m nC nM : Nat) (c6 : FJ) (c7 : FJ) (c8 : FJ) (c9 : FJ) (c10 : FJ) (c11 : FJ) (c12 : Nat → FI) (c13 : FI) (c14 : Int32) (c15 : FJ) (c16 : FJ) (c17 : FJ) (c18 : FJ) (c19 : FJ) (c20 : FJ) (c21 : Nat → FI) (c22 : FI) (c23 : Int32) (c24 : Int32) (c32 : FJ) (c33 : FI) (c34 : FI) (c35 : FJ) (c36 : FJ) (c37 : FI) (c38 : FI) (c39 : FJ) (row' : FI) (num' : FJ) (p16 : FI) (p17 p18 p19 p20 p21 p22 : FJ) (p23 p24 : Int32) (p25 p26 : FJ), m + d = 25 → 2 ≤ m → d < nC → d < nM → (∀ y, y ≠ 0 → ¬ (119 ≤ y ∧ y < 167) → row' y = row y) → (∀ y, ¬ (64 ≤ y ∧ y < 96) → num' y = num y) →
      ∃ (o1 : Int32 × FJ × FJ × FJ × FJ × FJ × FJ × (Nat → FI) × FI × Int32 × FJ × FJ × FJ × FJ × FJ × FJ × (Nat → FI) × FI × Int32 × Int32 × Int32 × Int32 × Int32 × Int32 × Int32 × Int32 × FI × FJ × FI × FI × FJ × FJ × FI × FI × FJ) (o2 : Int32 × FI × FJ × FI × FJ × FJ × FJ × FJ × FJ × FJ × Int32 × Int32 × FJ × FJ), f_CB_leastSpace_L23 200 0 (nI D) (nI K) (nI N) (nI Q) (nI R) (nI F) ks t1 t2 KC nC (nI m) c6 c7 c8 c9 c10 c11 c12 c13 c14 c15 c16 c17 c18 c19 c20 c21 c22 c23 c24 c32 c33 c34 c35 c36 c37 c38 c39 = some o1 ∧ f_Model_leastSpace_L22 200 0 KM nM (-1) (nI m) row' num' p16 p17 p18 p19 p20 p21 p22 p23 p24 p25 p26 = some o2 ∧ o1.1 = o2.1 ∧ (∀ y, ¬ (119 ≤ y ∧ y < 167) → o2.2.1 y = row y) ∧ (∀ y, ¬ (64 ≤ y ∧ y < 96) → o2.2.2.1 y = num y) := by
  intro d
  induction d with
  | zero =>
    intro m nC nM c6 c7 c8 c9 c10 c11 c12 c13 c14 c15 c16 c17 c18 c19 c20 c21 c22 c23 c24 c32 c33 c34 c35 c36 c37 c38 c39 row' num' p16 p17 p18 p19 p20 p21 p22 p23 p24 p25 p26 h1 h2 h3 h4 h5 h6
    obtain ⟨nC, rfl⟩ : ∃ k, nC = k + 1 := ⟨nC - 1, by omega⟩
    obtain ⟨nM, rfl⟩ : ∃ k, nM = k + 1 := ⟨nM - 1, by omega⟩
    rw [f_CB_leastSpace_L23, f_Model_leastSpace_L22, if_pos (show (24 : Int32) < nI m from nI_lt (a := 24) (by omega) (by omega)), if_pos (show (24 : Int32) < nI m from nI_lt (a := 24) (by omega) (by omega))]
    obtain ⟨o1, e1, e2⟩ := hKC (nI m) c6 c7 c8 c9 c10 c11 c12 c13 c14 c15 c16 c17 c18 c19 c20 c21 c22 c23 c24 c32 c33 c34 c35 c36 c37 c38 c39
    obtain ⟨o2, e3, e4, e5, e6⟩ := hKM (-1) (nI m) row' num' p16 p17 p18 p19 p20 p21 p22 p23 p24 p25 p26 h5 h6
    exact ⟨o1, o2, e1, e3, e2.trans e4.symm, e5, e6⟩
  | succ d ih =>
    intro m nC nM c6 c7 c8 c9 c10 c11 c12 c13 c14 c15 c16 c17 c18 c19 c20 c21 c22 c23 c24 c32 c33 c34 c35 c36 c37 c38 c39 row' num' p16 p17 p18 p19 p20 p21 p22 p23 p24 p25 p26 h1 h2 h3 h4 h5 h6
    obtain ⟨nC, rfl⟩ : ∃ k, nC = k + 1 := ⟨nC - 1, by omega⟩
    obtain ⟨nM, rfl⟩ : ∃ k, nM = k + 1 := ⟨nM - 1, by omega⟩
    have hm : 2 ≤ m ∧ m ≤ 24 := by omega
    rw [f_CB_leastSpace_L23, f_Model_leastSpace_L22, if_neg (show ¬ (24 : Int32) < nI m from nI_nlt (a := 24) (by omega) (by omega)), if_neg (show ¬ (24 : Int32) < nI m from nI_nlt (a := 24) (by omega) (by omega)), if_pos (rfl : (-1 : Int32) = -1), if_pos rfl]
    obtain ⟨oc, c1, c2⟩ := cx_trial_f (M := m) (R := R) (ks := ks) (T := t1) (a1 := c6) (a2 := c7) (a3 := c8) (a4 := c9) (a5 := c10) (a6 := c11) (a7 := c12) (a8 := c13) (a9 := c14) (b1 := c15) (b2 := c16) (b3 := c17) (b4 := c18) (b5 := c19) (b6 := c20) (b7 := c21) (b8 := c22) (b9 := c23) (w1 := c32) (w2 := c33) (w3 := c34) (w4 := c35) (w5 := c36) (w6 := c37) (w7 := c38) (w8 := c39) hm hD hK hN hQ hF hR (fun f hf => by
      obtain ⟨x, hx, e, _⟩ := hks f hf
      exact ⟨x, hx, e⟩) hT hT0
    have u0 : ∀ y, y ≠ 0 → ¬ (119 ≤ y ∧ y < 167) → upd row' 0 (nI m) y = row y := fun y hy hy2 => (pk_un hy).trans (h5 y hy hy2)
    obtain ⟨ra, na, e1, e2, e3⟩ := cx_empties (b := 2) (by omega) (upd row' 0 (nI m)) num'
    have e1 : f_Model_empties 200 2 (upd row' 0 (nI m)) num' = some (ra, na) := e1
    have v0 : ∀ y, y ≠ 0 → ¬ (119 ≤ y ∧ y < 167) → ra y = row y := fun y hy hy2 => (e2 y).trans ((if_neg (by omega)).trans (u0 y hy hy2))
    have v00 : ra 0 = nI m := (e2 0).trans ((if_neg (by omega)).trans pk_us)
    have v1 : ∀ y, ¬ (64 ≤ y ∧ y < 96) → na y = num y := fun y hy => (e3 y).trans ((if_neg (by omega)).trans (h6 y hy))
    obtain ⟨s, ⟨k1, k2, k3⟩, k4⟩ := cx_m50 (M := m) (b := 0) (T := t1) (row := ra) (num := na) (ks := ks) (by omega) hm hD hK hN hQ hF v00 ((v0 1 (by omega) (by omega)).trans r1) ((v0 2 (by omega) (by omega)).trans r2) ((v0 3 (by omega) (by omega)).trans r3) ((v0 4 (by omega) (by omega)).trans r4) ((v0 6 (by omega) (by omega)).trans r6) (fun f hf => by
      obtain ⟨x, hx, e, e'⟩ := hks f hf
      exact ⟨x, hx, e, (v0 _ (by omega) (by omega)).trans e'⟩) hT hT0 (fun f hf => (v1 _ (by omega)).trans (hv f hf)) (cx_SEM_cg cx_SS_tr0 (fun c hc => ⟨(e2 _).trans (if_pos (by omega)), (e2 _).trans (if_pos (by omega))⟩) (fun u hu => (e3 _).trans (if_pos (by omega))))
    have k4 : ∀ (K94 : Int32 → FI → FJ → Option (Int32 × FI × FJ × FI × FJ × FJ × FJ × FJ × FJ × FJ × Int32 × Int32 × FJ × FJ)), f_Model_leastSpace_L50 200 0 K94 200 0 ra na = K94 (nI F) s.1 s.2 := k4
    have w0 : ∀ y, y ≠ 0 → ¬ (119 ≤ y ∧ y < 167) → s.1 y = row y := fun y hy hy2 => (k2 y hy2).trans (v0 y hy hy2)
    have w00 : s.1 0 = nI m := (k2 0 (by omega)).trans v00
    have w1 : ∀ y, ¬ (64 ≤ y ∧ y < 96) → s.2 y = num y := fun y hy => (k3 y hy).trans (v1 y hy)
    obtain ⟨om, g1, _, g3⟩ := cx_mF (M := m) (b := 2) (k := R) (T := t1) (ks := ks) (row := s.1) (num := s.2) (pl := p16) (lo := p17) (hi := p18) (lB := p19) (hB := p20) (le := p21) (gr := p22) (th := p23) (ch := p24) (oL := p25) (oH := p26) (by omega) hm hD hK hN hQ hR hF hR w00 ((w0 1 (by omega) (by omega)).trans r1) ((w0 2 (by omega) (by omega)).trans r2) ((w0 3 (by omega) (by omega)).trans r3) ((w0 4 (by omega) (by omega)).trans r4) ((w0 5 (by omega) (by omega)).trans r5) ((w0 6 (by omega) (by omega)).trans r6) (fun f hf => by
      obtain ⟨x, hx, e, e'⟩ := hks f hf
      exact ⟨x, hx, e, (w0 _ (by omega) (by omega)).trans e'⟩) hT hT0 k1
    have g1 : f_Model_findsFlows 200 2 (nI R) s.1 s.2 p16 p17 p18 p19 p20 p21 p22 p23 p24 p25 p26 = some om := g1
    have q5 : s.1 5 = nI R := (w0 5 (by omega) (by omega)).trans r5
    have q6 : s.1 6 = nI F := (w0 6 (by omega) (by omega)).trans r6
    have iv := cx_FL_snd (M := m) (R := R) (k := R) (ks := ks) hm hD.2 hK.1 hN hQ.1 hF hT hT0
    have wn := (cx_wd_none (n := F) (by omega) (fun t ht => by
      obtain ⟨l, u, a1, a2, a3, a4, a5⟩ := iv t ht
      exact ⟨l, u, a1, a2, by omega, a5⟩)).1
    have hcm : cx_cm om.2.1 om.2.2.1 F = (1 <<< (nI F &&& 31)) - 1 ↔ (cx_wd (cx_FL m D K N Q R F ks (cx_SS m K ks t1) R).1 (cx_FL m D K N Q R F ks (cx_SS m K ks t1) R).2 F).1 = -1 := by
      rw [cx_cm_full hF, wn]
      constructor
      · intro h t ht; rw [← (g3 t ht).1, ← (g3 t ht).2]; exact h t ht
      · intro h t ht; rw [(g3 t ht).1, (g3 t ht).2]; exact h t ht
    rw [if_pos (show ck 0 1002 = true from rfl), cx_n0, e1, cx_ob, k4, c1, cx_ob]
    unfold f_Model_certainOf
    simp only [cx_c5, cx_n5, q5, if_true, g1, cx_ob, cx_mcF (show F ≤ 24 by omega) q6, cx_c6, cx_n6, q6]
    by_cases zc : (cx_wd (cx_FL m D K N Q R F ks (cx_SS m K ks t1) R).1 (cx_FL m D K N Q R F ks (cx_SS m K ks t1) R).2 F).1 = -1
    · rw [if_pos zc] at c2
      simp only [c2, cx_i10, if_false, if_pos (hcm.mpr zc)]
      obtain ⟨o2, a3, a4, a5, a6⟩ := hKM (nI m) (nI m + 1) s.1 s.2 om.1 om.2.1 om.2.2.1 om.2.2.2.1 om.2.2.2.2.1 om.2.2.2.2.2.1 om.2.2.2.2.2.2.1 om.2.2.2.2.2.2.2.1 om.2.2.2.2.2.2.2.2.1 om.2.2.2.2.2.2.2.2.2.1 om.2.2.2.2.2.2.2.2.2.2 w0 w1
      obtain ⟨nM, rfl⟩ : ∃ k, nM = k + 1 := ⟨nM - 1, by omega⟩
      refine ⟨_, o2, rfl, ?_, a4.symm, a5, a6⟩
      rw [f_Model_leastSpace_L22]
      by_cases z24 : (24 : Int32) < nI m + 1
      · rw [if_pos z24]; exact a3
      · rw [if_neg z24, if_neg (show ¬ nI m = (-1 : Int32) from of_eq_false (nI_m1 (by omega)))]; exact a3
    · rw [if_neg zc] at c2
      simp only [c2, cx_i01, if_true, if_neg (fun w => zc (hcm.mp w)), nI_1]
      exact ih (m + 1) nC nM _ _ _ _ _ _ _ _ _ _ _ _ _ _ _ _ _ _ _ _ _ _ _ _ _ _ _ s.1 s.2 _ _ _ _ _ _ _ _ _ _ _ (by omega) (by omega) (by omega) (by omega) w0 w1
theorem cx_ls_s {D K N Q R F : Nat} {ks : FI} {t1 t2 : FJ} {row : FI} {num : FJ} (hD : 1 ≤ D ∧ D ≤ 8) (hK : 1 ≤ K ∧ K ≤ 4) (hN : 1 ≤ N ∧ N ≤ 16) (hQ : 1 ≤ Q ∧ Q ≤ 3) (hF : F ≤ 16) (hR : R ≤ 60) (r1 : row 1 = nI D) (r2 : row 2 = nI K) (r3 : row 3 = nI N) (r4 : row 4 = nI Q) (r5 : row 5 = nI R) (r6 : row 6 = nI F) (hks : ∀ f, f < F → ∃ x, x ≤ 999 ∧ ks f = nI x ∧ row (7 + f) = nI x) (hT : ∀ f, f < 16 → ∃ a, a ≤ 1000000000 ∧ t2 f = lN a) (hT0 : ∀ f, f < 16 → F ≤ f → t2 f = 0) (hv : ∀ f, f < 16 → cx_vt 1 num f = t2 f)
    (KC : Int32 → FJ → FJ → FJ → FJ → FJ → FJ → (Nat → FI) → FI → Int32 → FJ → FJ → FJ → FJ → FJ → FJ → (Nat → FI) → FI → Int32 → Int32 → FJ → FI → FI → FJ → FJ → FI → FI → FJ → Option (Int32 × FJ × FJ × FJ × FJ × FJ × FJ × (Nat → FI) × FI × Int32 × FJ × FJ × FJ × FJ × FJ × FJ × (Nat → FI) × FI × Int32 × Int32 × Int32 × Int32 × Int32 × Int32 × Int32 × Int32 × FI × FJ × FI × FI × FJ × FJ × FI × FI × FJ)) (hKC : ∀ (i : Int32) (c6 : FJ) (c7 : FJ) (c8 : FJ) (c9 : FJ) (c10 : FJ) (c11 : FJ) (c12 : Nat → FI) (c13 : FI) (c14 : Int32) (c15 : FJ) (c16 : FJ) (c17 : FJ) (c18 : FJ) (c19 : FJ) (c20 : FJ) (c21 : Nat → FI) (c22 : FI) (c23 : Int32) (c24 : Int32) (c32 : FJ) (c33 : FI) (c34 : FI) (c35 : FJ) (c36 : FJ) (c37 : FI) (c38 : FI) (c39 : FJ), ∃ o, KC i c6 c7 c8 c9 c10 c11 c12 c13 c14 c15 c16 c17 c18 c19 c20 c21 c22 c23 c24 c32 c33 c34 c35 c36 c37 c38 c39 = some o ∧ o.1 = -1) (KM : Int32 → Int32 → FI → FJ → FI → FJ → FJ → FJ → FJ → FJ → FJ → Int32 → Int32 → FJ → FJ → Option (Int32 × FI × FJ × FI × FJ × FJ × FJ × FJ × FJ × FJ × Int32 × Int32 × FJ × FJ)) (hKM : ∀ (z i : Int32) (row' : FI) (num' : FJ) (p16 : FI) (p17 p18 p19 p20 p21 p22 : FJ) (p23 p24 : Int32) (p25 p26 : FJ), (∀ y, y ≠ 0 → ¬ (119 ≤ y ∧ y < 167) → row' y = row y) → (∀ y, ¬ (64 ≤ y ∧ y < 96) → num' y = num y) → ∃ o : Int32 × FI × FJ × FI × FJ × FJ × FJ × FJ × FJ × FJ × Int32 × Int32 × FJ × FJ, KM z i row' num' p16 p17 p18 p19 p20 p21 p22 p23 p24 p25 p26 = some o ∧ o.1 = z ∧ (∀ y, ¬ (119 ≤ y ∧ y < 167) → o.2.1 y = row y) ∧ (∀ y, ¬ (64 ≤ y ∧ y < 96) → o.2.2.1 y = num y)) :
    ∀ (d m nC nM : Nat) (c6 : FJ) (c7 : FJ) (c8 : FJ) (c9 : FJ) (c10 : FJ) (c11 : FJ) (c12 : Nat → FI) (c13 : FI) (c14 : Int32) (c15 : FJ) (c16 : FJ) (c17 : FJ) (c18 : FJ) (c19 : FJ) (c20 : FJ) (c21 : Nat → FI) (c22 : FI) (c23 : Int32) (c24 : Int32) (c32 : FJ) (c33 : FI) (c34 : FI) (c35 : FJ) (c36 : FJ) (c37 : FI) (c38 : FI) (c39 : FJ) (row' : FI) (num' : FJ) (p16 : FI) (p17 p18 p19 p20 p21 p22 : FJ) (p23 p24 : Int32) (p25 p26 : FJ), m + d = 25 → 2 ≤ m → d < nC → d < nM → (∀ y, y ≠ 0 → ¬ (119 ≤ y ∧ y < 167) → row' y = row y) → (∀ y, ¬ (64 ≤ y ∧ y < 96) → num' y = num y) →
      ∃ (o1 : Int32 × FJ × FJ × FJ × FJ × FJ × FJ × (Nat → FI) × FI × Int32 × FJ × FJ × FJ × FJ × FJ × FJ × (Nat → FI) × FI × Int32 × Int32 × Int32 × Int32 × Int32 × Int32 × Int32 × Int32 × FI × FJ × FI × FI × FJ × FJ × FI × FI × FJ) (o2 : Int32 × FI × FJ × FI × FJ × FJ × FJ × FJ × FJ × FJ × Int32 × Int32 × FJ × FJ), f_CB_leastSpace_L23 200 1 (nI D) (nI K) (nI N) (nI Q) (nI R) (nI F) ks t1 t2 KC nC (nI m) c6 c7 c8 c9 c10 c11 c12 c13 c14 c15 c16 c17 c18 c19 c20 c21 c22 c23 c24 c32 c33 c34 c35 c36 c37 c38 c39 = some o1 ∧ f_Model_leastSpace_L22 200 1 KM nM (-1) (nI m) row' num' p16 p17 p18 p19 p20 p21 p22 p23 p24 p25 p26 = some o2 ∧ o1.1 = o2.1 ∧ (∀ y, ¬ (119 ≤ y ∧ y < 167) → o2.2.1 y = row y) ∧ (∀ y, ¬ (64 ≤ y ∧ y < 96) → o2.2.2.1 y = num y) := by
  intro d
  induction d with
  | zero =>
    intro m nC nM c6 c7 c8 c9 c10 c11 c12 c13 c14 c15 c16 c17 c18 c19 c20 c21 c22 c23 c24 c32 c33 c34 c35 c36 c37 c38 c39 row' num' p16 p17 p18 p19 p20 p21 p22 p23 p24 p25 p26 h1 h2 h3 h4 h5 h6
    obtain ⟨nC, rfl⟩ : ∃ k, nC = k + 1 := ⟨nC - 1, by omega⟩
    obtain ⟨nM, rfl⟩ : ∃ k, nM = k + 1 := ⟨nM - 1, by omega⟩
    rw [f_CB_leastSpace_L23, f_Model_leastSpace_L22, if_pos (show (24 : Int32) < nI m from nI_lt (a := 24) (by omega) (by omega)), if_pos (show (24 : Int32) < nI m from nI_lt (a := 24) (by omega) (by omega))]
    obtain ⟨o1, e1, e2⟩ := hKC (nI m) c6 c7 c8 c9 c10 c11 c12 c13 c14 c15 c16 c17 c18 c19 c20 c21 c22 c23 c24 c32 c33 c34 c35 c36 c37 c38 c39
    obtain ⟨o2, e3, e4, e5, e6⟩ := hKM (-1) (nI m) row' num' p16 p17 p18 p19 p20 p21 p22 p23 p24 p25 p26 h5 h6
    exact ⟨o1, o2, e1, e3, e2.trans e4.symm, e5, e6⟩
  | succ d ih =>
    intro m nC nM c6 c7 c8 c9 c10 c11 c12 c13 c14 c15 c16 c17 c18 c19 c20 c21 c22 c23 c24 c32 c33 c34 c35 c36 c37 c38 c39 row' num' p16 p17 p18 p19 p20 p21 p22 p23 p24 p25 p26 h1 h2 h3 h4 h5 h6
    obtain ⟨nC, rfl⟩ : ∃ k, nC = k + 1 := ⟨nC - 1, by omega⟩
    obtain ⟨nM, rfl⟩ : ∃ k, nM = k + 1 := ⟨nM - 1, by omega⟩
    have hm : 2 ≤ m ∧ m ≤ 24 := by omega
    rw [f_CB_leastSpace_L23, f_Model_leastSpace_L22, if_neg (show ¬ (24 : Int32) < nI m from nI_nlt (a := 24) (by omega) (by omega)), if_neg (show ¬ (24 : Int32) < nI m from nI_nlt (a := 24) (by omega) (by omega)), if_pos (rfl : (-1 : Int32) = -1), if_neg cx_i1]
    obtain ⟨oc, c1, c2⟩ := cx_trial_s (M := m) (R := R) (ks := ks) (T := t2) (a1 := c6) (a2 := c7) (a3 := c8) (a4 := c9) (a5 := c10) (a6 := c11) (a7 := c12) (a8 := c13) (a9 := c14) (b1 := c15) (b2 := c16) (b3 := c17) (b4 := c18) (b5 := c19) (b6 := c20) (b7 := c21) (b8 := c22) (b9 := c23) (w1 := c32) (w2 := c33) (w3 := c34) (w4 := c35) (w5 := c36) (w6 := c37) (w7 := c38) (w8 := c39) hm hD hK hN hQ hF hR (fun f hf => by
      obtain ⟨x, hx, e, _⟩ := hks f hf
      exact ⟨x, hx, e⟩) hT hT0
    have u0 : ∀ y, y ≠ 0 → ¬ (119 ≤ y ∧ y < 167) → upd row' 0 (nI m) y = row y := fun y hy hy2 => (pk_un hy).trans (h5 y hy hy2)
    obtain ⟨ra, na, e1, e2, e3⟩ := cx_empties (b := 2) (by omega) (upd row' 0 (nI m)) num'
    have e1 : f_Model_empties 200 2 (upd row' 0 (nI m)) num' = some (ra, na) := e1
    have v0 : ∀ y, y ≠ 0 → ¬ (119 ≤ y ∧ y < 167) → ra y = row y := fun y hy hy2 => (e2 y).trans ((if_neg (by omega)).trans (u0 y hy hy2))
    have v00 : ra 0 = nI m := (e2 0).trans ((if_neg (by omega)).trans pk_us)
    have v1 : ∀ y, ¬ (64 ≤ y ∧ y < 96) → na y = num y := fun y hy => (e3 y).trans ((if_neg (by omega)).trans (h6 y hy))
    obtain ⟨s, ⟨k1, k2, k3⟩, k4⟩ := cx_m50 (M := m) (b := 1) (T := t2) (row := ra) (num := na) (ks := ks) (by omega) hm hD hK hN hQ hF v00 ((v0 1 (by omega) (by omega)).trans r1) ((v0 2 (by omega) (by omega)).trans r2) ((v0 3 (by omega) (by omega)).trans r3) ((v0 4 (by omega) (by omega)).trans r4) ((v0 6 (by omega) (by omega)).trans r6) (fun f hf => by
      obtain ⟨x, hx, e, e'⟩ := hks f hf
      exact ⟨x, hx, e, (v0 _ (by omega) (by omega)).trans e'⟩) hT hT0 (fun f hf => (v1 _ (by omega)).trans (hv f hf)) (cx_SEM_cg cx_SS_tr0 (fun c hc => ⟨(e2 _).trans (if_pos (by omega)), (e2 _).trans (if_pos (by omega))⟩) (fun u hu => (e3 _).trans (if_pos (by omega))))
    have k4 : ∀ (K94 : Int32 → FI → FJ → Option (Int32 × FI × FJ × FI × FJ × FJ × FJ × FJ × FJ × FJ × Int32 × Int32 × FJ × FJ)), f_Model_leastSpace_L50 200 1 K94 200 0 ra na = K94 (nI F) s.1 s.2 := k4
    have w0 : ∀ y, y ≠ 0 → ¬ (119 ≤ y ∧ y < 167) → s.1 y = row y := fun y hy hy2 => (k2 y hy2).trans (v0 y hy hy2)
    have w00 : s.1 0 = nI m := (k2 0 (by omega)).trans v00
    have w1 : ∀ y, ¬ (64 ≤ y ∧ y < 96) → s.2 y = num y := fun y hy => (k3 y hy).trans (v1 y hy)
    obtain ⟨om, g1, _, g3⟩ := cx_mF (M := m) (b := 2) (k := R) (T := t2) (ks := ks) (row := s.1) (num := s.2) (pl := p16) (lo := p17) (hi := p18) (lB := p19) (hB := p20) (le := p21) (gr := p22) (th := p23) (ch := p24) (oL := p25) (oH := p26) (by omega) hm hD hK hN hQ hR hF hR w00 ((w0 1 (by omega) (by omega)).trans r1) ((w0 2 (by omega) (by omega)).trans r2) ((w0 3 (by omega) (by omega)).trans r3) ((w0 4 (by omega) (by omega)).trans r4) ((w0 5 (by omega) (by omega)).trans r5) ((w0 6 (by omega) (by omega)).trans r6) (fun f hf => by
      obtain ⟨x, hx, e, e'⟩ := hks f hf
      exact ⟨x, hx, e, (w0 _ (by omega) (by omega)).trans e'⟩) hT hT0 k1
    have g1 : f_Model_findsFlows 200 2 (nI R) s.1 s.2 p16 p17 p18 p19 p20 p21 p22 p23 p24 p25 p26 = some om := g1
    have q5 : s.1 5 = nI R := (w0 5 (by omega) (by omega)).trans r5
    have q6 : s.1 6 = nI F := (w0 6 (by omega) (by omega)).trans r6
    have iv := cx_FL_snd (M := m) (R := R) (k := R) (ks := ks) hm hD.2 hK.1 hN hQ.1 hF hT hT0
    have wn := (cx_wd_none (n := F) (by omega) (fun t ht => by
      obtain ⟨l, u, a1, a2, a3, a4, a5⟩ := iv t ht
      exact ⟨l, u, a1, a2, by omega, a5⟩)).1
    have hcm : cx_cm om.2.1 om.2.2.1 F = (1 <<< (nI F &&& 31)) - 1 ↔ (cx_wd (cx_FL m D K N Q R F ks (cx_SS m K ks t2) R).1 (cx_FL m D K N Q R F ks (cx_SS m K ks t2) R).2 F).1 = -1 := by
      rw [cx_cm_full hF, wn]
      constructor
      · intro h t ht; rw [← (g3 t ht).1, ← (g3 t ht).2]; exact h t ht
      · intro h t ht; rw [(g3 t ht).1, (g3 t ht).2]; exact h t ht
    rw [if_pos (show ck 0 1002 = true from rfl), cx_n0, e1, cx_ob, k4, c1, cx_ob]
    unfold f_Model_certainOf
    simp only [cx_c5, cx_n5, q5, if_true, g1, cx_ob, cx_mcF (show F ≤ 24 by omega) q6, cx_c6, cx_n6, q6]
    by_cases zc : (cx_wd (cx_FL m D K N Q R F ks (cx_SS m K ks t2) R).1 (cx_FL m D K N Q R F ks (cx_SS m K ks t2) R).2 F).1 = -1
    · rw [if_pos zc] at c2
      simp only [c2, cx_i10, if_false, if_pos (hcm.mpr zc)]
      obtain ⟨o2, a3, a4, a5, a6⟩ := hKM (nI m) (nI m + 1) s.1 s.2 om.1 om.2.1 om.2.2.1 om.2.2.2.1 om.2.2.2.2.1 om.2.2.2.2.2.1 om.2.2.2.2.2.2.1 om.2.2.2.2.2.2.2.1 om.2.2.2.2.2.2.2.2.1 om.2.2.2.2.2.2.2.2.2.1 om.2.2.2.2.2.2.2.2.2.2 w0 w1
      obtain ⟨nM, rfl⟩ : ∃ k, nM = k + 1 := ⟨nM - 1, by omega⟩
      refine ⟨_, o2, rfl, ?_, a4.symm, a5, a6⟩
      rw [f_Model_leastSpace_L22]
      by_cases z24 : (24 : Int32) < nI m + 1
      · rw [if_pos z24]; exact a3
      · rw [if_neg z24, if_neg (show ¬ nI m = (-1 : Int32) from of_eq_false (nI_m1 (by omega)))]; exact a3
    · rw [if_neg zc] at c2
      simp only [c2, cx_i01, if_true, if_neg (fun w => zc (hcm.mp w)), nI_1]
      exact ih (m + 1) nC nM _ _ _ _ _ _ _ _ _ _ _ _ _ _ _ _ _ _ _ _ _ _ _ _ _ _ _ s.1 s.2 _ _ _ _ _ _ _ _ _ _ _ (by omega) (by omega) (by omega) (by omega) w0 w1
theorem p_leastSpace (x : Int32) {M D K N Q R F : Nat} {ks : FI} {t1 : FJ} {r1 m1 : FI} {n1 : FJ} {t2 : FJ} {r2 m2 : FI} {n2 : FJ} {row : FI} {num : FJ} {a1 a2 a3 a4 a5 a6 : FJ} {a7 : Nat → FI} {a8 : FI} {a9 : Int32} {b1 b2 b3 b4 b5 b6 : FJ} {b7 : Nat → FI} {b8 : FI} {b9 : Int32} {pl : FI} {lo hi lB hB le gr : FJ} {th ch : Int32} {oL oH : FJ} {e0 e1 e2 e3 e4 e5 e6 : Int32} {e7 : FI} {w1 : FJ} {w2 w3 : FI} {w4 w5 : FJ} {w6 w7 : FI} {w8 : FJ} (h0 : RS 0 (nI M) (nI D) (nI K) (nI N) (nI Q) (nI R) (nI F) ks t1 r1 m1 n1 t2 r2 m2 n2 row num) (hn : SOKn M D K N Q R F ks t1 r1 m1 n1 t2 r2 m2 n2) :
    ∃ (out1 : Int32 × FJ × FJ × FJ × FJ × FJ × FJ × (Nat → FI) × FI × Int32 × FJ × FJ × FJ × FJ × FJ × FJ × (Nat → FI) × FI × Int32 × Int32 × Int32 × Int32 × Int32 × Int32 × Int32 × Int32 × FI × FJ × FI × FI × FJ × FJ × FI × FI × FJ) (out2 : Int32 × FI × FJ × FI × FJ × FJ × FJ × FJ × FJ × FJ × Int32 × Int32 × FJ × FJ), f_CB_leastSpace 200 x (nI M) (nI D) (nI K) (nI N) (nI Q) (nI R) (nI F) ks t1 r1 m1 n1 t2 r2 m2 n2 a1 a2 a3 a4 a5 a6 a7 a8 a9 b1 b2 b3 b4 b5 b6 b7 b8 b9 e0 e1 e2 e3 e4 e5 e6 e7 w1 w2 w3 w4 w5 w6 w7 w8 = some out1 ∧ f_Model_leastSpace 200 x row num pl lo hi lB hB le gr th ch oL oH = some out2 ∧ out1.1 = out2.1 ∧ (∀ y, ¬ (119 ≤ y ∧ y < 167) → out2.2.1 y = row y) ∧ (∀ y, ¬ (64 ≤ y ∧ y < 96) → out2.2.2.1 y = num y) := by
  obtain ⟨⟨d0, d1, d2, d3, d4, d5, d6⟩, hk, T1, T2, Z1, Z2, v1, v2⟩ := st_all h0 hn
  obtain ⟨_, _, _, _, q3, q4⟩ := RS0_out h0
  obtain ⟨s1, s2, s3, s4, s5, s6, s7, s8, s9, s10, s11, s12, s13⟩ := hn
  unfold f_CB_leastSpace f_Model_leastSpace
  rw [p_isBraid.1, p_isBraid.2]
  by_cases hx : (0 : Int32) ≤ x ∧ x ≤ 1
  · simp only [if_pos hx, cx_ob, cx_i10, if_false, cx_c0, if_true, cx_n0]
    rcases braid_cases hx with rfl | rfl
    · exact cx_ls_f s2 s3 s4 s5 s7 s6 d1 d2 d3 d4 d5 d6 hk T1 Z1 (fun f hf => (q3 f hf).1) _ (fun i c6 c7 c8 c9 c10 c11 c12 c13 c14 c15 c16 c17 c18 c19 c20 c21 c22 c23 c24 c32 c33 c34 c35 c36 c37 c38 c39 => ⟨_, rfl, rfl⟩) _ (fun z i row' num' p16 p17 p18 p19 p20 p21 p22 p23 p24 p25 p26 h5 h6 => ⟨_, rfl, rfl, fun y hy => by
          by_cases q : y = 0
          · subst q; exact (show upd row' 0 (row 0) 0 = row 0 from pk_us)
          · exact (show upd row' 0 (row 0) y = row' y from pk_un q).trans (h5 y q hy), h6⟩) 23 2 200 200 _ _ _ _ _ _ _ _ _ _ _ _ _ _ _ _ _ _ _ _ _ _ _ _ _ _ _ row num _ _ _ _ _ _ _ _ _ _ _ (by omega) (by omega) (by omega) (by omega) (fun _ _ _ => rfl) (fun _ _ => rfl)
    · exact cx_ls_s s2 s3 s4 s5 s7 s6 d1 d2 d3 d4 d5 d6 hk T2 Z2 (fun f hf => (q4 f hf).1) _ (fun i c6 c7 c8 c9 c10 c11 c12 c13 c14 c15 c16 c17 c18 c19 c20 c21 c22 c23 c24 c32 c33 c34 c35 c36 c37 c38 c39 => ⟨_, rfl, rfl⟩) _ (fun z i row' num' p16 p17 p18 p19 p20 p21 p22 p23 p24 p25 p26 h5 h6 => ⟨_, rfl, rfl, fun y hy => by
          by_cases q : y = 0
          · subst q; exact (show upd row' 0 (row 0) 0 = row 0 from pk_us)
          · exact (show upd row' 0 (row 0) y = row' y from pk_un q).trans (h5 y q hy), h6⟩) 23 2 200 200 _ _ _ _ _ _ _ _ _ _ _ _ _ _ _ _ _ _ _ _ _ _ _ _ _ _ _ row num _ _ _ _ _ _ _ _ _ _ _ (by omega) (by omega) (by omega) (by omega) (fun _ _ _ => rfl) (fun _ _ => rfl)
  · simp only [if_neg hx, cx_ob, if_true, eq_self]
    exact ⟨_, _, rfl, rfl, rfl, fun _ _ => rfl, fun _ _ => rfl⟩
theorem RS0_fr {fc fb ff fu fv fr fl : Int32} {ks : FI} {t1 : FJ} {r1 m1 : FI} {n1 : FJ} {t2 : FJ} {r2 m2 : FI} {n2 : FJ} {row row' : FI} {num num' : FJ} (h : RS 0 fc fb ff fu fv fr fl ks t1 r1 m1 n1 t2 r2 m2 n2 row num) (e1 : ∀ y, ¬ (119 ≤ y ∧ y < 167) → row' y = row y) (e2 : ∀ y, ¬ (64 ≤ y ∧ y < 96) → num' y = num y) : RS 0 fc fb ff fu fv fr fl ks t1 r1 m1 n1 t2 r2 m2 n2 row' num' := by
  obtain ⟨⟨a0, a1, a2, a3, a4, a5, a6⟩, b, c, d⟩ := h
  refine ⟨⟨(e1 _ (by omega)).trans a0, (e1 _ (by omega)).trans a1, (e1 _ (by omega)).trans a2, (e1 _ (by omega)).trans a3, (e1 _ (by omega)).trans a4, (e1 _ (by omega)).trans a5, (e1 _ (by omega)).trans a6⟩, fun f hf => (e1 _ (by omega)).trans (b f hf), fun x hx => ⟨(e1 _ (by omega)).trans (c x hx).1, (e1 _ (by omega)).trans (c x hx).2.1, (e1 _ (by omega)).trans (c x hx).2.2.1, (e1 _ (by omega)).trans (c x hx).2.2.2⟩, fun f hf => ⟨(e2 _ (by omega)).trans (d f hf).1, (e2 _ (by omega)).trans (d f hf).2.1, (e2 _ (by omega)).trans (d f hf).2.2.1, (e2 _ (by omega)).trans (d f hf).2.2.2⟩⟩
