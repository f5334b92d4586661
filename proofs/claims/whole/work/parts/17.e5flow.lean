theorem cx_mO {M D N Q R b : Nat} {S : Nat → Nat} {row : FI} {num : FJ} {pl : FI} {lo hi lB hB le gr : FJ} {th ch : Int32} {oL oH : FJ} (hb : b ≤ 2) (hM : M ≤ 24) (hN : 1 ≤ N ∧ N ≤ 16) (hQ : 1 ≤ Q ∧ Q ≤ 3) (hR : R ≤ 60) (hS : ∀ c, c < 24 → S c ≤ 2 ^ 34) (r0 : row 0 = nI M) (r3 : row 3 = nI N) (r4 : row 4 = nI Q) (r5 : row 5 = nI R) (h : cx_SEM D N Q S (cx_vr b row) (cx_vm b row) (cx_vn b num)) :
    ∃ out : FI × FJ × FJ × FJ × FJ × FJ × FJ × Int32 × Int32 × FJ × FJ, f_Model_findsOverflows 200 (nI b) row num pl lo hi lB hB le gr th ch oL oH = some out ∧ ∀ c, c < M → out.2.2.2.2.2.2.2.2.2.1 c = (cx_OV M D N Q R S).1 c ∧ out.2.2.2.2.2.2.2.2.2.2 c = (cx_OV M D N Q R S).2 c := by
  have h01 := cx_SEM01 h
  have m1 : ∀ c, c < 24 → f_Model_marked (nI b) (nI c) row = some (if S c / 2 ^ D = 0 then 0 else 1) := fun c hc => by rw [cx_marked hb hc (h01 c hc), (h.1 c hc).2]
  unfold f_Model_findsOverflows
  generalize hK1 : (fun (i22 : Int32) (c23 : FI) (c24 : Int32) => f_Model_findsOverflows_L58 (nI b) row num (fun i46 c47 c48 => (f_Model_begins 200 1 c23 lo hi c48 c24).bind (fun r49 => if ck 5 1002 = true then (f_Model_rounds 200 (row (5 : Int32).toNatClampNeg) c23 r49.1 r49.2 lB hB c47 c48 c24 ch).bind (fun r50 => f_Model_findsOverflows_L117 (nI b) r50.1 r50.2.1 row (fun i106 i107 c108 c109 => some (c23, r50.1, r50.2.1, r50.2.2.1, r50.2.2.2.1, c47, c48, c24, r50.2.2.2.2, c108, c109)) 200 0 0 oL oH) else none)) 200 0 le gr) = K1
  obtain ⟨s, hP, e1⟩ := cx_lp (fun n j (s : FI × Int32) => f_Model_findsOverflows_L7 200 (nI b) row K1 n (nI j) s.1 s.2) (fun s => K1 (nI M) s.1 s.2) (fun j s => s.2 = nI (cx_rk D S j) ∧ ∀ c, c < j → ¬ S c / 2 ^ D = 0 → s.1 (cx_rk D S c) = cx_pU N Q c) M
    (fun n s _ => by
      show f_Model_findsOverflows_L7 200 (nI b) row K1 (n + 1) (nI M) s.1 s.2 = _
      rw [f_Model_findsOverflows_L7, if_pos (show ck 0 1002 = true from rfl), cx_n0, r0, if_pos (nI_le (Nat.le_refl _) (by omega))])
    (fun n j s hj hP => by
      have hr := cx_rk_le (D := D) (S := S) j
      by_cases z : S j / 2 ^ D = 0
      · refine ⟨s, ⟨by rw [cx_rk_s, if_pos z]; exact hP.1, fun c hc hz => hP.2 c (by
          rcases Nat.lt_or_ge c j with w | w
          · exact w
          · rw [show c = j by omega] at hz; exact absurd z hz) hz⟩, ?_⟩
        show f_Model_findsOverflows_L7 200 (nI b) row K1 (n + 1) (nI j) s.1 s.2 = _
        rw [f_Model_findsOverflows_L7, if_pos (show ck 0 1002 = true from rfl), cx_n0, r0, if_neg (nI_ge hj (by omega)), m1 j (by omega), if_pos z, cx_ob, if_pos rfl, nI_1]
      · refine ⟨(upd s.1 (cx_rk D S j) (cx_pU N Q j), nI (cx_rk D S j + 1)), ⟨by rw [cx_rk_s, if_neg z], fun c hc hz => ?_⟩, ?_⟩
        · show upd s.1 _ _ (cx_rk D S c) = _
          by_cases q : c = j
          · subst q; exact pk_us
          · rw [pk_un (fun e => q (cx_rk_inj hz z e))]; exact hP.2 c (by omega) hz
        · show f_Model_findsOverflows_L7 200 (nI b) row K1 (n + 1) (nI j) s.1 s.2 = _
          rw [f_Model_findsOverflows_L7, if_pos (show ck 0 1002 = true from rfl), cx_n0, r0, if_neg (nI_ge hj (by omega)), m1 j (by omega), if_neg z, cx_ob, if_neg cx_i1, cx_pmU r3 r4 (by omega) hN hQ.2, cx_ob, hP.1, if_pos (ck_nI (by omega) (by decide)), nI_clamp (by omega), nI_1, nI_1]) 200 0 (pl, 0) (by omega) (by omega) ⟨rfl, fun c hc => absurd hc (Nat.not_lt_zero c)⟩
  have e1 : f_Model_findsOverflows_L7 200 (nI b) row K1 200 0 pl 0 = K1 (nI M) s.1 s.2 := e1
  rw [e1, ← hK1]
  have hnt : cx_rk D S M ≤ 24 := Nat.le_trans (cx_rk_le M) hM
  generalize hK2 : (fun (i46 : Int32) (c47 c48 : FJ) => (f_Model_begins 200 1 s.1 lo hi c48 s.2).bind (fun r49 => if ck 5 1002 = true then (f_Model_rounds 200 (row (5 : Int32).toNatClampNeg) s.1 r49.1 r49.2 lB hB c47 c48 s.2 ch).bind (fun r50 => f_Model_findsOverflows_L117 (nI b) r50.1 r50.2.1 row (fun i106 i107 c108 c109 => some (s.1, r50.1, r50.2.1, r50.2.2.1, r50.2.2.2.1, c47, c48, s.2, r50.2.2.2.2, c108, c109)) 200 0 0 oL oH) else none)) = K2
  obtain ⟨g, hg, e2⟩ := cx_lp (fun n j (g : FJ × FJ) => f_Model_findsOverflows_L58 (nI b) row num K2 n (nI j) g.1 g.2) (fun g => K2 (nI N) g.1 g.2) (fun j g => ∀ u, u < j → g.1 u = cx_nC D N Q S u ∧ g.2 u = cx_nC D N Q S u) N
    (fun n g _ => by
      show f_Model_findsOverflows_L58 (nI b) row num K2 (n + 1) (nI N) g.1 g.2 = _
      rw [f_Model_findsOverflows_L58, if_pos (show ck 3 1002 = true from rfl), cx_n3, r3, if_pos (nI_le (Nat.le_refl _) (by omega))])
    (fun n j g hj hP => by
      have ej : cx_vn b num j = cx_nC D N Q S j := h.2 j (by omega)
      refine ⟨(vp_updL g.1 j (cx_nC D N Q S j), vp_updL g.2 j (cx_nC D N Q S j)), fun u hu => ?_, ?_⟩
      · show vp_updL g.1 j _ u = _ ∧ vp_updL g.2 j _ u = _
        by_cases q : u = j
        · subst q; rw [pk_uLs, pk_uLs]; exact ⟨rfl, rfl⟩
        · rw [pk_uLn q, pk_uLn q]; exact hP u (by omega)
      · show f_Model_findsOverflows_L58 (nI b) row num K2 (n + 1) (nI j) g.1 g.2 = _
        rw [f_Model_findsOverflows_L58, if_pos (show ck 3 1002 = true from rfl), cx_n3, r3, if_neg (nI_ge hj (by omega)), cx_aboveAt hb (by omega), cx_ob, if_pos (ck_nI (by omega) (by decide)), cx_ob, if_pos (ck_nI (by omega) (by decide)), ej, nI_clamp (by omega), nI_1]) 200 0 (le, gr) (by omega) (by omega) (fun u hu => absurd hu (Nat.not_lt_zero u))
  show ∃ out, f_Model_findsOverflows_L58 (nI b) row num _ 200 0 le gr = some out ∧ _
  rw [hK2]
  have e2 : f_Model_findsOverflows_L58 (nI b) row num K2 200 0 le gr = K2 (nI N) g.1 g.2 := e2
  rw [e2, ← hK2]
  have hpl : ∀ t, t < cx_rk D S M → ∃ c, c < M ∧ ¬ S c / 2 ^ D = 0 ∧ cx_rk D S c = t ∧ s.1 t = cx_pU N Q c := by
    intro t ht
    obtain ⟨c, h1, h2, h3⟩ := cx_rk_inv ht
    exact ⟨c, h1, h2, h3, by rw [← h3]; exact hP.2 c h1 h2⟩
  have hgn : ∀ t, t < cx_rk D S M → ∀ p, p < 24 → cx_bt (s.1 t) p = true → g.1 p = cx_nC D N Q S p ∧ g.2 p = cx_nC D N Q S p := by
    intro t ht p hp hbt
    obtain ⟨c, h1, h2, h3, h4⟩ := hpl t ht
    rw [h4] at hbt
    exact hg p (cx_pU_lt (by omega) hN.2 (by omega) hbt)
  obtain ⟨l1, u1, e3, k3⟩ := cx_begins (nt := cx_rk D S M) (b := s.1) (pl := s.1) (gr := g.2) (lo := lo) (hi := hi) (start := 1) hnt (fun _ _ => rfl) (fun t ht p hp hbt => by
    rw [(hgn t ht p hp hbt).2]
    exact ⟨_, rfl, by have := cx_sC_b (D := D) (N := N) (Q := Q) hS p; omega⟩) (fun t ht => by
    obtain ⟨c, h1, h2, h3, h4⟩ := hpl t ht
    rw [h4]
    obtain ⟨q, q1, q2⟩ := cx_pU_ex (N := N) (Q := Q) (x := c) (by omega) hN.2 hQ.1
    exact cx_ct_pos q2 (by omega))
  obtain ⟨l2, u2, lB', hB', e4, k4⟩ := cx_mrounds (nt := cx_rk D S M) (R := R) (b := s.1) (pl := s.1) (le := g.1) (gr := g.2) (lo := l1) (hi := u1) (lB := lB) (hB := hB) (ch := ch) hnt hR (fun _ _ => rfl)
  simp only [hP.1, e3, cx_ob, cx_c5, if_true, cx_n5, r5, e4]
  have hc := cx_cmp (M := M) (D := D) (S := S) (b := cx_bC D N Q S) (b' := s.1) (le := cx_nC D N Q S) (gr := cx_nC D N Q S) (lo := cx_lC D S) (hi := cx_hC D N Q S) (lo' := l1) (hi' := u1)
    (fun c hc hz => by rw [hP.2 c hc hz]; exact (if_neg hz).symm) (fun c hc hz => if_pos hz) (fun c hc hz => by
      have hl : cx_rk D S c < cx_rk D S M := cx_rk_lt hc hz
      rw [(k3 _ hl).1, (k3 _ hl).2]
      refine ⟨(if_neg hz).symm, ?_⟩
      unfold cx_hC
      rw [hP.2 c hc hz, show cx_bC D N Q S c = cx_pU N Q c from if_neg hz]
      exact cx_mi_eq fun p hp hbt => (hg p (cx_pU_lt (by omega) hN.2 (by omega) hbt)).2) (fun c hc hz => by
      refine ⟨if_pos hz, ?_⟩
      unfold cx_hC
      rw [show cx_bC D N Q S c = 0 from if_pos hz, cx_mi0]) R
  have hc2 := cx_it_eq (nt := cx_rk D S M) (b := s.1) (b' := s.1) (le := g.1) (le' := cx_nC D N Q S) (gr := g.2) (gr' := cx_nC D N Q S) (lo := l1) (lo' := l1) (hi := u1) (hi' := u1) (fun _ _ => rfl) hgn (fun _ _ => rfl) (fun _ _ => rfl) R
  obtain ⟨w, hw, e5⟩ := cx_lp (fun n j (w : Int32 × FJ × FJ) => f_Model_findsOverflows_L117 (nI b) l2 u2 row (fun i106 i107 c108 c109 => some (s.1, l2, u2, lB', hB', g.1, g.2, nI (cx_rk D S M), nI (cx_lr (cx_rk D S M) s.1 g.1 g.2 l1 u1 R), c108, c109)) n w.1 (nI j) w.2.1 w.2.2) (fun w => some (s.1, l2, u2, lB', hB', g.1, g.2, nI (cx_rk D S M), nI (cx_lr (cx_rk D S M) s.1 g.1 g.2 l1 u1 R), w.2.1, w.2.2))
    (fun j w => w.1 = nI (cx_rk D S j) ∧ ∀ c, c < j → w.2.1 c = (cx_OV M D N Q R S).1 c ∧ w.2.2 c = (cx_OV M D N Q R S).2 c) M
    (fun n w _ => by
      show f_Model_findsOverflows_L117 (nI b) l2 u2 row _ (n + 1) w.1 (nI M) w.2.1 w.2.2 = _
      rw [f_Model_findsOverflows_L117, if_pos (show ck 0 1002 = true from rfl), cx_n0, r0, if_pos (nI_le (Nat.le_refl _) (by omega))])
    (fun n j w hj hw => by
      have hr := cx_rk_le (D := D) (S := S) j
      refine ⟨(nI (cx_rk D S (j + 1)), vp_updL w.2.1 j ((cx_OV M D N Q R S).1 j), vp_updL w.2.2 j ((cx_OV M D N Q R S).2 j)), ⟨rfl, fun c hc => ?_⟩, ?_⟩
      · show vp_updL w.2.1 j _ c = _ ∧ vp_updL w.2.2 j _ c = _
        by_cases q : c = j
        · subst q; rw [pk_uLs, pk_uLs]; exact ⟨rfl, rfl⟩
        · rw [pk_uLn q, pk_uLn q]; exact hw.2 c (by omega)
      · show f_Model_findsOverflows_L117 (nI b) l2 u2 row _ (n + 1) w.1 (nI j) w.2.1 w.2.2 = _
        rw [f_Model_findsOverflows_L117, if_pos (show ck 0 1002 = true from rfl), cx_n0, r0, if_neg (nI_ge hj (by omega)), m1 j (by omega), cx_ob, hw.1, cx_rk_s]
        by_cases z : S j / 2 ^ D = 0
        · have v : (cx_OV M D N Q R S).1 j = 0 ∧ (cx_OV M D N Q R S).2 j = 0 := hc.2 j hj z
          rw [if_pos z, if_pos rfl, if_pos z, f_Model_findsOverflows_J155, if_pos (ck_nI (by omega) (by decide)), if_pos rfl, f_Model_findsOverflows_J176, if_pos (ck_nI (by omega) (by decide)), if_pos rfl, nI_clamp (by omega), nI_1, v.1, v.2, Int32.add_zero]
          rfl
        · have hl : cx_rk D S j < cx_rk D S M := cx_rk_lt hj z
          have v : (cx_OV M D N Q R S).1 j = l2 (cx_rk D S j) ∧ (cx_OV M D N Q R S).2 j = u2 (cx_rk D S j) := by
            obtain ⟨v1, v2⟩ := hc.1 j hj z
            rw [(k4 _ hl).1, (k4 _ hl).2, (hc2 _ hl).1, (hc2 _ hl).2]
            exact ⟨v1.symm, v2.symm⟩
          rw [if_neg z, if_neg cx_i1, if_neg z, if_pos (ck_nI (by omega) (by decide)), f_Model_findsOverflows_J155, if_pos (ck_nI (by omega) (by decide)), if_neg cx_i1, if_pos (ck_nI (by omega) (by decide)), f_Model_findsOverflows_J176, if_pos (ck_nI (by omega) (by decide)), if_neg cx_i1, nI_clamp (show j < 2 ^ 31 by omega), nI_clamp (show cx_rk D S j < 2 ^ 31 by omega), nI_1, nI_1, v.1, v.2]) 200 0 (0, oL, oH) (by omega) (by omega) ⟨rfl, fun c hc => absurd hc (Nat.not_lt_zero c)⟩
  exact ⟨_, e5, hw.2⟩
/-! the flows -/
def cx_gF (D : Nat) (S : Nat → Nat) (ov : FJ) (c : Nat) : Int64 := (nI (S c % 2 ^ D)).toInt64 + (ov c <<< ((nI D).toInt64 &&& 63))
def cx_bF (M K : Nat) (ks : FI) (f : Nat) : Int32 := cx_pK M K (ks f).toNatClampNeg
def cx_FL (M D K N Q R F : Nat) (ks : FI) (S : Nat → Nat) (k : Nat) : FJ × FJ := cx_it F (cx_bF M K ks) (cx_gF D S (cx_OV M D N Q R S).1) (cx_gF D S (cx_OV M D N Q R S).2) (fun _ => 0) (fun f => cx_mi (cx_gF D S (cx_OV M D N Q R S).2) (cx_bF M K ks f) 24) k
def cx_FN (M D K N Q R F : Nat) (ks : FI) (S : Nat → Nat) (k : Nat) : Nat := cx_lr F (cx_bF M K ks) (cx_gF D S (cx_OV M D N Q R S).1) (cx_gF D S (cx_OV M D N Q R S).2) (fun _ => 0) (fun f => cx_mi (cx_gF D S (cx_OV M D N Q R S).2) (cx_bF M K ks f) 24) k
theorem cx_lr_eq {nt : Nat} {b b' : Nat → Int32} {le le' gr gr' lo lo' hi hi' : FJ} (hb : ∀ s, s < nt → b s = b' s) (hl : ∀ t, t < nt → ∀ p, p < 24 → cx_bt (b t) p = true → le p = le' p ∧ gr p = gr' p) (h1 : ∀ s, s < nt → lo s = lo' s) (h2 : ∀ s, s < nt → hi s = hi' s) : ∀ k, cx_lr nt b le gr lo hi k = cx_lr nt b' le' gr' lo' hi' k := by
  intro k
  induction k with
  | zero => rfl
  | succ k ih =>
    have c : cx_cg nt b le gr lo hi k = cx_cg nt b' le' gr' lo' hi' k := cx_df_eq fun t ht => ⟨(cx_it_eq hb hl h1 h2 k t ht).1, (cx_it_eq hb hl h1 h2 k t ht).2, (cx_it_eq hb hl h1 h2 (k + 1) t ht).1, (cx_it_eq hb hl h1 h2 (k + 1) t ht).2⟩
    rw [cx_lr, cx_lr, c, ih]
theorem cx_gF_lN {D h c : Nat} {S : Nat → Nat} {ov : FJ} (hD : D ≤ 8) (e : ov c = lN h) : cx_gF D S ov c = lN (S c % 2 ^ D + h * 2 ^ D) := by
  unfold cx_gF
  rw [e, cx_shlL _ (by omega), nI_l (by have := cx_2D hD (S c); omega), lN_add]
theorem cx_bF_ct {M K : Nat} {ks : FI} (hM : 2 ≤ M ∧ M ≤ 24) (hK : K ≤ 4) (f p : Nat) (hp : p ≤ 32) : cx_ct (cx_bF M K ks f) p ≤ 4 := Nat.le_trans (cx_pK_ct (by omega) hM.2 p hp) hK
/-- the sums at the counters, by their bounds -/
theorem cx_FL_ok {M D K N Q R F : Nat} {ks : FI} {T : FJ} (hM : 2 ≤ M ∧ M ≤ 24) (hD : D ≤ 8) (hN : 1 ≤ N ∧ N ≤ 16) (hQ : 1 ≤ Q) (hF : F ≤ 16) (hT : ∀ f, f < 16 → ∃ a, a ≤ 1000000000 ∧ T f = lN a) (hT0 : ∀ f, f < 16 → F ≤ f → T f = 0) :
    cx_OKs F (cx_bF M K ks) (fun f => (T f).toNatClampNeg) (2 ^ 50) (cx_gF D (cx_SS M K ks T) (cx_OV M D N Q R (cx_SS M K ks T)).1) (cx_gF D (cx_SS M K ks T) (cx_OV M D N Q R (cx_SS M K ks T)).2) := by
  have hS : ∀ c, c < 24 → cx_SS M K ks T c ≤ 2 ^ 34 := fun c _ => by
    have : cx_SS M K ks T c ≤ 16 * 1000000000 := cx_sm_b fun f hf => by
      obtain ⟨a, ha, e⟩ := hT f hf
      by_cases z : cx_bt (cx_pK M K (ks f).toNatClampNeg) c = true
      · rw [if_pos z, e, cx_lcl (by omega)]; exact ha
      · rw [if_neg z]; omega
    omega
  have h0 : ∀ c, c < 24 → M ≤ c → cx_SS M K ks T c = 0 := fun c hc h => cx_sm_z fun f _ => if_neg fun z => by
    have := cx_pK_lt (by omega) hM.2 (by omega) z
    omega
  have snd := cx_OV_snd (D := D) hM.2 hN hQ hS h0 R
  intro t ht p hp hb
  have hpM : p < M := cx_pK_lt (by omega) hM.2 (by omega) hb
  obtain ⟨l, u, e1, e2, h1, h2, h3⟩ := snd p hpM
  have hX : cx_X F (cx_bF M K ks) (fun f => (T f).toNatClampNeg) p = cx_SS M K ks T p := by
    unfold cx_X cx_SS cx_bF
    refine (cx_sm_ext hF (fun i h1 h2 => ?_)).symm
    dsimp only
    rw [hT0 i h2 h1]
    exact ite_self _
  have hp2 : 0 < 2 ^ D := Nat.two_pow_pos D
  have hd := Nat.div_add_mod' (cx_SS M K ks T p) (2 ^ D)
  have m1 : l * 2 ^ D ≤ cx_SS M K ks T p / 2 ^ D * 2 ^ D := Nat.mul_le_mul_right _ h1
  have m2 : cx_SS M K ks T p / 2 ^ D * 2 ^ D ≤ u * 2 ^ D := Nat.mul_le_mul_right _ h2
  have m3 : u * 2 ^ D ≤ 2 ^ 40 * 2 ^ 8 := Nat.mul_le_mul h3 (Nat.pow_le_pow_right (by decide) hD)
  have m4 := cx_2D hD (cx_SS M K ks T p)
  refine ⟨_, _, cx_gF_lN hD e1, cx_gF_lN hD e2, ?_, ?_, ?_⟩
  · rw [hX]; omega
  · rw [hX]; omega
  · omega
theorem cx_dec_f {M D K N Q R F k : Nat} {ks : FI} {S : Nat → Nat} {r m : FI} {n : FJ} {a1 a2 a3 a4 a5 a6 : FJ} {a7 : Nat → FI} {a8 : FI} {a9 : Int32} {b1 b2 b3 b4 b5 b6 : FJ} {b7 : Nat → FI} {b8 : FI} {b9 : Int32} (hM : 2 ≤ M ∧ M ≤ 24) (hD : D ≤ 8) (hK : K ≤ 4) (hN : 1 ≤ N ∧ N ≤ 16) (hQ : Q ≤ 3) (hR : R ≤ 60) (hF : F ≤ 16) (hk : k ≤ 60) (hks : ∀ f, f < F → ∃ x, x ≤ 999 ∧ ks f = nI x) (h : cx_SEM D N Q S r m n) :
    ∃ out : Int32 × FJ × FJ × FJ × FJ × FJ × FJ × (Nat → FI) × FI × Int32 × FJ × FJ × FJ × FJ × FJ × FJ × (Nat → FI) × FI × Int32, f_Decoder_decode_f 200 (nI k) a1 a2 a3 a4 a5 a6 a7 a8 a9 b1 b2 b3 b4 b5 b6 b7 b8 b9 (nI M) (nI D) (nI K) (nI N) (nI Q) (nI R) (nI F) ks r m n = some out ∧ out.1 = nI (cx_FN M D K N Q R F ks S k) ∧ out.2.2.2.2.2.2.2.2.2.2.2.2.2.2.2.2.2.2 = nI F ∧ ∀ f, f < F → out.2.2.2.2.2.2.2.2.2.2.2.2.2.2.1 f = (cx_FL M D K N Q R F ks S k).1 f ∧ out.2.2.2.2.2.2.2.2.2.2.2.2.2.2.2.1 f = (cx_FL M D K N Q R F ks S k).2 f := by
  obtain ⟨ov, e0, _, hov⟩ := cx_dO (R := R) (a1 := a1) (a2 := a2) (a3 := a3) (a4 := a4) (a5 := a5) (a6 := a6) (a7 := a7) (a8 := a8) (a9 := a9) hM.2 hN hQ hR h
  unfold f_Decoder_decode_f
  rw [e0, cx_ob]
  generalize hKK : (fun (i30 : Int32) (c31 c32 : FJ) => f_Decoder_decode_f_L112 200 c32 (nI M) (nI K) (nI F) ks (fun i57 c58 c59 c60 c61 c62 => (f_Bounds_narrow 200 (nI k) c31 c32 b3 b4 c58 c59 c60 c61 c62).bind (fun r63 => some (r63.1, ov.1, ov.2.1, ov.2.2.1, ov.2.2.2.1, ov.2.2.2.2.1, ov.2.2.2.2.2.1, ov.2.2.2.2.2.2.1, ov.2.2.2.2.2.2.2.1, ov.2.2.2.2.2.2.2.2, c31, c32, r63.2.1, r63.2.2.1, r63.2.2.2.1, r63.2.2.2.2, c60, c61, c62))) 200 0 b5 b6 b7 b8 0) = KK
  obtain ⟨g, hg, e⟩ := cx_lp (fun n j (s : FJ × FJ) => f_Decoder_decode_f_L23 ov.2.2.2.2.1 ov.2.2.2.2.2.1 (nI M) (nI D) r KK n (nI j) s.1 s.2) (fun s => KK (nI M) s.1 s.2) (fun j s => ∀ c, c < j → s.1 c = cx_gF D S (cx_OV M D N Q R S).1 c ∧ s.2 c = cx_gF D S (cx_OV M D N Q R S).2 c) M
    (fun n s _ => by
      show f_Decoder_decode_f_L23 _ _ (nI M) (nI D) r KK (n + 1) (nI M) s.1 s.2 = _
      rw [f_Decoder_decode_f_L23, if_pos (nI_le (Nat.le_refl _) (by omega))])
    (fun n j s hj hP => by
      refine ⟨(vp_updL s.1 j (cx_gF D S (cx_OV M D N Q R S).1 j), vp_updL s.2 j (cx_gF D S (cx_OV M D N Q R S).2 j)), fun c hc => ?_, ?_⟩
      · show vp_updL s.1 j _ c = _ ∧ vp_updL s.2 j _ c = _
        by_cases q : c = j
        · subst q; rw [pk_uLs, pk_uLs]; exact ⟨rfl, rfl⟩
        · rw [pk_uLn q, pk_uLn q]; exact hP c (by omega)
      · show f_Decoder_decode_f_L23 _ _ (nI M) (nI D) r KK (n + 1) (nI j) s.1 s.2 = _
        rw [f_Decoder_decode_f_L23, if_neg (nI_ge hj (by omega))]
        unfold f_Bounds_boundOf
        rw [if_pos rfl, if_neg cx_i1]
        simp (disch := omega) only [cx_ck, if_true, nI_clamp, cx_ob, nI_1]
        rw [(hov j hj).1, (hov j hj).2, (h.1 j (by omega)).1]
        rfl) 200 0 (b1, b2) (by omega) (by omega) (fun c hc => absurd hc (Nat.not_lt_zero c))
  have hgn : ∀ t, t < F → ∀ p, p < 24 → cx_bt (cx_bF M K ks t) p = true → g.1 p = cx_gF D S (cx_OV M D N Q R S).1 p ∧ g.2 p = cx_gF D S (cx_OV M D N Q R S).2 p := by
    intro t ht p hp hb
    exact hg p (cx_pK_lt (by omega) hM.2 (by omega) hb)
  generalize hK2 : (fun (i57 : Int32) (c58 c59 : FJ) (c60 : Nat → FI) (c61 : FI) (c62 : Int32) => (f_Bounds_narrow 200 (nI k) g.1 g.2 b3 b4 c58 c59 c60 c61 c62).bind (fun r63 => some (r63.1, ov.1, ov.2.1, ov.2.2.1, ov.2.2.2.1, ov.2.2.2.2.1, ov.2.2.2.2.2.1, ov.2.2.2.2.2.2.1, ov.2.2.2.2.2.2.2.1, ov.2.2.2.2.2.2.2.2, g.1, g.2, r63.2.1, r63.2.2.1, r63.2.2.2.1, r63.2.2.2.2, c60, c61, c62))) = K2
  obtain ⟨s, hP, e2⟩ := cx_lp (fun n j (s : FJ × FJ × (Nat → FI) × FI × Int32) => f_Decoder_decode_f_L112 200 g.2 (nI M) (nI K) (nI F) ks K2 n (nI j) s.1 s.2.1 s.2.2.1 s.2.2.2.1 s.2.2.2.2) (fun s => K2 (nI F) s.1 s.2.1 s.2.2.1 s.2.2.2.1 s.2.2.2.2)
    (fun j s => s.2.2.2.2 = nI j ∧ (∀ f, f < j → s.1 f = 0 ∧ s.2.1 f = cx_mi (cx_gF D S (cx_OV M D N Q R S).2) (cx_bF M K ks f) 24) ∧ cx_PL j (cx_bF M K ks) s.2.2.1 s.2.2.2.1) F
    (fun n s _ => by
      show f_Decoder_decode_f_L112 200 g.2 (nI M) (nI K) (nI F) ks K2 (n + 1) (nI F) _ _ _ _ _ = _
      rw [f_Decoder_decode_f_L112, if_pos (nI_le (Nat.le_refl _) (by omega))])
    (fun n j s hj hP => by
      obtain ⟨x, hx, ex⟩ := hks j hj
      have eb : cx_bF M K ks j = cx_pK M K x := by unfold cx_bF; rw [ex, nI_clamp (by omega)]
      obtain ⟨pl', f1, f2, f3⟩ := cx_append (m := cx_bF M K ks j) (start := 0) (g := g.2) (lo := s.1) (hi := s.2.1) (pl := s.2.2.1) (pc := s.2.2.2.1) (k := j) (by omega) (cx_bF_ct hM hK j 24 (by omega))
      refine ⟨(vp_updL s.1 j 0, vp_updL s.2.1 j (cx_mi g.2 (cx_bF M K ks j) 24), pl', upd s.2.2.2.1 j (nI (cx_ct (cx_bF M K ks j) 24)), nI (j + 1)), ⟨rfl, fun f hf => ?_, fun t ht => ?_⟩, ?_⟩
      · show vp_updL s.1 j _ f = _ ∧ vp_updL s.2.1 j _ f = _
        by_cases q : f = j
        · subst q
          rw [pk_uLs, pk_uLs]
          exact ⟨rfl, cx_mi_eq fun p hp hb => (hgn f hj p hp hb).2⟩
        · rw [pk_uLn q, pk_uLn q]; exact hP.2.1 f (by omega)
      · show upd s.2.2.2.1 j _ t = _ ∧ _ ∧ ∀ p, p < 24 → _ → pl' t _ = _
        refine ⟨?_, cx_bF_ct hM hK t 24 (by omega), fun p hp hb => ?_⟩
        · by_cases q : t = j
          · subst q; exact pk_us
          · rw [pk_un q]; exact (hP.2.2 t (by omega)).1
        · by_cases q : t = j
          · subst q; exact f2 p hp hb
          · rw [f3 t q]; exact (hP.2.2 t (by omega)).2.2 p hp hb
      · show f_Decoder_decode_f_L112 200 g.2 (nI M) (nI K) (nI F) ks K2 (n + 1) (nI j) _ _ _ _ _ = _
        rw [f_Decoder_decode_f_L112, if_neg (nI_ge hj (by omega)), if_pos (ck_nI (by omega) (by decide)), nI_clamp (by omega), ex, cx_plK hx hM hK, cx_ob, hP.1, ← eb, f1, cx_ob, nI_1]) 200 0 (b5, b6, b7, b8, 0) (by omega) (by omega) ⟨rfl, fun f hf => absurd hf (Nat.not_lt_zero f), fun t ht => absurd ht (Nat.not_lt_zero t)⟩
  obtain ⟨ls, us, l2, h2, k1, k2⟩ := cx_narrow (R := k) (le := g.1) (gr := g.2) (lo := s.1) (hi := s.2.1) (a1 := b3) (a2 := b4) hP.2.2 (by omega) hk
  have q0 := cx_it_eq (nt := F) (b := cx_bF M K ks) (b' := cx_bF M K ks) (le := g.1) (le' := cx_gF D S (cx_OV M D N Q R S).1) (gr := g.2) (gr' := cx_gF D S (cx_OV M D N Q R S).2) (lo := s.1) (lo' := fun _ => 0) (hi := s.2.1) (hi' := fun f => cx_mi (cx_gF D S (cx_OV M D N Q R S).2) (cx_bF M K ks f) 24) (fun _ _ => rfl) hgn (fun t ht => (hP.2.1 t ht).1) (fun t ht => (hP.2.1 t ht).2) k
  have q1 := cx_lr_eq (nt := F) (b := cx_bF M K ks) (b' := cx_bF M K ks) (le := g.1) (le' := cx_gF D S (cx_OV M D N Q R S).1) (gr := g.2) (gr' := cx_gF D S (cx_OV M D N Q R S).2) (lo := s.1) (lo' := fun _ => 0) (hi := s.2.1) (hi' := fun f => cx_mi (cx_gF D S (cx_OV M D N Q R S).2) (cx_bF M K ks f) 24) (fun _ _ => rfl) hgn (fun t ht => (hP.2.1 t ht).1) (fun t ht => (hP.2.1 t ht).2) k
  refine ⟨(nI (cx_lr F (cx_bF M K ks) g.1 g.2 s.1 s.2.1 k), ov.1, ov.2.1, ov.2.2.1, ov.2.2.2.1, ov.2.2.2.2.1, ov.2.2.2.2.2.1, ov.2.2.2.2.2.2.1, ov.2.2.2.2.2.2.2.1, ov.2.2.2.2.2.2.2.2, g.1, g.2, ls, us, l2, h2, s.2.2.1, s.2.2.2.1, nI F), e.trans ?_, congrArg nI q1, rfl, fun f hf => ⟨(k2 f hf).1.trans (q0 f hf).1, (k2 f hf).2.trans (q0 f hf).2⟩⟩
  rw [← hKK]
  show f_Decoder_decode_f_L112 200 g.2 (nI M) (nI K) (nI F) ks _ 200 0 b5 b6 b7 b8 0 = _
  rw [hK2]
  refine e2.trans ?_
  rw [← hK2]
  show (f_Bounds_narrow 200 (nI k) g.1 g.2 b3 b4 s.1 s.2.1 s.2.2.1 s.2.2.2.1 s.2.2.2.2).bind _ = _
  rw [hP.1, k1, cx_ob]
theorem cx_dec_s {M D K N Q R F k : Nat} {ks : FI} {S : Nat → Nat} {r m : FI} {n : FJ} {a1 a2 a3 a4 a5 a6 : FJ} {a7 : Nat → FI} {a8 : FI} {a9 : Int32} {b1 b2 b3 b4 b5 b6 : FJ} {b7 : Nat → FI} {b8 : FI} {b9 : Int32} (hM : 2 ≤ M ∧ M ≤ 24) (hD : D ≤ 8) (hK : K ≤ 4) (hN : 1 ≤ N ∧ N ≤ 16) (hQ : Q ≤ 3) (hR : R ≤ 60) (hF : F ≤ 16) (hk : k ≤ 60) (hks : ∀ f, f < F → ∃ x, x ≤ 999 ∧ ks f = nI x) (h : cx_SEM D N Q S r m n) :
    ∃ out : Int32 × FJ × FJ × FJ × FJ × FJ × FJ × (Nat → FI) × FI × Int32 × FJ × FJ × FJ × FJ × FJ × FJ × (Nat → FI) × FI × Int32, f_Decoder_decode_s 200 (nI k) a1 a2 a3 a4 a5 a6 a7 a8 a9 b1 b2 b3 b4 b5 b6 b7 b8 b9 (nI M) (nI D) (nI K) (nI N) (nI Q) (nI R) (nI F) ks r m n = some out ∧ out.1 = nI (cx_FN M D K N Q R F ks S k) ∧ out.2.2.2.2.2.2.2.2.2.2.2.2.2.2.2.2.2.2 = nI F ∧ ∀ f, f < F → out.2.2.2.2.2.2.2.2.2.2.2.2.2.2.1 f = (cx_FL M D K N Q R F ks S k).1 f ∧ out.2.2.2.2.2.2.2.2.2.2.2.2.2.2.2.1 f = (cx_FL M D K N Q R F ks S k).2 f := by
  obtain ⟨ov, e0, _, hov⟩ := cx_dO (R := R) (a1 := a1) (a2 := a2) (a3 := a3) (a4 := a4) (a5 := a5) (a6 := a6) (a7 := a7) (a8 := a8) (a9 := a9) hM.2 hN hQ hR h
  unfold f_Decoder_decode_s
  rw [e0, cx_ob]
  generalize hKK : (fun (i30 : Int32) (c31 c32 : FJ) => f_Decoder_decode_s_L112 200 c32 (nI M) (nI K) (nI F) ks (fun i57 c58 c59 c60 c61 c62 => (f_Bounds_narrow 200 (nI k) c31 c32 b3 b4 c58 c59 c60 c61 c62).bind (fun r63 => some (r63.1, ov.1, ov.2.1, ov.2.2.1, ov.2.2.2.1, ov.2.2.2.2.1, ov.2.2.2.2.2.1, ov.2.2.2.2.2.2.1, ov.2.2.2.2.2.2.2.1, ov.2.2.2.2.2.2.2.2, c31, c32, r63.2.1, r63.2.2.1, r63.2.2.2.1, r63.2.2.2.2, c60, c61, c62))) 200 0 b5 b6 b7 b8 0) = KK
  obtain ⟨g, hg, e⟩ := cx_lp (fun n j (s : FJ × FJ) => f_Decoder_decode_s_L23 ov.2.2.2.2.1 ov.2.2.2.2.2.1 (nI M) (nI D) r KK n (nI j) s.1 s.2) (fun s => KK (nI M) s.1 s.2) (fun j s => ∀ c, c < j → s.1 c = cx_gF D S (cx_OV M D N Q R S).1 c ∧ s.2 c = cx_gF D S (cx_OV M D N Q R S).2 c) M
    (fun n s _ => by
      show f_Decoder_decode_s_L23 _ _ (nI M) (nI D) r KK (n + 1) (nI M) s.1 s.2 = _
      rw [f_Decoder_decode_s_L23, if_pos (nI_le (Nat.le_refl _) (by omega))])
    (fun n j s hj hP => by
      refine ⟨(vp_updL s.1 j (cx_gF D S (cx_OV M D N Q R S).1 j), vp_updL s.2 j (cx_gF D S (cx_OV M D N Q R S).2 j)), fun c hc => ?_, ?_⟩
      · show vp_updL s.1 j _ c = _ ∧ vp_updL s.2 j _ c = _
        by_cases q : c = j
        · subst q; rw [pk_uLs, pk_uLs]; exact ⟨rfl, rfl⟩
        · rw [pk_uLn q, pk_uLn q]; exact hP c (by omega)
      · show f_Decoder_decode_s_L23 _ _ (nI M) (nI D) r KK (n + 1) (nI j) s.1 s.2 = _
        rw [f_Decoder_decode_s_L23, if_neg (nI_ge hj (by omega))]
        unfold f_Bounds_boundOf
        rw [if_pos rfl, if_neg cx_i1]
        simp (disch := omega) only [cx_ck, if_true, nI_clamp, cx_ob, nI_1]
        rw [(hov j hj).1, (hov j hj).2, (h.1 j (by omega)).1]
        rfl) 200 0 (b1, b2) (by omega) (by omega) (fun c hc => absurd hc (Nat.not_lt_zero c))
  have hgn : ∀ t, t < F → ∀ p, p < 24 → cx_bt (cx_bF M K ks t) p = true → g.1 p = cx_gF D S (cx_OV M D N Q R S).1 p ∧ g.2 p = cx_gF D S (cx_OV M D N Q R S).2 p := by
    intro t ht p hp hb
    exact hg p (cx_pK_lt (by omega) hM.2 (by omega) hb)
  generalize hK2 : (fun (i57 : Int32) (c58 c59 : FJ) (c60 : Nat → FI) (c61 : FI) (c62 : Int32) => (f_Bounds_narrow 200 (nI k) g.1 g.2 b3 b4 c58 c59 c60 c61 c62).bind (fun r63 => some (r63.1, ov.1, ov.2.1, ov.2.2.1, ov.2.2.2.1, ov.2.2.2.2.1, ov.2.2.2.2.2.1, ov.2.2.2.2.2.2.1, ov.2.2.2.2.2.2.2.1, ov.2.2.2.2.2.2.2.2, g.1, g.2, r63.2.1, r63.2.2.1, r63.2.2.2.1, r63.2.2.2.2, c60, c61, c62))) = K2
  obtain ⟨s, hP, e2⟩ := cx_lp (fun n j (s : FJ × FJ × (Nat → FI) × FI × Int32) => f_Decoder_decode_s_L112 200 g.2 (nI M) (nI K) (nI F) ks K2 n (nI j) s.1 s.2.1 s.2.2.1 s.2.2.2.1 s.2.2.2.2) (fun s => K2 (nI F) s.1 s.2.1 s.2.2.1 s.2.2.2.1 s.2.2.2.2)
    (fun j s => s.2.2.2.2 = nI j ∧ (∀ f, f < j → s.1 f = 0 ∧ s.2.1 f = cx_mi (cx_gF D S (cx_OV M D N Q R S).2) (cx_bF M K ks f) 24) ∧ cx_PL j (cx_bF M K ks) s.2.2.1 s.2.2.2.1) F
    (fun n s _ => by
      show f_Decoder_decode_s_L112 200 g.2 (nI M) (nI K) (nI F) ks K2 (n + 1) (nI F) _ _ _ _ _ = _
      rw [f_Decoder_decode_s_L112, if_pos (nI_le (Nat.le_refl _) (by omega))])
    (fun n j s hj hP => by
      obtain ⟨x, hx, ex⟩ := hks j hj
      have eb : cx_bF M K ks j = cx_pK M K x := by unfold cx_bF; rw [ex, nI_clamp (by omega)]
      obtain ⟨pl', f1, f2, f3⟩ := cx_append (m := cx_bF M K ks j) (start := 0) (g := g.2) (lo := s.1) (hi := s.2.1) (pl := s.2.2.1) (pc := s.2.2.2.1) (k := j) (by omega) (cx_bF_ct hM hK j 24 (by omega))
      refine ⟨(vp_updL s.1 j 0, vp_updL s.2.1 j (cx_mi g.2 (cx_bF M K ks j) 24), pl', upd s.2.2.2.1 j (nI (cx_ct (cx_bF M K ks j) 24)), nI (j + 1)), ⟨rfl, fun f hf => ?_, fun t ht => ?_⟩, ?_⟩
      · show vp_updL s.1 j _ f = _ ∧ vp_updL s.2.1 j _ f = _
        by_cases q : f = j
        · subst q
          rw [pk_uLs, pk_uLs]
          exact ⟨rfl, cx_mi_eq fun p hp hb => (hgn f hj p hp hb).2⟩
        · rw [pk_uLn q, pk_uLn q]; exact hP.2.1 f (by omega)
      · show upd s.2.2.2.1 j _ t = _ ∧ _ ∧ ∀ p, p < 24 → _ → pl' t _ = _
        refine ⟨?_, cx_bF_ct hM hK t 24 (by omega), fun p hp hb => ?_⟩
        · by_cases q : t = j
          · subst q; exact pk_us
          · rw [pk_un q]; exact (hP.2.2 t (by omega)).1
        · by_cases q : t = j
          · subst q; exact f2 p hp hb
          · rw [f3 t q]; exact (hP.2.2 t (by omega)).2.2 p hp hb
      · show f_Decoder_decode_s_L112 200 g.2 (nI M) (nI K) (nI F) ks K2 (n + 1) (nI j) _ _ _ _ _ = _
        rw [f_Decoder_decode_s_L112, if_neg (nI_ge hj (by omega)), if_pos (ck_nI (by omega) (by decide)), nI_clamp (by omega), ex, cx_plK hx hM hK, cx_ob, hP.1, ← eb, f1, cx_ob, nI_1]) 200 0 (b5, b6, b7, b8, 0) (by omega) (by omega) ⟨rfl, fun f hf => absurd hf (Nat.not_lt_zero f), fun t ht => absurd ht (Nat.not_lt_zero t)⟩
  obtain ⟨ls, us, l2, h2, k1, k2⟩ := cx_narrow (R := k) (le := g.1) (gr := g.2) (lo := s.1) (hi := s.2.1) (a1 := b3) (a2 := b4) hP.2.2 (by omega) hk
  have q0 := cx_it_eq (nt := F) (b := cx_bF M K ks) (b' := cx_bF M K ks) (le := g.1) (le' := cx_gF D S (cx_OV M D N Q R S).1) (gr := g.2) (gr' := cx_gF D S (cx_OV M D N Q R S).2) (lo := s.1) (lo' := fun _ => 0) (hi := s.2.1) (hi' := fun f => cx_mi (cx_gF D S (cx_OV M D N Q R S).2) (cx_bF M K ks f) 24) (fun _ _ => rfl) hgn (fun t ht => (hP.2.1 t ht).1) (fun t ht => (hP.2.1 t ht).2) k
  have q1 := cx_lr_eq (nt := F) (b := cx_bF M K ks) (b' := cx_bF M K ks) (le := g.1) (le' := cx_gF D S (cx_OV M D N Q R S).1) (gr := g.2) (gr' := cx_gF D S (cx_OV M D N Q R S).2) (lo := s.1) (lo' := fun _ => 0) (hi := s.2.1) (hi' := fun f => cx_mi (cx_gF D S (cx_OV M D N Q R S).2) (cx_bF M K ks f) 24) (fun _ _ => rfl) hgn (fun t ht => (hP.2.1 t ht).1) (fun t ht => (hP.2.1 t ht).2) k
  refine ⟨(nI (cx_lr F (cx_bF M K ks) g.1 g.2 s.1 s.2.1 k), ov.1, ov.2.1, ov.2.2.1, ov.2.2.2.1, ov.2.2.2.2.1, ov.2.2.2.2.2.1, ov.2.2.2.2.2.2.1, ov.2.2.2.2.2.2.2.1, ov.2.2.2.2.2.2.2.2, g.1, g.2, ls, us, l2, h2, s.2.2.1, s.2.2.2.1, nI F), e.trans ?_, congrArg nI q1, rfl, fun f hf => ⟨(k2 f hf).1.trans (q0 f hf).1, (k2 f hf).2.trans (q0 f hf).2⟩⟩
  rw [← hKK]
  show f_Decoder_decode_s_L112 200 g.2 (nI M) (nI K) (nI F) ks _ 200 0 b5 b6 b7 b8 0 = _
  rw [hK2]
  refine e2.trans ?_
  rw [← hK2]
  show (f_Bounds_narrow 200 (nI k) g.1 g.2 b3 b4 s.1 s.2.1 s.2.2.1 s.2.2.2.1 s.2.2.2.2).bind _ = _
  rw [hP.1, k1, cx_ob]
