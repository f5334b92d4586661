theorem cx_SS34 {M K : Nat} {ks : FI} {T : FJ} (hT : ∀ f, f < 16 → ∃ a, a ≤ 1000000000 ∧ T f = lN a) : ∀ c, c < 24 → cx_SS M K ks T c ≤ 2 ^ 34 := fun c _ => by
  have : cx_SS M K ks T c ≤ 16 * 1000000000 := cx_sm_b fun f hf => by
    obtain ⟨a, ha, e⟩ := hT f hf
    by_cases z : cx_bt (cx_pK M K (ks f).toNatClampNeg) c = true
    · rw [if_pos z, e, cx_lcl (by omega)]; exact ha
    · rw [if_neg z]; omega
  omega
theorem cx_mF {M D K N Q R F k b : Nat} {ks : FI} {T : FJ} {row : FI} {num : FJ} {pl : FI} {lo hi lB hB le gr : FJ} {th ch : Int32} {oL oH : FJ} (hb : b ≤ 2) (hM : 2 ≤ M ∧ M ≤ 24) (hD : 1 ≤ D ∧ D ≤ 8) (hK : 1 ≤ K ∧ K ≤ 4) (hN : 1 ≤ N ∧ N ≤ 16) (hQ : 1 ≤ Q ∧ Q ≤ 3) (hR : R ≤ 60) (hF : F ≤ 16) (hk : k ≤ 60) (r0 : row 0 = nI M) (r1 : row 1 = nI D) (r2 : row 2 = nI K) (r3 : row 3 = nI N) (r4 : row 4 = nI Q) (r5 : row 5 = nI R) (r6 : row 6 = nI F)
    (hks : ∀ f, f < F → ∃ x, x ≤ 999 ∧ ks f = nI x ∧ row (7 + f) = nI x) (hT : ∀ f, f < 16 → ∃ a, a ≤ 1000000000 ∧ T f = lN a) (hT0 : ∀ f, f < 16 → F ≤ f → T f = 0) (h : cx_SEM D N Q (cx_SS M K ks T) (cx_vr b row) (cx_vm b row) (cx_vn b num)) :
    ∃ out : FI × FJ × FJ × FJ × FJ × FJ × FJ × Int32 × Int32 × FJ × FJ, f_Model_findsFlows 200 (nI b) (nI k) row num pl lo hi lB hB le gr th ch oL oH = some out ∧ out.2.2.2.2.2.2.2.2.1 = nI (cx_FN M D K N Q R F ks (cx_SS M K ks T) k) ∧ ∀ f, f < F → out.2.1 f = (cx_FL M D K N Q R F ks (cx_SS M K ks T) k).1 f ∧ out.2.2.1 f = (cx_FL M D K N Q R F ks (cx_SS M K ks T) k).2 f := by
  obtain ⟨ov, e0, hov⟩ := cx_mO (pl := pl) (lo := lo) (hi := hi) (lB := lB) (hB := hB) (le := le) (gr := gr) (th := th) (ch := ch) (oL := oL) (oH := oH) hb hM.2 hN hQ hR (cx_SS34 hT) r0 r3 r4 r5 h
  have ok := cx_FL_ok (R := R) (K := K) (ks := ks) hM hD.2 hN hQ.1 hF hT hT0
  unfold f_Model_findsFlows
  rw [e0, cx_ob]
  generalize hKK : (fun (i24 : Int32) (c25 c26 : FJ) => if ck 6 1002 = true then f_Model_findsFlows_L90 200 (row (6 : Int32).toNatClampNeg) row (fun i45 c46 => (f_Model_begins 200 0 c46 ov.2.1 ov.2.2.1 c26 (row (6 : Int32).toNatClampNeg)).bind (fun r47 => (f_Model_rounds 200 (nI k) c46 r47.1 r47.2 ov.2.2.2.1 ov.2.2.2.2.1 c25 c26 (row (6 : Int32).toNatClampNeg) ov.2.2.2.2.2.2.2.2.1).bind (fun r48 => some (c46, r48.1, r48.2.1, r48.2.2.1, r48.2.2.2.1, c25, c26, (row (6 : Int32).toNatClampNeg), r48.2.2.2.2, ov.2.2.2.2.2.2.2.2.2.1, ov.2.2.2.2.2.2.2.2.2.2)))) 200 0 ov.1 else none) = KK
  obtain ⟨g, hg, e⟩ := cx_lp (fun n j (s : FJ × FJ) => f_Model_findsFlows_L7 (nI b) ov.2.2.2.2.2.2.2.2.2.1 ov.2.2.2.2.2.2.2.2.2.2 row KK n (nI j) s.1 s.2) (fun s => KK (nI M) s.1 s.2) (fun j s => ∀ c, c < j → s.1 c = cx_gF D (cx_SS M K ks T) (cx_OV M D N Q R (cx_SS M K ks T)).1 c ∧ s.2 c = cx_gF D (cx_SS M K ks T) (cx_OV M D N Q R (cx_SS M K ks T)).2 c) M
    (fun n s _ => by
      show f_Model_findsFlows_L7 (nI b) _ _ row KK (n + 1) (nI M) s.1 s.2 = _
      rw [f_Model_findsFlows_L7, if_pos (show ck 0 1002 = true from rfl), cx_n0, r0, if_pos (nI_le (Nat.le_refl _) (by omega))])
    (fun n j s hj hP => by
      refine ⟨(vp_updL s.1 j (cx_gF D (cx_SS M K ks T) (cx_OV M D N Q R (cx_SS M K ks T)).1 j), vp_updL s.2 j (cx_gF D (cx_SS M K ks T) (cx_OV M D N Q R (cx_SS M K ks T)).2 j)), fun c hc => ?_, ?_⟩
      · show vp_updL s.1 j _ c = _ ∧ vp_updL s.2 j _ c = _
        by_cases q : c = j
        · subst q; rw [pk_uLs, pk_uLs]; exact ⟨rfl, rfl⟩
        · rw [pk_uLn q, pk_uLn q]; exact hP c (by omega)
      · show f_Model_findsFlows_L7 (nI b) _ _ row KK (n + 1) (nI j) s.1 s.2 = _
        rw [f_Model_findsFlows_L7, if_pos (show ck 0 1002 = true from rfl), cx_n0, r0, if_neg (nI_ge hj (by omega)), cx_restAt hb (by omega), cx_ob]
        simp (disch := omega) only [cx_ck, if_true, nI_clamp, cx_ob, nI_1, cx_c1, cx_n1, r1]
        rw [(hov j hj).1, (hov j hj).2, (h.1 j (by omega)).1]
        rfl) 200 0 (ov.2.2.2.2.2.1, ov.2.2.2.2.2.2.1) (by omega) (by omega) (fun c hc => absurd hc (Nat.not_lt_zero c))
  have hgn : ∀ t, t < F → ∀ p, p < 24 → cx_bt (cx_bF M K ks t) p = true → g.1 p = cx_gF D (cx_SS M K ks T) (cx_OV M D N Q R (cx_SS M K ks T)).1 p ∧ g.2 p = cx_gF D (cx_SS M K ks T) (cx_OV M D N Q R (cx_SS M K ks T)).2 p :=
    fun t ht p hp hbt => hg p (cx_pK_lt (by omega) hM.2 (by omega) hbt)
  generalize hK2 : (fun (i45 : Int32) (c46 : FI) => (f_Model_begins 200 0 c46 ov.2.1 ov.2.2.1 g.2 (nI F)).bind (fun r47 => (f_Model_rounds 200 (nI k) c46 r47.1 r47.2 ov.2.2.2.1 ov.2.2.2.2.1 g.1 g.2 (nI F) ov.2.2.2.2.2.2.2.2.1).bind (fun r48 => some (c46, r48.1, r48.2.1, r48.2.2.1, r48.2.2.2.1, g.1, g.2, nI F, r48.2.2.2.2, ov.2.2.2.2.2.2.2.2.2.1, ov.2.2.2.2.2.2.2.2.2.2)))) = K2
  obtain ⟨pl', hpl, e2⟩ := cx_lp (fun n j (s : FI) => f_Model_findsFlows_L90 200 (nI F) row K2 n (nI j) s) (fun s => K2 (nI F) s) (fun j s => ∀ f, f < j → s f = cx_bF M K ks f) F
    (fun n s _ => by
      show f_Model_findsFlows_L90 200 (nI F) row K2 (n + 1) (nI F) s = _
      rw [f_Model_findsFlows_L90, if_pos (nI_le (Nat.le_refl _) (by omega))])
    (fun n j s hj hP => by
      obtain ⟨x, hx, e3, e4⟩ := hks j hj
      have eb : cx_bF M K ks j = cx_pK M K x := by unfold cx_bF; rw [e3, nI_clamp (by omega)]
      refine ⟨upd s j (cx_bF M K ks j), fun f hf => ?_, ?_⟩
      · by_cases q : f = j
        · subst q; exact pk_us
        · rw [pk_un q]; exact hP f (by omega)
      · show f_Model_findsFlows_L90 200 (nI F) row K2 (n + 1) (nI j) s = _
        rw [f_Model_findsFlows_L90, if_neg (nI_ge hj (by omega)), cx_p7, if_pos (ck_nI (by omega) (by decide)), nI_clamp (by omega), e4, cx_pmK r0 r2 hx hM hK.2, cx_ob, if_pos (ck_nI (by omega) (by decide)), nI_clamp (by omega), nI_1, eb]) 200 0 ov.1 (by omega) (by omega) (fun f hf => absurd hf (Nat.not_lt_zero f))
  obtain ⟨l1, u1, e5, k5⟩ := cx_begins (nt := F) (b := cx_bF M K ks) (pl := pl') (gr := g.2) (lo := ov.2.1) (hi := ov.2.2.1) (start := 0) (by omega) hpl (fun t ht p hp hbt => by
    obtain ⟨L, G, _, g2, _, _, g5⟩ := ok t ht p hp hbt
    exact ⟨G, (hgn t ht p hp hbt).2.trans g2, g5⟩) (fun t ht => by
    obtain ⟨q, q1, q2⟩ := cx_pK_ex (M := M) (K := K) (x := (ks t).toNatClampNeg) (by omega) hM.2 hK.1
    exact cx_ct_pos q2 (by omega))
  obtain ⟨l2, u2, lB', hB', e6, k6⟩ := cx_mrounds (nt := F) (R := k) (b := cx_bF M K ks) (pl := pl') (le := g.1) (gr := g.2) (lo := l1) (hi := u1) (lB := ov.2.2.2.1) (hB := ov.2.2.2.2.1) (ch := ov.2.2.2.2.2.2.2.2.1) (by omega) hk hpl
  have hmi : ∀ t, t < F → u1 t = cx_mi (cx_gF D (cx_SS M K ks T) (cx_OV M D N Q R (cx_SS M K ks T)).2) (cx_bF M K ks t) 24 := fun t ht => (k5 t ht).2.trans (cx_mi_eq fun p hp hbt => (hgn t ht p hp hbt).2)
  have q0 := cx_it_eq (nt := F) (b := cx_bF M K ks) (b' := cx_bF M K ks) (le := g.1) (gr := g.2) (lo := l1) (lo' := fun _ => 0) (hi := u1) (hi' := fun f => cx_mi (cx_gF D (cx_SS M K ks T) (cx_OV M D N Q R (cx_SS M K ks T)).2) (cx_bF M K ks f) 24) (fun _ _ => rfl) hgn (fun t ht => (k5 t ht).1) hmi k
  have q1 := cx_lr_eq (nt := F) (b := cx_bF M K ks) (b' := cx_bF M K ks) (le := g.1) (gr := g.2) (lo := l1) (lo' := fun _ => 0) (hi := u1) (hi' := fun f => cx_mi (cx_gF D (cx_SS M K ks T) (cx_OV M D N Q R (cx_SS M K ks T)).2) (cx_bF M K ks f) 24) (fun _ _ => rfl) hgn (fun t ht => (k5 t ht).1) hmi k
  refine ⟨(pl', l2, u2, lB', hB', g.1, g.2, nI F, nI (cx_lr F (cx_bF M K ks) g.1 g.2 l1 u1 k), ov.2.2.2.2.2.2.2.2.2.1, ov.2.2.2.2.2.2.2.2.2.2), e.trans ?_, congrArg nI q1, fun f hf => ⟨(k6 f hf).1.trans (q0 f hf).1, (k6 f hf).2.trans (q0 f hf).2⟩⟩
  rw [← hKK]
  show (if ck 6 1002 = true then f_Model_findsFlows_L90 200 (row (6 : Int32).toNatClampNeg) row _ 200 0 ov.1 else none) = _
  rw [if_pos (show ck 6 1002 = true from rfl), cx_n6, r6, hK2]
  refine e2.trans ?_
  rw [← hK2]
  show (f_Model_begins 200 0 pl' ov.2.1 ov.2.2.1 g.2 (nI F)).bind _ = _
  rw [e5, cx_ob, e6, cx_ob]
/-- the flows' true counts lie between their bounds -/
theorem cx_FL_snd {M D K N Q R F k : Nat} {ks : FI} {T : FJ} (hM : 2 ≤ M ∧ M ≤ 24) (hD : D ≤ 8) (hK : 1 ≤ K) (hN : 1 ≤ N ∧ N ≤ 16) (hQ : 1 ≤ Q) (hF : F ≤ 16) (hT : ∀ f, f < 16 → ∃ a, a ≤ 1000000000 ∧ T f = lN a) (hT0 : ∀ f, f < 16 → F ≤ f → T f = 0) : cx_IV F (fun f => (T f).toNatClampNeg) (2 ^ 50) (cx_FL M D K N Q R F ks (cx_SS M K ks T) k).1 (cx_FL M D K N Q R F ks (cx_SS M K ks T) k).2 := by
  have ok := cx_FL_ok (R := R) (K := K) (ks := ks) hM hD hN hQ hF hT hT0
  refine cx_snd_it (by omega) (by omega) ok (fun t ht => ?_) k
  obtain ⟨q, q1, q2⟩ := cx_pK_ex (M := M) (K := K) (x := (ks t).toNatClampNeg) (by omega) hM.2 hK
  obtain ⟨u, u1, u2, u3⟩ := cx_mi_b (g := cx_gF D (cx_SS M K ks T) (cx_OV M D N Q R (cx_SS M K ks T)).2) (m := cx_bF M K ks t) (x := (T t).toNatClampNeg) (B := 2 ^ 50) 24 (fun p hp hb => by
    obtain ⟨L, G, _, g2, _, g4, g5⟩ := ok t ht p hp hb
    have := cx_X_so (g := fun f => (T f).toNatClampNeg) ht hb
    have h2 : (T t).toNatClampNeg ≤ cx_X F (cx_bF M K ks) (fun f => (T f).toNatClampNeg) p := by omega
    exact ⟨G, g2, by omega, g5⟩) (cx_ct_pos q2 (by omega))
  exact ⟨0, u, rfl, u1, Nat.zero_le _, u2, u3⟩
/-! the questions over bounds: masks, sums, the widest -/
def cx_cm (lo hi : FJ) : Nat → Int32
  | 0 => 0
  | n + 1 => if lo n = hi n then cx_cm lo hi n ||| (1 <<< (nI n &&& 31)) else cx_cm lo hi n
theorem cx_cm_eq {lo hi lo' hi' : FJ} : ∀ {n : Nat}, (∀ t, t < n → lo t = lo' t ∧ hi t = hi' t) → cx_cm lo hi n = cx_cm lo' hi' n := by
  intro n
  induction n with
  | zero => intro _; rfl
  | succ n ih =>
    intro e
    rw [cx_cm, cx_cm, ih (fun t ht => e t (by omega)), (e n (by omega)).1, (e n (by omega)).2]
theorem cx_or0 (x : Int32) : x ||| 0 = x := cx_ext fun i _ => by rw [cx_or, cx_b0, Bool.or_false]
theorem cx_cT {nt : Nat} {lo hi : FJ} (hnt : nt ≤ 24) : f_Bounds_certainThings 200 lo hi (nI nt) = some (cx_cm lo hi nt) := by
  unfold f_Bounds_certainThings
  refine cx_lf (fun n j (s : Int32) => f_Bounds_certainThings_L4 lo hi (nI nt) (fun i3 i4 => some i3) n s (nI j)) (fun s => some s) (fun j => cx_cm lo hi j) nt (fun n => ?_) (fun n j hj => ?_) 200 0 (by omega) (by omega)
  · show f_Bounds_certainThings_L4 lo hi (nI nt) _ (n + 1) _ (nI nt) = _
    rw [f_Bounds_certainThings_L4, if_pos (nI_le (Nat.le_refl _) (by omega))]
  · show f_Bounds_certainThings_L4 lo hi (nI nt) _ (n + 1) _ (nI j) = f_Bounds_certainThings_L4 lo hi (nI nt) _ n _ (nI (j + 1))
    rw [f_Bounds_certainThings_L4, if_neg (nI_ge hj (by omega)), if_pos (ck_nI (by omega) (by decide)), if_pos (ck_nI (by omega) (by decide)), nI_clamp (by omega), nI_1, cx_cm]
    by_cases z : lo j = hi j
    · rw [if_pos z, if_pos z]
    · rw [if_neg z, if_neg z]
theorem cx_mcF {F : Nat} {row : FI} {lo hi : FJ} {K : Int32 → Int32 → Option (Int32 × FI × FJ × FJ × FJ × FJ × FJ × FJ × Int32 × Int32 × FJ × FJ)} (hF : F ≤ 24) (r6 : row 6 = nI F) : f_Model_certainOf_L15 lo hi row K 200 0 0 = K (cx_cm lo hi F) (nI F) := by
  refine cx_lf (fun n j (s : Int32) => f_Model_certainOf_L15 lo hi row K n s (nI j)) (fun s => K s (nI F)) (fun j => cx_cm lo hi j) F (fun n => ?_) (fun n j hj => ?_) 200 0 (by omega) (by omega)
  · show f_Model_certainOf_L15 lo hi row K (n + 1) _ (nI F) = _
    rw [f_Model_certainOf_L15, if_pos (show ck 6 1002 = true from rfl), cx_n6, r6, if_pos (nI_le (Nat.le_refl _) (by omega))]
  · show f_Model_certainOf_L15 lo hi row K (n + 1) _ (nI j) = f_Model_certainOf_L15 lo hi row K n _ (nI (j + 1))
    rw [f_Model_certainOf_L15, if_pos (show ck 6 1002 = true from rfl), cx_n6, r6, if_neg (nI_ge hj (by omega)), if_pos (ck_nI (by omega) (by decide)), if_pos (ck_nI (by omega) (by decide)), nI_clamp (by omega), nI_1, cx_cm, cx_or0]
    by_cases z : lo j = hi j
    · rw [if_pos z, if_pos z]
    · rw [if_neg z, if_neg z]
theorem cx_mcO {M : Nat} {row : FI} {lo hi : FJ} {K : Int32 → Int32 → Option (Int32 × FI × FJ × FJ × FJ × FJ × FJ × FJ × Int32 × Int32 × FJ × FJ)} (hM : M ≤ 24) (r0 : row 0 = nI M) : f_Model_certainOverflows_L19 lo hi row K 200 0 0 = K (cx_cm lo hi M) (nI M) := by
  refine cx_lf (fun n j (s : Int32) => f_Model_certainOverflows_L19 lo hi row K n s (nI j)) (fun s => K s (nI M)) (fun j => cx_cm lo hi j) M (fun n => ?_) (fun n j hj => ?_) 200 0 (by omega) (by omega)
  · show f_Model_certainOverflows_L19 lo hi row K (n + 1) _ (nI M) = _
    rw [f_Model_certainOverflows_L19, if_pos (show ck 0 1002 = true from rfl), cx_n0, r0, if_pos (nI_le (Nat.le_refl _) (by omega))]
  · show f_Model_certainOverflows_L19 lo hi row K (n + 1) _ (nI j) = f_Model_certainOverflows_L19 lo hi row K n _ (nI (j + 1))
    rw [f_Model_certainOverflows_L19, if_pos (show ck 0 1002 = true from rfl), cx_n0, r0, if_neg (nI_ge hj (by omega)), if_pos (ck_nI (by omega) (by decide)), if_pos (ck_nI (by omega) (by decide)), nI_clamp (by omega), nI_1, cx_cm, cx_or0]
    by_cases z : lo j = hi j
    · rw [if_pos z, if_pos z]
    · rw [if_neg z, if_neg z]
/-- the thing whose bounds are farthest apart, and how far -/
def cx_wd (lo hi : FJ) : Nat → Int32 × Int64
  | 0 => (-1, 0)
  | n + 1 => if hi n - lo n ≤ (cx_wd lo hi n).2 then cx_wd lo hi n else (nI n, hi n - lo n)
theorem cx_wd_eq {lo hi lo' hi' : FJ} : ∀ {n : Nat}, (∀ t, t < n → lo t = lo' t ∧ hi t = hi' t) → cx_wd lo hi n = cx_wd lo' hi' n := by
  intro n
  induction n with
  | zero => intro _; rfl
  | succ n ih =>
    intro e
    rw [cx_wd, cx_wd, ih (fun t ht => e t (by omega)), (e n (by omega)).1, (e n (by omega)).2]
theorem cx_wT {nt : Nat} {lo hi : FJ} (hnt : nt ≤ 24) : f_Bounds_widestThing 200 lo hi (nI nt) = some (cx_wd lo hi nt).1 := by
  unfold f_Bounds_widestThing
  refine cx_lf (fun n j (s : Int32 × Int64) => f_Bounds_widestThing_L7 lo hi (nI nt) (fun i4 i5 i6 => some i4) n s.1 s.2 (nI j)) (fun s => some s.1) (fun j => cx_wd lo hi j) nt (fun n => ?_) (fun n j hj => ?_) 200 0 (by omega) (by omega)
  · show f_Bounds_widestThing_L7 lo hi (nI nt) _ (n + 1) _ _ (nI nt) = _
    rw [f_Bounds_widestThing_L7, if_pos (nI_le (Nat.le_refl _) (by omega))]
  · show f_Bounds_widestThing_L7 lo hi (nI nt) _ (n + 1) _ _ (nI j) = f_Bounds_widestThing_L7 lo hi (nI nt) _ n _ _ (nI (j + 1))
    rw [f_Bounds_widestThing_L7, if_neg (nI_ge hj (by omega))]
    simp (disch := omega) only [cx_ck, if_true, nI_clamp, nI_1]
    rw [cx_wd]
    by_cases z : hi j - lo j ≤ (cx_wd lo hi j).2
    · rw [if_pos z, if_pos z]
    · rw [if_neg z, if_neg z]
theorem cx_mw {F : Nat} {row : FI} {lo hi : FJ} {K : Int32 → Int64 → Int32 → Option (Int32 × FI × FJ × FJ × FJ × FJ × FJ × FJ × Int32 × Int32 × FJ × FJ)} (hF : F ≤ 24) (r6 : row 6 = nI F) : f_Model_widest_L28 lo hi row K 200 (-1) 0 0 = K (cx_wd lo hi F).1 (cx_wd lo hi F).2 (nI F) := by
  refine cx_lf (fun n j (s : Int32 × Int64) => f_Model_widest_L28 lo hi row K n s.1 s.2 (nI j)) (fun s => K s.1 s.2 (nI F)) (fun j => cx_wd lo hi j) F (fun n => ?_) (fun n j hj => ?_) 200 0 (by omega) (by omega)
  · show f_Model_widest_L28 lo hi row K (n + 1) _ _ (nI F) = _
    rw [f_Model_widest_L28, if_pos (show ck 6 1002 = true from rfl), cx_n6, r6, if_pos (nI_le (Nat.le_refl _) (by omega))]
  · show f_Model_widest_L28 lo hi row K (n + 1) _ _ (nI j) = f_Model_widest_L28 lo hi row K n _ _ (nI (j + 1))
    rw [f_Model_widest_L28, if_pos (show ck 6 1002 = true from rfl), cx_n6, r6, if_neg (nI_ge hj (by omega))]
    unfold f_Model_widest_J66
    simp (disch := omega) only [cx_ck, if_true, nI_clamp, nI_1]
    rw [cx_wd]
    by_cases z : hi j - lo j ≤ (cx_wd lo hi j).2
    · rw [if_pos z, if_pos z, if_pos z]
    · rw [if_neg z, if_neg z, if_neg z]
/-- nothing is apart exactly where all are certain -/
theorem cx_wd_none {lo hi : FJ} : ∀ {n : Nat}, n ≤ 24 → (∀ t, t < n → ∃ l h : Nat, lo t = lN l ∧ hi t = lN h ∧ l ≤ h ∧ h ≤ 2 ^ 50) → ((cx_wd lo hi n).1 = -1 ↔ ∀ t, t < n → lo t = hi t) ∧ ∃ d : Nat, (cx_wd lo hi n).2 = lN d ∧ d ≤ 2 ^ 50 ∧ ((cx_wd lo hi n).1 = -1 → d = 0) := by
  intro n
  induction n with
  | zero => intro _ _; exact ⟨⟨fun _ t ht => absurd ht (Nat.not_lt_zero t), fun _ => rfl⟩, 0, rfl, Nat.zero_le _, fun _ => rfl⟩
  | succ n ih =>
    intro hn e
    obtain ⟨i1, d, i2, i3, i4⟩ := ih (by omega) (fun t ht => e t (by omega))
    obtain ⟨l, u, e1, e2, e3, e4⟩ := e n (by omega)
    rw [cx_wd]
    have es : hi n - lo n = lN (u - l) := by rw [e1, e2, lN_sub e3]
    rw [es, i2]
    by_cases z : lN (u - l) ≤ lN d
    · rw [if_pos z]
      have z2 := (pk_lLE (by omega) (by omega)).mp z
      refine ⟨⟨fun h t ht => ?_, fun h => i1.mpr fun t ht => h t (by omega)⟩, d, i2, i3, i4⟩
      by_cases q : t = n
      · subst q
        have := i4 h
        rw [e1, e2]
        exact congrArg lN (by omega)
      · exact i1.mp h t (by omega)
    · rw [if_neg z]
      have z2 : ¬ u - l ≤ d := fun w => z ((pk_lLE (by omega) (by omega)).mpr w)
      have hne : ¬ nI n = (-1 : Int32) := fun w => by
        have := congrArg Int32.toInt w
        rw [nI_toInt (by omega)] at this
        have h2 : (-1 : Int32).toInt = -1 := by decide
        omega
      refine ⟨⟨fun h => absurd h hne, fun h => ?_⟩, u - l, rfl, by omega, fun h => absurd h hne⟩
      have := h n (by omega)
      rw [e1, e2] at this
      have := (pk_lEQ (by omega) (by omega)).mp this
      omega
theorem cx_sT {nt : Nat} {lo hi : FJ} {z : Int32} (hnt : nt ≤ 24) : f_Bounds_sumOfBounds 200 z lo hi (nI nt) = some (cx_sL (if z = 0 then lo else hi) nt) := by
  unfold f_Bounds_sumOfBounds
  refine cx_lf (fun n j (s : Int64) => f_Bounds_sumOfBounds_L5 z lo hi (nI nt) (fun i6 i7 => some i6) n s (nI j)) (fun s => some s) (fun j => cx_sL (if z = 0 then lo else hi) j) nt (fun n => ?_) (fun n j hj => ?_) 200 0 (by omega) (by omega)
  · show f_Bounds_sumOfBounds_L5 z lo hi (nI nt) _ (n + 1) _ (nI nt) = _
    rw [f_Bounds_sumOfBounds_L5, if_pos (nI_le (Nat.le_refl _) (by omega))]
  · show f_Bounds_sumOfBounds_L5 z lo hi (nI nt) _ (n + 1) _ (nI j) = f_Bounds_sumOfBounds_L5 z lo hi (nI nt) _ n _ (nI (j + 1))
    rw [f_Bounds_sumOfBounds_L5, if_neg (nI_ge hj (by omega))]
    unfold f_Bounds_boundOf
    simp (disch := omega) only [cx_ck, if_true, nI_clamp, nI_1]
    rw [cx_sL]
    by_cases q : z = 0
    · rw [if_pos q, if_pos q, cx_ob]
    · rw [if_neg q, if_neg q, cx_ob]
theorem cx_sumT {t : FJ} : f_Braid_sumOfTruths 200 t = some (cx_sL t 16) := by
  unfold f_Braid_sumOfTruths
  refine cx_lf (fun n j (s : Int64) => f_Braid_sumOfTruths_L4 t (fun i3 i4 => some i3) n s (nI j)) (fun s => some s) (fun j => cx_sL t j) 16 (fun n => ?_) (fun n j hj => ?_) 200 0 (by omega) (by omega)
  · show f_Braid_sumOfTruths_L4 t _ (n + 1) _ (nI 16) = _
    rw [f_Braid_sumOfTruths_L4, if_pos (cx_L16 (by omega) (by omega))]
  · show f_Braid_sumOfTruths_L4 t _ (n + 1) _ (nI j) = f_Braid_sumOfTruths_L4 t _ n _ (nI (j + 1))
    rw [f_Braid_sumOfTruths_L4, if_neg (cx_G16 (by omega)), if_pos (ck_nI (by omega) (by decide)), nI_clamp (by omega), nI_1]
    rfl
theorem cx_sumN {t : FJ} : f_Braid_sumOfNumbers 200 t = some (cx_sL t 16) := by
  unfold f_Braid_sumOfNumbers
  refine cx_lf (fun n j (s : Int64) => f_Braid_sumOfNumbers_L4 t (fun i3 i4 => some i3) n s (nI j)) (fun s => some s) (fun j => cx_sL t j) 16 (fun n => ?_) (fun n j hj => ?_) 200 0 (by omega) (by omega)
  · show f_Braid_sumOfNumbers_L4 t _ (n + 1) _ (nI 16) = _
    rw [f_Braid_sumOfNumbers_L4, if_pos (cx_L16 (by omega) (by omega))]
  · show f_Braid_sumOfNumbers_L4 t _ (n + 1) _ (nI j) = f_Braid_sumOfNumbers_L4 t _ n _ (nI (j + 1))
    rw [f_Braid_sumOfNumbers_L4, if_neg (cx_G16 (by omega)), if_pos (ck_nI (by omega) (by decide)), nI_clamp (by omega), nI_1]
    rfl
theorem cx_sL_ext {g : Nat → Int64} {m : Nat} : ∀ {n : Nat}, m ≤ n → (∀ i, m ≤ i → i < n → g i = 0) → cx_sL g n = cx_sL g m := by
  intro n
  induction n with
  | zero => intro h _; rw [show m = 0 by omega]
  | succ n ih =>
    intro h e
    by_cases q : m = n + 1
    · subst q; rfl
    · rw [cx_sL, e n (by omega) (by omega), Int64.add_zero]
      exact ih (by omega) (fun i h1 h2 => e i h1 (by omega))
