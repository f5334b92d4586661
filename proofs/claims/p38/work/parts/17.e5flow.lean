/-! the flows -/
def cx_gF (D : Nat) (S : Nat → Nat) (ov : FJ) (c : Nat) : Int64 := (nI (S c % 2 ^ D)).toInt64 + (ov c <<< ((nI D).toInt64 &&& 63))
def cx_bF (M K : Nat) (ks : FI) (f : Nat) : Int32 := cx_pK M K (ks f).toNatClampNeg
def cx_FL (M D K N Q R F : Nat) (ks : FI) (S : Nat → Nat) (k : Nat) : FJ × FJ := cx_it F (cx_bF M K ks) (cx_gF D S (cx_OV M D N Q R S).1) (cx_gF D S (cx_OV M D N Q R S).2) (fun _ => 0) (fun f => cx_mi (cx_gF D S (cx_OV M D N Q R S).2) (cx_bF M K ks f) 24) k
def cx_FN (M D K N Q R F : Nat) (ks : FI) (S : Nat → Nat) (k : Nat) : Nat := cx_lr F (cx_bF M K ks) (cx_gF D S (cx_OV M D N Q R S).1) (cx_gF D S (cx_OV M D N Q R S).2) (fun _ => 0) (fun f => cx_mi (cx_gF D S (cx_OV M D N Q R S).2) (cx_bF M K ks f) 24) k
theorem cx_lr_eq {nt : Nat} {b b' : Nat → Int32} {le le' gr gr' lo lo' hi hi' : FJ} (hb : ∀ s, s < nt → b s = b' s) (hl : ∀ t, t < nt → ∀ p, p < 24 → cx_bt (b t) p = true → le p = le' p ∧ gr p = gr' p) (h1 : ∀ s, s < nt → lo s = lo' s) (h2 : ∀ s, s < nt → hi s = hi' s) : ∀ k, cx_lr nt b le gr lo hi k = cx_lr nt b' le' gr' lo' hi' k := by
  intro k
  induction k with
  | zero => rfl
  | succ k ih =>
    have c : cx_cg nt b le gr lo hi k = cx_cg nt b' le' gr' lo' hi' k := cx_df_eq fun t ht => ⟨(cx_it_eq hb hl h1 h2 k t ht).1, (cx_it_eq hb hl h1 h2 k t ht).2, (cx_it_eq hb hl h1 h2 (k + 1) t ht).1, (cx_it_eq hb hl h1 h2 (k + 1) t ht).2⟩
    rw [cx_lr, cx_lr, c, ih]
theorem cx_gF_lN {D h c : Nat} {S : Nat → Nat} {ov : FJ} (hD : D ≤ 8) (e : ov c = lN h) : cx_gF D S ov c = lN (S c % 2 ^ D + h * 2 ^ D) := by
  unfold cx_gF
  rw [e, cx_shlL _ (by omega), nI_l (by have := cx_2D hD (S c); omega), lN_add]
theorem cx_bF_ct {M K : Nat} {ks : FI} (hM : 2 ≤ M ∧ M ≤ 24) (hK : K ≤ 4) (f p : Nat) (hp : p ≤ 32) : cx_ct (cx_bF M K ks f) p ≤ 4 := Nat.le_trans (cx_pK_ct (by omega) hM.2 p hp) hK
/-- the sums at the counters, by their bounds -/
theorem cx_FL_ok {M D K N Q R F : Nat} {ks : FI} {T : FJ} (hM : 2 ≤ M ∧ M ≤ 24) (hD : D ≤ 8) (hN : 1 ≤ N ∧ N ≤ 16) (hQ : 1 ≤ Q) (hF : F ≤ 16) (hT : ∀ f, f < 16 → ∃ a, a ≤ 1000000000 ∧ T f = lN a) (hT0 : ∀ f, f < 16 → F ≤ f → T f = 0) :
    cx_OKs F (cx_bF M K ks) (fun f => (T f).toNatClampNeg) (2 ^ 50) (cx_gF D (cx_SS M K ks T) (cx_OV M D N Q R (cx_SS M K ks T)).1) (cx_gF D (cx_SS M K ks T) (cx_OV M D N Q R (cx_SS M K ks T)).2) := by
  have hS : ∀ c, c < 24 → cx_SS M K ks T c ≤ 2 ^ 34 := fun c _ => by
    have : cx_SS M K ks T c ≤ 16 * 1000000000 := cx_sm_b fun f hf => by
      obtain ⟨a, ha, e⟩ := hT f hf
      by_cases z : cx_bt (cx_pK M K (ks f).toNatClampNeg) c = true
      · rw [if_pos z, e, cx_lcl (by omega)]; exact ha
      · rw [if_neg z]; omega
    omega
  have h0 : ∀ c, c < 24 → M ≤ c → cx_SS M K ks T c = 0 := fun c hc h => cx_sm_z fun f _ => if_neg fun z => by
    have := cx_pK_lt (by omega) hM.2 (by omega) z
    omega
  have snd := cx_OV_snd (D := D) hM.2 hN hQ hS h0 R
  intro t ht p hp hb
  have hpM : p < M := cx_pK_lt (by omega) hM.2 (by omega) hb
  obtain ⟨l, u, e1, e2, h1, h2, h3⟩ := snd p hpM
  have hX : cx_X F (cx_bF M K ks) (fun f => (T f).toNatClampNeg) p = cx_SS M K ks T p := by
    unfold cx_X cx_SS cx_bF
    refine (cx_sm_ext hF (fun i h1 h2 => ?_)).symm
    dsimp only
    rw [hT0 i h2 h1]
    exact ite_self _
  have hp2 : 0 < 2 ^ D := Nat.two_pow_pos D
  have hd := Nat.div_add_mod' (cx_SS M K ks T p) (2 ^ D)
  have m1 : l * 2 ^ D ≤ cx_SS M K ks T p / 2 ^ D * 2 ^ D := Nat.mul_le_mul_right _ h1
  have m2 : cx_SS M K ks T p / 2 ^ D * 2 ^ D ≤ u * 2 ^ D := Nat.mul_le_mul_right _ h2
  have m3 : u * 2 ^ D ≤ 2 ^ 40 * 2 ^ 8 := Nat.mul_le_mul h3 (Nat.pow_le_pow_right (by decide) hD)
  have m4 := cx_2D hD (cx_SS M K ks T p)
  refine ⟨_, _, cx_gF_lN hD e1, cx_gF_lN hD e2, ?_, ?_, ?_⟩
  · rw [hX]; omega
  · rw [hX]; omega
  · omega
theorem cx_dec_f {M D K N Q R F k : Nat} {ks : FI} {S : Nat → Nat} {r m : FI} {n : FJ} {a1 a2 a3 a4 a5 a6 : FJ} {a7 : Nat → FI} {a8 : FI} {a9 : Int32} {b1 b2 b3 b4 b5 b6 : FJ} {b7 : Nat → FI} {b8 : FI} {b9 : Int32} (hM : 2 ≤ M ∧ M ≤ 24) (hD : D ≤ 8) (hK : K ≤ 4) (hN : 1 ≤ N ∧ N ≤ 16) (hQ : Q ≤ 3) (hR : R ≤ 60) (hF : F ≤ 16) (hk : k ≤ 60) (hks : ∀ f, f < F → ∃ x, x ≤ 999 ∧ ks f = nI x) (h : cx_SEM D N Q S r m n) :
    ∃ out : Int32 × FJ × FJ × FJ × FJ × FJ × FJ × (Nat → FI) × FI × Int32 × FJ × FJ × FJ × FJ × FJ × FJ × (Nat → FI) × FI × Int32, f_Decoder_decode_f 200 (nI k) a1 a2 a3 a4 a5 a6 a7 a8 a9 b1 b2 b3 b4 b5 b6 b7 b8 b9 (nI M) (nI D) (nI K) (nI N) (nI Q) (nI R) (nI F) ks r m n = some out ∧ out.1 = nI (cx_FN M D K N Q R F ks S k) ∧ out.2.2.2.2.2.2.2.2.2.2.2.2.2.2.2.2.2.2 = nI F ∧ ∀ f, f < F → out.2.2.2.2.2.2.2.2.2.2.2.2.2.2.1 f = (cx_FL M D K N Q R F ks S k).1 f ∧ out.2.2.2.2.2.2.2.2.2.2.2.2.2.2.2.1 f = (cx_FL M D K N Q R F ks S k).2 f := by
  obtain ⟨ov, e0, _, hov⟩ := cx_dO (R := R) (a1 := a1) (a2 := a2) (a3 := a3) (a4 := a4) (a5 := a5) (a6 := a6) (a7 := a7) (a8 := a8) (a9 := a9) hM.2 hN hQ hR h
  unfold f_Decoder_decode_f
  rw [e0, cx_ob]
  generalize hKK : (fun (i30 : Int32) (c31 c32 : FJ) => f_Decoder_decode_f_L112 200 c32 (nI M) (nI K) (nI F) ks (fun i57 c58 c59 c60 c61 c62 => (f_Bounds_narrow 200 (nI k) c31 c32 b3 b4 c58 c59 c60 c61 c62).bind (fun r63 => some (r63.1, ov.1, ov.2.1, ov.2.2.1, ov.2.2.2.1, ov.2.2.2.2.1, ov.2.2.2.2.2.1, ov.2.2.2.2.2.2.1, ov.2.2.2.2.2.2.2.1, ov.2.2.2.2.2.2.2.2, c31, c32, r63.2.1, r63.2.2.1, r63.2.2.2.1, r63.2.2.2.2, c60, c61, c62))) 200 0 b5 b6 b7 b8 0) = KK
  obtain ⟨g, hg, e⟩ := cx_lp (fun n j (s : FJ × FJ) => f_Decoder_decode_f_L23 ov.2.2.2.2.1 ov.2.2.2.2.2.1 (nI M) (nI D) r KK n (nI j) s.1 s.2) (fun s => KK (nI M) s.1 s.2) (fun j s => ∀ c, c < j → s.1 c = cx_gF D S (cx_OV M D N Q R S).1 c ∧ s.2 c = cx_gF D S (cx_OV M D N Q R S).2 c) M
    (fun n s _ => by
      show f_Decoder_decode_f_L23 _ _ (nI M) (nI D) r KK (n + 1) (nI M) s.1 s.2 = _
      rw [f_Decoder_decode_f_L23, if_pos (nI_le (Nat.le_refl _) (by omega))])
    (fun n j s hj hP => by
      refine ⟨(vp_updL s.1 j (cx_gF D S (cx_OV M D N Q R S).1 j), vp_updL s.2 j (cx_gF D S (cx_OV M D N Q R S).2 j)), fun c hc => ?_, ?_⟩
      · show vp_updL s.1 j _ c = _ ∧ vp_updL s.2 j _ c = _
        by_cases q : c = j
        · subst q; rw [pk_uLs, pk_uLs]; exact ⟨rfl, rfl⟩
        · rw [pk_uLn q, pk_uLn q]; exact hP c (by omega)
      · show f_Decoder_decode_f_L23 _ _ (nI M) (nI D) r KK (n + 1) (nI j) s.1 s.2 = _
        rw [f_Decoder_decode_f_L23, if_neg (nI_ge hj (by omega))]
        unfold f_Bounds_boundOf
        rw [if_pos rfl, if_neg cx_i1]
        simp (disch := omega) only [cx_ck, if_true, nI_clamp, cx_ob, nI_1]
        rw [(hov j hj).1, (hov j hj).2, (h.1 j (by omega)).1]
        rfl) 200 0 (b1, b2) (by omega) (by omega) (fun c hc => absurd hc (Nat.not_lt_zero c))
  have hgn : ∀ t, t < F → ∀ p, p < 24 → cx_bt (cx_bF M K ks t) p = true → g.1 p = cx_gF D S (cx_OV M D N Q R S).1 p ∧ g.2 p = cx_gF D S (cx_OV M D N Q R S).2 p := by
    intro t ht p hp hb
    exact hg p (cx_pK_lt (by omega) hM.2 (by omega) hb)
  generalize hK2 : (fun (i57 : Int32) (c58 c59 : FJ) (c60 : Nat → FI) (c61 : FI) (c62 : Int32) => (f_Bounds_narrow 200 (nI k) g.1 g.2 b3 b4 c58 c59 c60 c61 c62).bind (fun r63 => some (r63.1, ov.1, ov.2.1, ov.2.2.1, ov.2.2.2.1, ov.2.2.2.2.1, ov.2.2.2.2.2.1, ov.2.2.2.2.2.2.1, ov.2.2.2.2.2.2.2.1, ov.2.2.2.2.2.2.2.2, g.1, g.2, r63.2.1, r63.2.2.1, r63.2.2.2.1, r63.2.2.2.2, c60, c61, c62))) = K2
  obtain ⟨s, hP, e2⟩ := cx_lp (fun n j (s : FJ × FJ × (Nat → FI) × FI × Int32) => f_Decoder_decode_f_L112 200 g.2 (nI M) (nI K) (nI F) ks K2 n (nI j) s.1 s.2.1 s.2.2.1 s.2.2.2.1 s.2.2.2.2) (fun s => K2 (nI F) s.1 s.2.1 s.2.2.1 s.2.2.2.1 s.2.2.2.2)
    (fun j s => s.2.2.2.2 = nI j ∧ (∀ f, f < j → s.1 f = 0 ∧ s.2.1 f = cx_mi (cx_gF D S (cx_OV M D N Q R S).2) (cx_bF M K ks f) 24) ∧ cx_PL j (cx_bF M K ks) s.2.2.1 s.2.2.2.1) F
    (fun n s _ => by
      show f_Decoder_decode_f_L112 200 g.2 (nI M) (nI K) (nI F) ks K2 (n + 1) (nI F) _ _ _ _ _ = _
      rw [f_Decoder_decode_f_L112, if_pos (nI_le (Nat.le_refl _) (by omega))])
    (fun n j s hj hP => by
      obtain ⟨x, hx, ex⟩ := hks j hj
      have eb : cx_bF M K ks j = cx_pK M K x := by unfold cx_bF; rw [ex, nI_clamp (by omega)]
      obtain ⟨pl', f1, f2, f3⟩ := cx_append (m := cx_bF M K ks j) (start := 0) (g := g.2) (lo := s.1) (hi := s.2.1) (pl := s.2.2.1) (pc := s.2.2.2.1) (k := j) (by omega) (cx_bF_ct hM hK j 24 (by omega))
      refine ⟨(vp_updL s.1 j 0, vp_updL s.2.1 j (cx_mi g.2 (cx_bF M K ks j) 24), pl', upd s.2.2.2.1 j (nI (cx_ct (cx_bF M K ks j) 24)), nI (j + 1)), ⟨rfl, fun f hf => ?_, fun t ht => ?_⟩, ?_⟩
      · show vp_updL s.1 j _ f = _ ∧ vp_updL s.2.1 j _ f = _
        by_cases q : f = j
        · subst q
          rw [pk_uLs, pk_uLs]
          exact ⟨rfl, cx_mi_eq fun p hp hb => (hgn f hj p hp hb).2⟩
        · rw [pk_uLn q, pk_uLn q]; exact hP.2.1 f (by omega)
      · show upd s.2.2.2.1 j _ t = _ ∧ _ ∧ ∀ p, p < 24 → _ → pl' t _ = _
        refine ⟨?_, cx_bF_ct hM hK t 24 (by omega), fun p hp hb => ?_⟩
        · by_cases q : t = j
          · subst q; exact pk_us
          · rw [pk_un q]; exact (hP.2.2 t (by omega)).1
        · by_cases q : t = j
          · subst q; exact f2 p hp hb
          · rw [f3 t q]; exact (hP.2.2 t (by omega)).2.2 p hp hb
      · show f_Decoder_decode_f_L112 200 g.2 (nI M) (nI K) (nI F) ks K2 (n + 1) (nI j) _ _ _ _ _ = _
        rw [f_Decoder_decode_f_L112, if_neg (nI_ge hj (by omega)), if_pos (ck_nI (by omega) (by decide)), nI_clamp (by omega), ex, cx_plK hx hM hK, cx_ob, hP.1, ← eb, f1, cx_ob, nI_1]) 200 0 (b5, b6, b7, b8, 0) (by omega) (by omega) ⟨rfl, fun f hf => absurd hf (Nat.not_lt_zero f), fun t ht => absurd ht (Nat.not_lt_zero t)⟩
  obtain ⟨ls, us, l2, h2, k1, k2⟩ := cx_narrow (R := k) (le := g.1) (gr := g.2) (lo := s.1) (hi := s.2.1) (a1 := b3) (a2 := b4) hP.2.2 (by omega) hk
  have q0 := cx_it_eq (nt := F) (b := cx_bF M K ks) (b' := cx_bF M K ks) (le := g.1) (le' := cx_gF D S (cx_OV M D N Q R S).1) (gr := g.2) (gr' := cx_gF D S (cx_OV M D N Q R S).2) (lo := s.1) (lo' := fun _ => 0) (hi := s.2.1) (hi' := fun f => cx_mi (cx_gF D S (cx_OV M D N Q R S).2) (cx_bF M K ks f) 24) (fun _ _ => rfl) hgn (fun t ht => (hP.2.1 t ht).1) (fun t ht => (hP.2.1 t ht).2) k
  have q1 := cx_lr_eq (nt := F) (b := cx_bF M K ks) (b' := cx_bF M K ks) (le := g.1) (le' := cx_gF D S (cx_OV M D N Q R S).1) (gr := g.2) (gr' := cx_gF D S (cx_OV M D N Q R S).2) (lo := s.1) (lo' := fun _ => 0) (hi := s.2.1) (hi' := fun f => cx_mi (cx_gF D S (cx_OV M D N Q R S).2) (cx_bF M K ks f) 24) (fun _ _ => rfl) hgn (fun t ht => (hP.2.1 t ht).1) (fun t ht => (hP.2.1 t ht).2) k
  refine ⟨(nI (cx_lr F (cx_bF M K ks) g.1 g.2 s.1 s.2.1 k), ov.1, ov.2.1, ov.2.2.1, ov.2.2.2.1, ov.2.2.2.2.1, ov.2.2.2.2.2.1, ov.2.2.2.2.2.2.1, ov.2.2.2.2.2.2.2.1, ov.2.2.2.2.2.2.2.2, g.1, g.2, ls, us, l2, h2, s.2.2.1, s.2.2.2.1, nI F), e.trans ?_, congrArg nI q1, rfl, fun f hf => ⟨(k2 f hf).1.trans (q0 f hf).1, (k2 f hf).2.trans (q0 f hf).2⟩⟩
  rw [← hKK]
  show f_Decoder_decode_f_L112 200 g.2 (nI M) (nI K) (nI F) ks _ 200 0 b5 b6 b7 b8 0 = _
  rw [hK2]
  refine e2.trans ?_
  rw [← hK2]
  show (f_Bounds_narrow 200 (nI k) g.1 g.2 b3 b4 s.1 s.2.1 s.2.2.1 s.2.2.2.1 s.2.2.2.2).bind _ = _
  rw [hP.1, k1, cx_ob]
theorem cx_dec_s {M D K N Q R F k : Nat} {ks : FI} {S : Nat → Nat} {r m : FI} {n : FJ} {a1 a2 a3 a4 a5 a6 : FJ} {a7 : Nat → FI} {a8 : FI} {a9 : Int32} {b1 b2 b3 b4 b5 b6 : FJ} {b7 : Nat → FI} {b8 : FI} {b9 : Int32} (hM : 2 ≤ M ∧ M ≤ 24) (hD : D ≤ 8) (hK : K ≤ 4) (hN : 1 ≤ N ∧ N ≤ 16) (hQ : Q ≤ 3) (hR : R ≤ 60) (hF : F ≤ 16) (hk : k ≤ 60) (hks : ∀ f, f < F → ∃ x, x ≤ 999 ∧ ks f = nI x) (h : cx_SEM D N Q S r m n) :
    ∃ out : Int32 × FJ × FJ × FJ × FJ × FJ × FJ × (Nat → FI) × FI × Int32 × FJ × FJ × FJ × FJ × FJ × FJ × (Nat → FI) × FI × Int32, f_Decoder_decode_s 200 (nI k) a1 a2 a3 a4 a5 a6 a7 a8 a9 b1 b2 b3 b4 b5 b6 b7 b8 b9 (nI M) (nI D) (nI K) (nI N) (nI Q) (nI R) (nI F) ks r m n = some out ∧ out.1 = nI (cx_FN M D K N Q R F ks S k) ∧ out.2.2.2.2.2.2.2.2.2.2.2.2.2.2.2.2.2.2 = nI F ∧ ∀ f, f < F → out.2.2.2.2.2.2.2.2.2.2.2.2.2.2.1 f = (cx_FL M D K N Q R F ks S k).1 f ∧ out.2.2.2.2.2.2.2.2.2.2.2.2.2.2.2.1 f = (cx_FL M D K N Q R F ks S k).2 f := by
  obtain ⟨ov, e0, _, hov⟩ := cx_dO (R := R) (a1 := a1) (a2 := a2) (a3 := a3) (a4 := a4) (a5 := a5) (a6 := a6) (a7 := a7) (a8 := a8) (a9 := a9) hM.2 hN hQ hR h
  unfold f_Decoder_decode_s
  rw [e0, cx_ob]
  generalize hKK : (fun (i30 : Int32) (c31 c32 : FJ) => f_Decoder_decode_s_L112 200 c32 (nI M) (nI K) (nI F) ks (fun i57 c58 c59 c60 c61 c62 => (f_Bounds_narrow 200 (nI k) c31 c32 b3 b4 c58 c59 c60 c61 c62).bind (fun r63 => some (r63.1, ov.1, ov.2.1, ov.2.2.1, ov.2.2.2.1, ov.2.2.2.2.1, ov.2.2.2.2.2.1, ov.2.2.2.2.2.2.1, ov.2.2.2.2.2.2.2.1, ov.2.2.2.2.2.2.2.2, c31, c32, r63.2.1, r63.2.2.1, r63.2.2.2.1, r63.2.2.2.2, c60, c61, c62))) 200 0 b5 b6 b7 b8 0) = KK
  obtain ⟨g, hg, e⟩ := cx_lp (fun n j (s : FJ × FJ) => f_Decoder_decode_s_L23 ov.2.2.2.2.1 ov.2.2.2.2.2.1 (nI M) (nI D) r KK n (nI j) s.1 s.2) (fun s => KK (nI M) s.1 s.2) (fun j s => ∀ c, c < j → s.1 c = cx_gF D S (cx_OV M D N Q R S).1 c ∧ s.2 c = cx_gF D S (cx_OV M D N Q R S).2 c) M
    (fun n s _ => by
      show f_Decoder_decode_s_L23 _ _ (nI M) (nI D) r KK (n + 1) (nI M) s.1 s.2 = _
      rw [f_Decoder_decode_s_L23, if_pos (nI_le (Nat.le_refl _) (by omega))])
    (fun n j s hj hP => by
      refine ⟨(vp_updL s.1 j (cx_gF D S (cx_OV M D N Q R S).1 j), vp_updL s.2 j (cx_gF D S (cx_OV M D N Q R S).2 j)), fun c hc => ?_, ?_⟩
      · show vp_updL s.1 j _ c = _ ∧ vp_updL s.2 j _ c = _
        by_cases q : c = j
        · subst q; rw [pk_uLs, pk_uLs]; exact ⟨rfl, rfl⟩
        · rw [pk_uLn q, pk_uLn q]; exact hP c (by omega)
      · show f_Decoder_decode_s_L23 _ _ (nI M) (nI D) r KK (n + 1) (nI j) s.1 s.2 = _
        rw [f_Decoder_decode_s_L23, if_neg (nI_ge hj (by omega))]
        unfold f_Bounds_boundOf
        rw [if_pos rfl, if_neg cx_i1]
        simp (disch := omega) only [cx_ck, if_true, nI_clamp, cx_ob, nI_1]
        rw [(hov j hj).1, (hov j hj).2, (h.1 j (by omega)).1]
        rfl) 200 0 (b1, b2) (by omega) (by omega) (fun c hc => absurd hc (Nat.not_lt_zero c))
  have hgn : ∀ t, t < F → ∀ p, p < 24 → cx_bt (cx_bF M K ks t) p = true → g.1 p = cx_gF D S (cx_OV M D N Q R S).1 p ∧ g.2 p = cx_gF D S (cx_OV M D N Q R S).2 p := by
    intro t ht p hp hb
    exact hg p (cx_pK_lt (by omega) hM.2 (by omega) hb)
  generalize hK2 : (fun (i57 : Int32) (c58 c59 : FJ) (c60 : Nat → FI) (c61 : FI) (c62 : Int32) => (f_Bounds_narrow 200 (nI k) g.1 g.2 b3 b4 c58 c59 c60 c61 c62).bind (fun r63 => some (r63.1, ov.1, ov.2.1, ov.2.2.1, ov.2.2.2.1, ov.2.2.2.2.1, ov.2.2.2.2.2.1, ov.2.2.2.2.2.2.1, ov.2.2.2.2.2.2.2.1, ov.2.2.2.2.2.2.2.2, g.1, g.2, r63.2.1, r63.2.2.1, r63.2.2.2.1, r63.2.2.2.2, c60, c61, c62))) = K2
  obtain ⟨s, hP, e2⟩ := cx_lp (fun n j (s : FJ × FJ × (Nat → FI) × FI × Int32) => f_Decoder_decode_s_L112 200 g.2 (nI M) (nI K) (nI F) ks K2 n (nI j) s.1 s.2.1 s.2.2.1 s.2.2.2.1 s.2.2.2.2) (fun s => K2 (nI F) s.1 s.2.1 s.2.2.1 s.2.2.2.1 s.2.2.2.2)
    (fun j s => s.2.2.2.2 = nI j ∧ (∀ f, f < j → s.1 f = 0 ∧ s.2.1 f = cx_mi (cx_gF D S (cx_OV M D N Q R S).2) (cx_bF M K ks f) 24) ∧ cx_PL j (cx_bF M K ks) s.2.2.1 s.2.2.2.1) F
    (fun n s _ => by
      show f_Decoder_decode_s_L112 200 g.2 (nI M) (nI K) (nI F) ks K2 (n + 1) (nI F) _ _ _ _ _ = _
      rw [f_Decoder_decode_s_L112, if_pos (nI_le (Nat.le_refl _) (by omega))])
    (fun n j s hj hP => by
      obtain ⟨x, hx, ex⟩ := hks j hj
      have eb : cx_bF M K ks j = cx_pK M K x := by unfold cx_bF; rw [ex, nI_clamp (by omega)]
      obtain ⟨pl', f1, f2, f3⟩ := cx_append (m := cx_bF M K ks j) (start := 0) (g := g.2) (lo := s.1) (hi := s.2.1) (pl := s.2.2.1) (pc := s.2.2.2.1) (k := j) (by omega) (cx_bF_ct hM hK j 24 (by omega))
      refine ⟨(vp_updL s.1 j 0, vp_updL s.2.1 j (cx_mi g.2 (cx_bF M K ks j) 24), pl', upd s.2.2.2.1 j (nI (cx_ct (cx_bF M K ks j) 24)), nI (j + 1)), ⟨rfl, fun f hf => ?_, fun t ht => ?_⟩, ?_⟩
      · show vp_updL s.1 j _ f = _ ∧ vp_updL s.2.1 j _ f = _
        by_cases q : f = j
        · subst q
          rw [pk_uLs, pk_uLs]
          exact ⟨rfl, cx_mi_eq fun p hp hb => (hgn f hj p hp hb).2⟩
        · rw [pk_uLn q, pk_uLn q]; exact hP.2.1 f (by omega)
      · show upd s.2.2.2.1 j _ t = _ ∧ _ ∧ ∀ p, p < 24 → _ → pl' t _ = _
        refine ⟨?_, cx_bF_ct hM hK t 24 (by omega), fun p hp hb => ?_⟩
        · by_cases q : t = j
          · subst q; exact pk_us
          · rw [pk_un q]; exact (hP.2.2 t (by omega)).1
        · by_cases q : t = j
          · subst q; exact f2 p hp hb
          · rw [f3 t q]; exact (hP.2.2 t (by omega)).2.2 p hp hb
      · show f_Decoder_decode_s_L112 200 g.2 (nI M) (nI K) (nI F) ks K2 (n + 1) (nI j) _ _ _ _ _ = _
        rw [f_Decoder_decode_s_L112, if_neg (nI_ge hj (by omega)), if_pos (ck_nI (by omega) (by decide)), nI_clamp (by omega), ex, cx_plK hx hM hK, cx_ob, hP.1, ← eb, f1, cx_ob, nI_1]) 200 0 (b5, b6, b7, b8, 0) (by omega) (by omega) ⟨rfl, fun f hf => absurd hf (Nat.not_lt_zero f), fun t ht => absurd ht (Nat.not_lt_zero t)⟩
  obtain ⟨ls, us, l2, h2, k1, k2⟩ := cx_narrow (R := k) (le := g.1) (gr := g.2) (lo := s.1) (hi := s.2.1) (a1 := b3) (a2 := b4) hP.2.2 (by omega) hk
  have q0 := cx_it_eq (nt := F) (b := cx_bF M K ks) (b' := cx_bF M K ks) (le := g.1) (le' := cx_gF D S (cx_OV M D N Q R S).1) (gr := g.2) (gr' := cx_gF D S (cx_OV M D N Q R S).2) (lo := s.1) (lo' := fun _ => 0) (hi := s.2.1) (hi' := fun f => cx_mi (cx_gF D S (cx_OV M D N Q R S).2) (cx_bF M K ks f) 24) (fun _ _ => rfl) hgn (fun t ht => (hP.2.1 t ht).1) (fun t ht => (hP.2.1 t ht).2) k
  have q1 := cx_lr_eq (nt := F) (b := cx_bF M K ks) (b' := cx_bF M K ks) (le := g.1) (le' := cx_gF D S (cx_OV M D N Q R S).1) (gr := g.2) (gr' := cx_gF D S (cx_OV M D N Q R S).2) (lo := s.1) (lo' := fun _ => 0) (hi := s.2.1) (hi' := fun f => cx_mi (cx_gF D S (cx_OV M D N Q R S).2) (cx_bF M K ks f) 24) (fun _ _ => rfl) hgn (fun t ht => (hP.2.1 t ht).1) (fun t ht => (hP.2.1 t ht).2) k
  refine ⟨(nI (cx_lr F (cx_bF M K ks) g.1 g.2 s.1 s.2.1 k), ov.1, ov.2.1, ov.2.2.1, ov.2.2.2.1, ov.2.2.2.2.1, ov.2.2.2.2.2.1, ov.2.2.2.2.2.2.1, ov.2.2.2.2.2.2.2.1, ov.2.2.2.2.2.2.2.2, g.1, g.2, ls, us, l2, h2, s.2.2.1, s.2.2.2.1, nI F), e.trans ?_, congrArg nI q1, rfl, fun f hf => ⟨(k2 f hf).1.trans (q0 f hf).1, (k2 f hf).2.trans (q0 f hf).2⟩⟩
  rw [← hKK]
  show f_Decoder_decode_s_L112 200 g.2 (nI M) (nI K) (nI F) ks _ 200 0 b5 b6 b7 b8 0 = _
  rw [hK2]
  refine e2.trans ?_
  rw [← hK2]
  show (f_Bounds_narrow 200 (nI k) g.1 g.2 b3 b4 s.1 s.2.1 s.2.2.1 s.2.2.2.1 s.2.2.2.2).bind _ = _
  rw [hP.1, k1, cx_ob]
