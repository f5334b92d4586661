/-! the model's rounds -/
theorem cx_others {nt t p : Nat} {z : Int32} {pl : FI} {b : Nat → Int32} {lB hB lo : FJ} (hnt : nt ≤ 24) (ht : t < nt) (hp : p < 24) (hpl : ∀ s, s < nt → pl s = b s) (hlo : ∀ s, s < nt → lo s = if z = 0 then lB s else hB s) : f_Model_others 200 (nI t) (nI p) z pl lB hB (nI nt) = some (cx_ot nt b lo t p) := by
  unfold f_Model_others
  refine cx_lf (fun n j (s : Int64) => f_Model_others_L6 (nI t) (nI p) z pl lB hB (nI nt) (fun i17 i18 => some i17) n s (nI j)) (fun s => some s) (fun j => cx_sL (fun s => if s = t then 0 else if cx_bt (b s) p = true then lo s else 0) j) nt (fun n => ?_) (fun n j hj => ?_) 200 0 (by omega) (by omega)
  · show f_Model_others_L6 (nI t) (nI p) z pl lB hB (nI nt) _ (n + 1) _ (nI nt) = _
    rw [f_Model_others_L6, if_pos (nI_le (Nat.le_refl _) (by omega))]
  · show f_Model_others_L6 (nI t) (nI p) z pl lB hB (nI nt) _ (n + 1) _ (nI j) = f_Model_others_L6 (nI t) (nI p) z pl lB hB (nI nt) _ n _ (nI (j + 1))
    rw [f_Model_others_L6, if_neg (nI_ge hj (by omega)), cx_sL]
    by_cases q : j = t
    · subst q
      rw [if_pos rfl, f_Model_others_J40, f_Model_others_J41, if_pos rfl, if_pos rfl, nI_1]
    · rw [if_neg (fun e => q ((nI_eq (by omega) (by omega)).mp e)), if_pos (ck_nI (by omega) (by decide)), nI_clamp (by omega), hpl j hj, cx_bif (by omega), if_neg q]
      by_cases w : cx_bt (b j) p = true
      · rw [if_pos w, if_pos w, f_Model_others_J41, if_neg (by decide), hlo j hj]
        by_cases hz : z = 0
        · rw [if_pos hz, if_pos hz, if_pos (ck_nI (by omega) (by decide)), nI_clamp (by omega), nI_1]
        · rw [if_neg hz, if_neg hz, if_pos (ck_nI (by omega) (by decide)), nI_clamp (by omega), nI_1]
      · rw [if_neg w, if_neg w, f_Model_others_J40, f_Model_others_J41, if_pos rfl, nI_1]
theorem cx_J139 {t p : Nat} {up down : Int64} {z : Int32} {c35 c36 : FJ} {B : Int32 → Int32 → FJ → FJ → Option (Int32 × FJ × FJ × FJ × FJ)} (ht : t < 24) : f_Model_round_J139 (nI t) (nI p) up down z c35 c36 B = B z (nI (p + 1)) (vp_updL c35 t (if c35 t < down then down else c35 t)) (vp_updL c36 t (if up < c36 t then up else c36 t)) := by
  have j168 : ∀ v, f_Model_round_J168 z (nI t) (nI p) down (nI t) v c35 c36 B = B z (nI (p + 1)) (vp_updL c35 t (if c35 t < down then down else c35 t)) (vp_updL c36 t v) := by
    intro v
    rw [f_Model_round_J168, if_pos (ck_nI ht (by decide)), if_pos (ck_nI ht (by decide)), nI_clamp (by omega), nI_1]
    by_cases q : down ≤ c35 t
    · rw [if_pos q, if_pos (ck_nI ht (by decide)), if_pos (ck_nI ht (by decide)), if_neg (Int64.not_lt.mpr q)]
    · rw [if_neg q, if_pos (ck_nI ht (by decide)), if_pos (Int64.not_le.mp q)]
  rw [f_Model_round_J139, if_pos (ck_nI ht (by decide)), nI_clamp (by omega)]
  by_cases q : c36 t ≤ up
  · rw [if_pos q, if_pos (ck_nI ht (by decide)), j168, if_neg (Int64.not_lt.mpr q)]
  · rw [if_neg q, j168, if_pos (Int64.not_le.mp q)]
theorem cx_chg_m {g : Nat → Int64} {q : Int32} {x : Int64} {p : Nat} (hb : cx_bt q p = true) : decide (cx_fm g q x (p + 1) ≠ x) = (decide (cx_fm g q x p ≠ x) || decide (g p < cx_fm g q x p)) := by
  rw [cx_fm, if_pos hb]
  by_cases w : g p < cx_fm g q x p
  · have h1 := Int64.lt_iff_toInt_lt.mp w
    have h2 := cx_fm_le g q x p
    have h3 : g p ≠ x := fun e => by rw [e] at h1; omega
    rw [if_pos w, decide_eq_true h3, decide_eq_true w, Bool.or_true]
  · rw [if_neg w, decide_eq_false w, Bool.or_false]
theorem cx_chg_M {g : Nat → Int64} {q : Int32} {x : Int64} {p : Nat} (hb : cx_bt q p = true) : decide (cx_fM g q x (p + 1) ≠ x) = (decide (cx_fM g q x p ≠ x) || decide (cx_fM g q x p < g p)) := by
  rw [cx_fM, if_pos hb]
  by_cases w : cx_fM g q x p < g p
  · have h1 := Int64.lt_iff_toInt_lt.mp w
    have h2 := cx_fM_ge g q x p
    have h3 : g p ≠ x := fun e => by rw [e] at h1; omega
    rw [if_pos w, decide_eq_true h3, decide_eq_true w, Bool.or_true]
  · rw [if_neg w, decide_eq_false w, Bool.or_false]
theorem cx_L54 {nt t : Nat} {b : Nat → Int32} {pl : FI} {lB hB le gr lo hi c22 c23 : FJ} {ch : Bool} {K : Int32 → Int32 → FJ → FJ → Option (Int32 × FJ × FJ × FJ × FJ)} (hnt : nt ≤ 24) (ht : t < nt) (hpl : ∀ s, s < nt → pl s = b s) (hl : ∀ s, s < nt → lB s = lo s ∧ hB s = hi s) (h1 : c22 t = lo t) (h2 : c23 t = hi t) :
    ∃ s : FJ × FJ, f_Model_round_L54 200 (nI t) lB hB pl le gr (nI nt) K 200 (if ch = true then 1 else 0) 0 c22 c23 = K (if (ch || (decide (cx_rl nt b le lo hi t ≠ lo t) || decide (cx_rh nt b gr lo hi t ≠ hi t))) = true then 1 else 0) (nI 24) s.1 s.2 ∧ ∀ x, s.1 x = (if x = t then cx_rl nt b le lo hi t else c22 x) ∧ s.2 x = (if x = t then cx_rh nt b gr lo hi t else c23 x) := by
  obtain ⟨s, hP, e⟩ := cx_lp (fun n j (s : Int32 × FJ × FJ) => f_Model_round_L54 200 (nI t) lB hB pl le gr (nI nt) K n s.1 (nI j) s.2.1 s.2.2) (fun s => K s.1 (nI 24) s.2.1 s.2.2)
    (fun p s => s.1 = (if (ch || (decide (cx_fM (fun p => le p - cx_ot nt b hi t p) (b t) (lo t) p ≠ lo t) || decide (cx_fm (fun p => gr p - cx_ot nt b lo t p) (b t) (hi t) p ≠ hi t))) = true then 1 else 0) ∧ ∀ x, s.2.1 x = (if x = t then cx_fM (fun p => le p - cx_ot nt b hi t p) (b t) (lo t) p else c22 x) ∧ s.2.2 x = (if x = t then cx_fm (fun p => gr p - cx_ot nt b lo t p) (b t) (hi t) p else c23 x)) 24
    (fun n s _ => by
      show f_Model_round_L54 200 (nI t) lB hB pl le gr (nI nt) K (n + 1) s.1 (nI 24) s.2.1 s.2.2 = _
      rw [f_Model_round_L54, if_pos (cx_L24 (by omega) (by omega))])
    (fun n p s hp hP => by
      have t1 := (hP.2 t).1
      have t2 := (hP.2 t).2
      rw [if_pos rfl] at t1 t2
      by_cases hb : cx_bt (b t) p = true
      · have m1 := cx_chg_M (g := fun p => le p - cx_ot nt b hi t p) (x := lo t) hb
        have m2 := cx_chg_m (g := fun p => gr p - cx_ot nt b lo t p) (x := hi t) hb
        refine ⟨(if (ch || (decide (cx_fM (fun p => le p - cx_ot nt b hi t p) (b t) (lo t) (p + 1) ≠ lo t) || decide (cx_fm (fun p => gr p - cx_ot nt b lo t p) (b t) (hi t) (p + 1) ≠ hi t))) = true then 1 else 0, vp_updL s.2.1 t (cx_fM (fun p => le p - cx_ot nt b hi t p) (b t) (lo t) (p + 1)), vp_updL s.2.2 t (cx_fm (fun p => gr p - cx_ot nt b lo t p) (b t) (hi t) (p + 1))), ⟨rfl, fun x => ?_⟩, ?_⟩
        · show vp_updL s.2.1 t _ x = _ ∧ vp_updL s.2.2 t _ x = _
          by_cases q : x = t
          · subst q; rw [pk_uLs, pk_uLs, if_pos rfl, if_pos rfl]; exact ⟨rfl, rfl⟩
          · rw [pk_uLn q, pk_uLn q, if_neg q, if_neg q]
            have := hP.2 x
            rw [if_neg q, if_neg q] at this
            exact this
        · show f_Model_round_L54 200 (nI t) lB hB pl le gr (nI nt) K (n + 1) s.1 (nI p) s.2.1 s.2.2 = f_Model_round_L54 200 (nI t) lB hB pl le gr (nI nt) K n (if (ch || (decide (cx_fM (fun p => le p - cx_ot nt b hi t p) (b t) (lo t) (p + 1) ≠ lo t) || decide (cx_fm (fun p => gr p - cx_ot nt b lo t p) (b t) (hi t) (p + 1) ≠ hi t))) = true then 1 else 0) (nI (p + 1)) _ _
          rw [f_Model_round_L54, if_neg (cx_G24 (by omega)), if_pos (ck_nI (by omega) (by decide)), nI_clamp (show t < 2 ^ 31 by omega), hpl t ht, cx_bif (by omega), if_pos hb, if_pos (ck_nI hp (by decide)), cx_others (b := b) (lo := lo) hnt ht hp hpl (fun s hs => by rw [if_pos rfl]; exact (hl s hs).1.symm), cx_ob, if_pos (ck_nI hp (by decide)), cx_others (b := b) (lo := hi) hnt ht hp hpl (fun s hs => by rw [if_neg cx_i1]; exact (hl s hs).2.symm), cx_ob, nI_clamp (show p < 2 ^ 31 by omega), if_pos (ck_nI (by omega) (by decide)), if_pos (ck_nI (by omega) (by decide)), f_Model_round_J134, cx_J139 (by omega), cx_J139 (by omega), t1, t2, m1, m2, cx_fM, cx_fm, if_pos hb, if_pos hb, hP.1]
          generalize cx_fM (fun p => le p - cx_ot nt b hi t p) (b t) (lo t) p = A
          generalize cx_fm (fun p => gr p - cx_ot nt b lo t p) (b t) (hi t) p = C
          generalize le p - cx_ot nt b hi t p = d
          generalize gr p - cx_ot nt b lo t p = u
          by_cases z : (ch || (decide (A ≠ lo t) || decide (C ≠ hi t))) = true
          · have zz : (ch || ((decide (A ≠ lo t) || decide (A < d)) || (decide (C ≠ hi t) || decide (u < C)))) = true := by
              cases ch <;> cases hA : decide (A ≠ lo t) <;> cases hC : decide (C ≠ hi t) <;> simp [hA, hC] at z ⊢
            rw [if_pos z, if_neg cx_i1, if_pos zz]
          · have z0 : ch = false ∧ decide (A ≠ lo t) = false ∧ decide (C ≠ hi t) = false := by
              cases ch <;> cases hA : decide (A ≠ lo t) <;> cases hC : decide (C ≠ hi t) <;> simp [hA, hC] at z ⊢
            rw [if_neg z, if_pos rfl, z0.1, z0.2.1, z0.2.2, Bool.false_or, Bool.false_or, Bool.false_or]
            by_cases w1 : u < C
            · rw [if_pos w1, decide_eq_true w1, Bool.or_true, if_pos rfl]
            · rw [if_neg w1, decide_eq_false w1, Bool.or_false]
              by_cases w2 : d ≤ A
              · rw [if_pos w2, decide_eq_false (Int64.not_lt.mpr w2), if_neg (show ¬ (false = true) by decide)]
              · rw [if_neg w2, decide_eq_true (Int64.not_le.mp w2), if_pos rfl]
      · refine ⟨s, ⟨?_, fun x => ?_⟩, ?_⟩
        · rw [cx_fM, cx_fm, if_neg hb, if_neg hb]; exact hP.1
        · rw [cx_fM, cx_fm, if_neg hb, if_neg hb]; exact hP.2 x
        · show f_Model_round_L54 200 (nI t) lB hB pl le gr (nI nt) K (n + 1) s.1 (nI p) s.2.1 s.2.2 = _
          rw [f_Model_round_L54, if_neg (cx_G24 (by omega)), if_pos (ck_nI (by omega) (by decide)), nI_clamp (show t < 2 ^ 31 by omega), hpl t ht, cx_bif (by omega), if_neg hb, nI_1]) 200 0 (if ch = true then 1 else 0, c22, c23) (by omega) (by omega) ⟨by
        rw [cx_fM, cx_fm, decide_eq_false (fun w => w rfl), decide_eq_false (fun w => w rfl), Bool.or_false, Bool.or_false], fun x => by
        rw [cx_fM, cx_fm]
        by_cases q : x = t
        · subst q; rw [if_pos rfl, if_pos rfl]; exact ⟨h1, h2⟩
        · rw [if_neg q, if_neg q]; exact ⟨rfl, rfl⟩⟩
  refine ⟨s.2, e.trans ?_, hP.2⟩
  rw [hP.1]
  rfl
theorem cx_mround {nt : Nat} {b : Nat → Int32} {pl : FI} {le gr lo hi lB hB : FJ} (hnt : nt ≤ 24) (hpl : ∀ s, s < nt → pl s = b s) : ∃ lo' hi' lB' hB' : FJ, f_Model_round 200 pl lo hi lB hB le gr (nI nt) = some (if cx_df lo hi (cx_rl nt b le lo hi) (cx_rh nt b gr lo hi) nt = true then 1 else 0, lo', hi', lB', hB') ∧ ∀ t, t < nt → lo' t = cx_rl nt b le lo hi t ∧ hi' t = cx_rh nt b gr lo hi t := by
  unfold f_Model_round
  obtain ⟨s, hP, e⟩ := cx_lp (fun n j (s : FJ × FJ) => f_Model_round_L4 lo hi (nI nt) (fun i11 c12 c13 => f_Model_round_L44 200 c12 c13 pl le gr (nI nt) (fun i75 i76 c77 c78 => if i75 = 0 ∨ i75 = 1 then some (i75, c77, c78, c12, c13) else none) 200 0 0 lo hi) n (nI j) s.1 s.2) (fun s => f_Model_round_L44 200 s.1 s.2 pl le gr (nI nt) (fun i75 i76 c77 c78 => if i75 = 0 ∨ i75 = 1 then some (i75, c77, c78, s.1, s.2) else none) 200 0 0 lo hi)
    (fun j s => ∀ t, t < j → s.1 t = lo t ∧ s.2 t = hi t) nt
    (fun n s _ => by
      show f_Model_round_L4 lo hi (nI nt) _ (n + 1) (nI nt) s.1 s.2 = _
      rw [f_Model_round_L4, if_pos (nI_le (Nat.le_refl _) (by omega))])
    (fun n j s hj hP => by
      refine ⟨(vp_updL s.1 j (lo j), vp_updL s.2 j (hi j)), fun t ht => ?_, ?_⟩
      · show vp_updL s.1 j _ t = _ ∧ vp_updL s.2 j _ t = _
        by_cases q : t = j
        · subst q; rw [pk_uLs, pk_uLs]; exact ⟨rfl, rfl⟩
        · rw [pk_uLn q, pk_uLn q]; exact hP t (by omega)
      · show f_Model_round_L4 lo hi (nI nt) _ (n + 1) (nI j) s.1 s.2 = _
        rw [f_Model_round_L4, if_neg (nI_ge hj (by omega))]
        simp (disch := omega) only [cx_ck, if_true, nI_clamp, nI_1]) 200 0 (lB, hB) (by omega) (by omega) (fun t ht => absurd ht (Nat.not_lt_zero t))
  obtain ⟨u, hU, e2⟩ := cx_lp (fun n j (u : Int32 × FJ × FJ) => f_Model_round_L44 200 s.1 s.2 pl le gr (nI nt) (fun i75 i76 c77 c78 => if i75 = 0 ∨ i75 = 1 then some (i75, c77, c78, s.1, s.2) else none) n u.1 (nI j) u.2.1 u.2.2) (fun u => if u.1 = 0 ∨ u.1 = 1 then some (u.1, u.2.1, u.2.2, s.1, s.2) else none)
    (fun j u => u.1 = (if cx_df lo hi (cx_rl nt b le lo hi) (cx_rh nt b gr lo hi) j = true then 1 else 0) ∧ ∀ t, t < nt → u.2.1 t = (if t < j then cx_rl nt b le lo hi t else lo t) ∧ u.2.2 t = (if t < j then cx_rh nt b gr lo hi t else hi t)) nt
    (fun n u _ => by
      show f_Model_round_L44 200 s.1 s.2 pl le gr (nI nt) _ (n + 1) u.1 (nI nt) u.2.1 u.2.2 = _
      rw [f_Model_round_L44, if_pos (nI_le (Nat.le_refl _) (by omega))])
    (fun n j u hj hU => by
      obtain ⟨w, g1, g2⟩ := cx_L54 (t := j) (b := b) (pl := pl) (lB := s.1) (hB := s.2) (le := le) (gr := gr) (lo := lo) (hi := hi) (c22 := u.2.1) (c23 := u.2.2) (ch := cx_df lo hi (cx_rl nt b le lo hi) (cx_rh nt b gr lo hi) j) (K := fun i71 i72 c73 c74 => f_Model_round_L44 200 s.1 s.2 pl le gr (nI nt) (fun i75 i76 c77 c78 => if i75 = 0 ∨ i75 = 1 then some (i75, c77, c78, s.1, s.2) else none) n i71 (nI j + 1) c73 c74) hnt hj hpl hP (by rw [(hU.2 j hj).1, if_neg (Nat.lt_irrefl j)]) (by rw [(hU.2 j hj).2, if_neg (Nat.lt_irrefl j)])
      refine ⟨(if (cx_df lo hi (cx_rl nt b le lo hi) (cx_rh nt b gr lo hi) j || (decide (cx_rl nt b le lo hi j ≠ lo j) || decide (cx_rh nt b gr lo hi j ≠ hi j))) = true then 1 else 0, w.1, w.2), ⟨rfl, fun t ht => ?_⟩, ?_⟩
      · show w.1 t = _ ∧ w.2 t = _
        rw [(g2 t).1, (g2 t).2]
        by_cases q : t = j
        · subst q; rw [if_pos rfl, if_pos rfl, if_pos (by omega), if_pos (by omega)]; exact ⟨rfl, rfl⟩
        · rw [if_neg q, if_neg q, (hU.2 t ht).1, (hU.2 t ht).2]
          by_cases v : t < j
          · rw [if_pos v, if_pos v, if_pos (by omega), if_pos (by omega)]; exact ⟨rfl, rfl⟩
          · rw [if_neg v, if_neg v, if_neg (by omega), if_neg (by omega)]; exact ⟨rfl, rfl⟩
      · show f_Model_round_L44 200 s.1 s.2 pl le gr (nI nt) _ (n + 1) u.1 (nI j) u.2.1 u.2.2 = _
        rw [f_Model_round_L44, if_neg (nI_ge hj (by omega)), hU.1]
        refine g1.trans ?_
        rw [nI_1]) 200 0 (0, lo, hi) (by omega) (by omega) ⟨rfl, fun t ht => ⟨rfl, rfl⟩⟩
  refine ⟨u.2.1, u.2.2, s.1, s.2, e.trans (e2.trans ?_), fun t ht => ?_⟩
  · have h01 : u.1 = 0 ∨ u.1 = 1 := by
      rw [hU.1]
      by_cases z : cx_df lo hi (cx_rl nt b le lo hi) (cx_rh nt b gr lo hi) nt = true
      · rw [if_pos z]; exact Or.inr rfl
      · rw [if_neg z]; exact Or.inl rfl
    rw [if_pos h01, hU.1]
  · rw [(hU.2 t ht).1, (hU.2 t ht).2, if_pos ht, if_pos ht]; exact ⟨rfl, rfl⟩
theorem cx_mrounds {nt R : Nat} {b : Nat → Int32} {pl : FI} {le gr lo hi lB hB : FJ} {ch : Int32} (hnt : nt ≤ 24) (hR : R ≤ 60) (hpl : ∀ s, s < nt → pl s = b s) : ∃ lo' hi' lB' hB' : FJ, f_Model_rounds 200 (nI R) pl lo hi lB hB le gr (nI nt) ch = some (lo', hi', lB', hB', nI (cx_lr nt b le gr lo hi R)) ∧ ∀ t, t < nt → lo' t = (cx_it nt b le gr lo hi R).1 t ∧ hi' t = (cx_it nt b le gr lo hi R).2 t := by
  unfold f_Model_rounds
  obtain ⟨s, hP, e⟩ := cx_lp (fun n j (s : FJ × FJ × FJ × FJ × Int32) => f_Model_rounds_L7 200 (nI R) pl le gr (nI nt) (fun i10 c11 c12 c13 c14 c15 => some (c11, c12, c13, c14, c15)) n (nI (j + 1)) s.1 s.2.1 s.2.2.1 s.2.2.2.1 s.2.2.2.2) (fun s => some s)
    (fun j s => s.2.2.2.2 = nI (cx_lr nt b le gr lo hi j) ∧ ∀ t, t < nt → s.1 t = (cx_it nt b le gr lo hi j).1 t ∧ s.2.1 t = (cx_it nt b le gr lo hi j).2 t) R
    (fun n s _ => by
      show f_Model_rounds_L7 200 (nI R) pl le gr (nI nt) _ (n + 1) (nI (R + 1)) s.1 s.2.1 s.2.2.1 s.2.2.2.1 s.2.2.2.2 = _
      rw [f_Model_rounds_L7, if_pos (nI_lt (by omega) (by omega))])
    (fun n j s hj hP => by
      obtain ⟨lo', hi', lB', hB', g1, g2⟩ := cx_mround (b := b) (pl := pl) (le := le) (gr := gr) (lo := s.1) (hi := s.2.1) (lB := s.2.2.1) (hB := s.2.2.2.1) hnt hpl
      have r1 : ∀ t, t < nt → cx_rl nt b le s.1 s.2.1 t = (cx_it nt b le gr lo hi (j + 1)).1 t := fun t ht => cx_rl_eq (fun _ _ => rfl) (fun i hi => (hP.2 i hi).1) (fun i hi => (hP.2 i hi).2) ht (fun _ _ _ => rfl)
      have r2 : ∀ t, t < nt → cx_rh nt b gr s.1 s.2.1 t = (cx_it nt b le gr lo hi (j + 1)).2 t := fun t ht => cx_rh_eq (fun _ _ => rfl) (fun i hi => (hP.2 i hi).1) (fun i hi => (hP.2 i hi).2) ht (fun _ _ _ => rfl)
      have ec : cx_df s.1 s.2.1 (cx_rl nt b le s.1 s.2.1) (cx_rh nt b gr s.1 s.2.1) nt = cx_cg nt b le gr lo hi j := cx_df_eq fun t ht => ⟨(hP.2 t ht).1, (hP.2 t ht).2, r1 t ht, r2 t ht⟩
      rw [ec] at g1
      refine ⟨(lo', hi', lB', hB', nI (cx_lr nt b le gr lo hi (j + 1))), ⟨rfl, fun t ht => ⟨(g2 t ht).1.trans (r1 t ht), (g2 t ht).2.trans (r2 t ht)⟩⟩, ?_⟩
      show f_Model_rounds_L7 200 (nI R) pl le gr (nI nt) _ (n + 1) (nI (j + 1)) s.1 s.2.1 s.2.2.1 s.2.2.2.1 s.2.2.2.2 = f_Model_rounds_L7 200 (nI R) pl le gr (nI nt) _ n (nI (j + 1 + 1)) lo' hi' lB' hB' (nI (cx_lr nt b le gr lo hi (j + 1)))
      rw [f_Model_rounds_L7, if_neg (nI_nlt (by omega) (by omega)), g1, cx_ob, nI_1, hP.1, cx_lr]
      by_cases z : cx_cg nt b le gr lo hi j = true
      · rw [if_pos z, if_neg cx_i1, if_pos z]
      · rw [if_neg z, if_pos rfl, if_neg z]) 200 0 (lo, hi, lB, hB, 0) (by omega) (by omega) ⟨rfl, fun t ht => ⟨rfl, rfl⟩⟩
  refine ⟨s.1, s.2.1, s.2.2.1, s.2.2.2.1, e.trans ?_, hP.2⟩
  rw [← hP.1]
theorem cx_begins {nt : Nat} {b : Nat → Int32} {pl : FI} {gr lo hi : FJ} {start : Int64} (hnt : nt ≤ 24) (hpl : ∀ s, s < nt → pl s = b s) (hg : ∀ t, t < nt → ∀ p, p < 24 → cx_bt (b t) p = true → ∃ u, gr p = lN u ∧ u ≤ 2 ^ 50) (hne : ∀ t, t < nt → 0 < cx_ct (b t) 24) : ∃ lo' hi' : FJ, f_Model_begins 200 start pl lo hi gr (nI nt) = some (lo', hi') ∧ ∀ t, t < nt → lo' t = start ∧ hi' t = cx_mi gr (b t) 24 := by
  unfold f_Model_begins
  obtain ⟨s, hP, e⟩ := cx_lp (fun n j (s : FJ × FJ) => f_Model_begins_L2 200 start pl gr (nI nt) (fun i32 c33 c34 => some (c33, c34)) n (nI j) s.1 s.2) (fun s => some s) (fun j s => ∀ t, t < j → s.1 t = start ∧ s.2 t = cx_mi gr (b t) 24) nt
    (fun n s _ => by
      show f_Model_begins_L2 200 start pl gr (nI nt) _ (n + 1) (nI nt) s.1 s.2 = _
      rw [f_Model_begins_L2, if_pos (nI_le (Nat.le_refl _) (by omega))])
    (fun n j s hj hP => by
      obtain ⟨u, hU, e⟩ := cx_lp (fun m p (u : FJ) => f_Model_begins_L29 (nI j) pl gr (fun i30 c31 => f_Model_begins_L2 200 start pl gr (nI nt) (fun i32 c33 c34 => some (c33, c34)) n (nI j + 1) (vp_updL s.1 (nI j).toNatClampNeg start) c31) m (nI p) u) (fun u => f_Model_begins_L2 200 start pl gr (nI nt) (fun i32 c33 c34 => some (c33, c34)) n (nI j + 1) (vp_updL s.1 (nI j).toNatClampNeg start) u)
        (fun p u => u j = (if cx_ct (b j) p = 0 then -1 else cx_mi gr (b j) p) ∧ ∀ x, x ≠ j → u x = s.2 x) 24
        (fun m u _ => by
          show f_Model_begins_L29 (nI j) pl gr _ (m + 1) (nI 24) u = _
          rw [f_Model_begins_L29, if_pos (cx_L24 (by omega) (by omega))])
        (fun m p u hp hU => by
          by_cases hb : cx_bt (b j) p = true
          · have hct : ¬ cx_ct (b j) (p + 1) = 0 := by rw [cx_ct, if_pos hb]; omega
            refine ⟨vp_updL u j (cx_mi gr (b j) (p + 1)), ⟨by rw [pk_uLs, if_neg hct], fun x hx => by rw [pk_uLn hx]; exact hU.2 x hx⟩, ?_⟩
            show f_Model_begins_L29 (nI j) pl gr _ (m + 1) (nI p) u = _
            rw [f_Model_begins_L29, if_neg (cx_G24 (by omega)), if_pos (ck_nI (by omega) (by decide)), nI_clamp (show j < 2 ^ 31 by omega), hpl j hj, cx_bif (by omega), if_pos hb, f_Model_begins_J56, if_neg cx_i1, if_pos (ck_nI (by omega) (by decide)), nI_clamp (show j < 2 ^ 31 by omega), hU.1, nI_clamp (show p < 2 ^ 31 by omega), cx_mi, if_pos hb, nI_1]
            by_cases c0 : cx_ct (b j) p = 0
            · rw [if_pos c0, if_pos c0, if_pos rfl, if_pos (ck_nI (by omega) (by decide)), if_pos (ck_nI (by omega) (by decide)), nI_1]
            · obtain ⟨w, w1, _, w2⟩ := cx_mi_b (g := gr) (m := b j) (x := 0) (B := 2 ^ 50) p (fun i hi hz => by
                obtain ⟨w, w1, w2⟩ := hg j hj i (by omega) hz
                exact ⟨w, w1, Nat.zero_le _, w2⟩) (by omega)
              have hn1 : ¬ cx_mi gr (b j) p = (-1 : Int64) := by
                rw [w1]
                intro z
                have := congrArg Int64.toInt z
                rw [pk_lT (by omega)] at this
                have h2 : (-1 : Int64).toInt = -1 := by decide
                omega
              rw [if_neg c0, if_neg c0, if_neg hn1, if_pos (ck_nI (by omega) (by decide)), if_pos (ck_nI (by omega) (by decide))]
              by_cases v : cx_mi gr (b j) p ≤ gr p
              · rw [if_pos v, if_pos (ck_nI (by omega) (by decide)), if_pos (ck_nI (by omega) (by decide)), if_neg (Int64.not_lt.mpr v), nI_1]
              · rw [if_neg v, if_pos (ck_nI (by omega) (by decide)), if_pos (ck_nI (by omega) (by decide)), if_pos (Int64.not_le.mp v), nI_1]
          · refine ⟨vp_updL u j (u j), ⟨by rw [pk_uLs, hU.1, cx_ct, if_neg hb, Nat.add_zero, cx_mi, if_neg hb], fun x hx => by rw [pk_uLn hx]; exact hU.2 x hx⟩, ?_⟩
            show f_Model_begins_L29 (nI j) pl gr _ (m + 1) (nI p) u = _
            rw [f_Model_begins_L29, if_neg (cx_G24 (by omega)), if_pos (ck_nI (by omega) (by decide)), nI_clamp (show j < 2 ^ 31 by omega), hpl j hj, cx_bif (by omega), if_neg hb, f_Model_begins_J56, if_pos rfl, if_pos (ck_nI (by omega) (by decide)), if_pos (ck_nI (by omega) (by decide)), nI_clamp (show j < 2 ^ 31 by omega), nI_1, nI_1]) 200 0 (vp_updL s.2 j (-1)) (by omega) (by omega) ⟨pk_uLs, fun x hx => pk_uLn hx⟩
      refine ⟨(vp_updL s.1 j start, u), fun t ht => ?_, ?_⟩
      · show vp_updL s.1 j start t = _ ∧ u t = _
        by_cases q : t = j
        · subst q
          rw [pk_uLs, hU.1, if_neg (by have := hne t hj; omega)]; exact ⟨rfl, rfl⟩
        · rw [pk_uLn q, hU.2 t q]; exact hP t (by omega)
      · show f_Model_begins_L2 200 start pl gr (nI nt) _ (n + 1) (nI j) s.1 s.2 = _
        rw [f_Model_begins_L2, if_neg (nI_ge hj (by omega)), if_pos (ck_nI (by omega) (by decide)), if_pos (ck_nI (by omega) (by decide)), nI_clamp (show j < 2 ^ 31 by omega)]
        rw [nI_clamp (show j < 2 ^ 31 by omega), nI_1] at e
        rw [nI_1]
        exact e) 200 0 (lo, hi) (by omega) (by omega) (fun t ht => absurd ht (Nat.not_lt_zero t))
  exact ⟨s.1, s.2, e, hP⟩
