/-! the class's rows of places, and its rounds -/
theorem cx_lpl {σ R : Type} (L : Nat → Nat → σ → Option R) (K : σ → Option R) (P : Nat → σ → Prop) (m : Int32) (hend : ∀ n s, P 24 s → L (n + 1) (cx_ct m 24) s = K s) (hstep : ∀ n p s, p < 24 → cx_bt m p = true → P p s → ∃ s', P (p + 1) s' ∧ L (n + 1) (cx_ct m p) s = L n (cx_ct m p + 1) s') (hskip : ∀ p s, p < 24 → ¬ cx_bt m p = true → P p s → P (p + 1) s) : ∀ (d p n : Nat) (s : σ), p + d = 24 → d < n → P p s → ∃ s', P 24 s' ∧ L n (cx_ct m p) s = K s' := by
  intro d
  induction d with
  | zero =>
    intro p n s h1 h2 hP
    obtain ⟨n, rfl⟩ : ∃ k, n = k + 1 := ⟨n - 1, by omega⟩
    rw [show p = 24 by omega] at hP ⊢
    exact ⟨s, hP, hend n s hP⟩
  | succ d ih =>
    intro p n s h1 h2 hP
    by_cases z : cx_bt m p = true
    · obtain ⟨n, rfl⟩ : ∃ k, n = k + 1 := ⟨n - 1, by omega⟩
      obtain ⟨s', hP', e⟩ := hstep n p s (by omega) z hP
      obtain ⟨s2, h3, h4⟩ := ih (p + 1) n s' (by omega) (by omega) hP'
      rw [cx_ct, if_pos z] at h4
      exact ⟨s2, h3, e.trans h4⟩
    · obtain ⟨s2, h3, h4⟩ := ih (p + 1) n s (by omega) (by omega) (hskip p s (by omega) z hP)
      rw [cx_ct, if_neg z, Nat.add_zero] at h4
      exact ⟨s2, h3, h4⟩
theorem cx_gu_s {M : Nat → FI} {i j : Nat} {x : Int32} : gupd M i j x i = upd (M i) j x := if_pos rfl
theorem cx_gu_n {M : Nat → FI} {i j a : Nat} {x : Int32} (h : a ≠ i) : gupd M i j x a = M a := if_neg h
theorem cx_ct_lt {m : Int32} {q p : Nat} (hq : q < p) (hb : cx_bt m q = true) : cx_ct m q < cx_ct m p := by
  have h1 : cx_ct m (q + 1) ≤ cx_ct m p := cx_ct_le (by omega)
  rw [cx_ct, if_pos hb] at h1
  omega
theorem cx_append19 {m : Int32} {g : FJ} {k : Nat} {pl : Nat → FI} {K : Int32 → Int64 → Int32 → (Nat → FI) → Option (FJ × FJ × (Nat → FI) × FI × Int32)} (hk : k < 24) (hm : cx_ct m 24 ≤ 4) : ∀ (d p n : Nat) (pl0 : Nat → FI), p + d = 24 → d < n → (∀ q, q < p → cx_bt m q = true → pl0 k (cx_ct m q) = nI q) → (∀ j, j ≠ k → pl0 j = pl j) → ∃ (pl' : Nat → FI) (z : Int32), f_Bounds_append_L19 m (nI k) g K n (nI (cx_ct m p)) (cx_mi g m p) (nI p) pl0 = K (nI (cx_ct m 24)) (cx_mi g m 24) z pl' ∧ (∀ q, q < 24 → cx_bt m q = true → pl' k (cx_ct m q) = nI q) ∧ (∀ j, j ≠ k → pl' j = pl j) := by
  intro d
  induction d with
  | zero =>
    intro p n pl0 h1 h2 h3 h4
    obtain ⟨n, rfl⟩ : ∃ k, n = k + 1 := ⟨n - 1, by omega⟩
    rw [show p = 24 by omega] at h3 ⊢
    rw [f_Bounds_append_L19, if_pos (cx_L24 (by omega) (by omega))]
    exact ⟨pl0, _, rfl, h3, h4⟩
  | succ d ih =>
    intro p n pl0 h1 h2 h3 h4
    have hp : cx_ct m p ≤ cx_ct m 24 := cx_ct_le (by omega)
    obtain ⟨n, rfl⟩ : ∃ k, n = k + 1 := ⟨n - 1, by omega⟩
    rw [f_Bounds_append_L19, if_neg (cx_G24 (by omega))]
    by_cases q4 : cx_ct m p = 4
    · rw [if_pos (cx_L4 (by omega) (by omega))]
      obtain ⟨e1, e2⟩ := cx_ct_end (m := m) (p := p) (q := 24) (by omega) (by omega)
      rw [e1, cx_mi_end (q := 24) (by omega) e2]
      refine ⟨pl0, _, rfl, fun q hq hb => h3 q ?_ hb, h4⟩
      rcases Nat.lt_or_ge q p with w | w
      · exact w
      · exact absurd hb (e2 q w hq)
    · rw [if_neg (cx_G4 (by omega)), cx_isIn (by omega), cx_ob]
      by_cases z : cx_bt m p = true
      · have hs : ∀ j, j ≠ k → gupd pl0 k (cx_ct m p) (nI p) j = pl j := fun j hj => (cx_gu_n hj).trans (h4 j hj)
        have hr : ∀ q, q < p + 1 → cx_bt m q = true → gupd pl0 k (cx_ct m p) (nI p) k (cx_ct m q) = nI q := by
          intro q hq hb
          rw [cx_gu_s]
          by_cases e : q = p
          · subst e; exact pk_us
          · rw [pk_un (by have := cx_ct_lt (p := p) (show q < p by omega) hb; omega)]
            exact h3 q (by omega) hb
        obtain ⟨pl', zz, g1, g2, g3⟩ := ih (p + 1) n _ (by omega) (by omega) hr hs
        rw [cx_ct, if_pos z, cx_mi, if_pos z] at g1
        rw [if_pos z, if_neg (by decide)]
        refine ⟨pl', zz, ?_, g2, g3⟩
        by_cases c0 : cx_ct m p = 0
        · rw [if_pos (by rw [c0]; rfl), if_pos (ck_nI (by omega) (by decide)), f_Bounds_append_J68, if_pos (ck_nI (by omega) (by decide)), if_pos (ck_nI (by omega) (by decide)), nI_clamp (by omega), nI_clamp (by omega), nI_clamp (by omega), nI_1, nI_1]
          rw [if_pos c0] at g1
          exact g1
        · rw [if_neg (nI_ne0 (by omega) (by omega)), if_pos (ck_nI (by omega) (by decide)), f_Bounds_append_J68, if_pos (ck_nI (by omega) (by decide)), if_pos (ck_nI (by omega) (by decide)), nI_clamp (by omega), nI_clamp (by omega), nI_clamp (by omega), nI_1, nI_1]
          rw [if_neg c0] at g1
          exact g1
      · rw [if_neg z, if_pos rfl, nI_1]
        obtain ⟨pl', zz, g1, g2, g3⟩ := ih (p + 1) n pl0 (by omega) (by omega) (fun q hq hb => h3 q (by
          rcases Nat.lt_or_ge q p with w | w
          · exact w
          · exact absurd (by rw [show p = q by omega]; exact hb) z) hb) h4
        rw [cx_ct, if_neg z, Nat.add_zero, cx_mi, if_neg z] at g1
        exact ⟨pl', zz, g1, g2, g3⟩
theorem cx_append {m : Int32} {start : Int64} {g lo hi : FJ} {pl : Nat → FI} {pc : FI} {k : Nat} (hk : k < 24) (hm : cx_ct m 24 ≤ 4) : ∃ pl' : Nat → FI, f_Bounds_append 200 m start g lo hi pl pc (nI k) = some (vp_updL lo k start, vp_updL hi k (cx_mi g m 24), pl', upd pc k (nI (cx_ct m 24)), nI (k + 1)) ∧ (∀ q, q < 24 → cx_bt m q = true → pl' k (cx_ct m q) = nI q) ∧ (∀ j, j ≠ k → pl' j = pl j) := by
  obtain ⟨pl', z, g1, g2, g3⟩ := cx_append19 (m := m) (g := g) (pl := pl) (K := fun i25 i26 i27 c28 => f_Bounds_append_J93 start i25 i26 lo hi c28 pc (nI k)) hk hm 24 0 200 pl (by omega) (by omega) (fun q hq => absurd hq (Nat.not_lt_zero q)) (fun _ _ => rfl)
  refine ⟨pl', ?_, g2, g3⟩
  unfold f_Bounds_append
  rw [if_pos (cx_T24 hk)]
  refine g1.trans ?_
  rw [f_Bounds_append_J93, if_pos (ck_nI (by omega) (by decide)), if_pos (ck_nI (by omega) (by decide)), if_pos (ck_nI (by omega) (by decide)), nI_clamp (by omega), nI_1]
/-- the rows of places that the masks give -/
def cx_PL (nt : Nat) (b : Nat → Int32) (pl : Nat → FI) (pc : FI) : Prop := ∀ t, t < nt → pc t = nI (cx_ct (b t) 24) ∧ cx_ct (b t) 24 ≤ 4 ∧ ∀ p, p < 24 → cx_bt (b t) p = true → pl t (cx_ct (b t) p) = nI p
theorem cx_sb28 {nt t : Nat} {b : Nat → Int32} {pl : Nat → FI} {pc : FI} {lo hi : FJ} {K : Int32 → FJ → FJ → Option (FJ × FJ)} (hPL : cx_PL nt b pl pc) (ht : t < nt) (hnt : nt ≤ 24) (c10 c11 : FJ) : ∃ s : FJ × FJ, f_Bounds_sumBounds_L28 (nI t) lo hi pl pc K 200 0 c10 c11 = K (nI (cx_ct (b t) 24)) s.1 s.2 ∧ ∀ q, q < 24 → s.1 q = c10 q + (if cx_bt (b t) q = true then lo t else 0) ∧ s.2 q = c11 q + (if cx_bt (b t) q = true then hi t else 0) := by
  obtain ⟨h1, h2, h3⟩ := hPL t ht
  obtain ⟨s, hP, e⟩ := cx_lpl (fun n j (s : FJ × FJ) => f_Bounds_sumBounds_L28 (nI t) lo hi pl pc K n (nI j) s.1 s.2) (fun s => K (nI (cx_ct (b t) 24)) s.1 s.2) (fun p s => ∀ q, q < 24 → s.1 q = (if q < p ∧ cx_bt (b t) q = true then c10 q + lo t else c10 q) ∧ s.2 q = (if q < p ∧ cx_bt (b t) q = true then c11 q + hi t else c11 q)) (b t)
    (fun n s _ => by
      show f_Bounds_sumBounds_L28 (nI t) lo hi pl pc K (n + 1) (nI (cx_ct (b t) 24)) s.1 s.2 = _
      rw [f_Bounds_sumBounds_L28, if_pos (ck_nI (by omega) (by decide)), nI_clamp (by omega), h1, if_pos (nI_le (Nat.le_refl _) (by omega))])
    (fun n p s hp hb hP => by
      have hlt : cx_ct (b t) p < cx_ct (b t) 24 := cx_ct_lt hp hb
      refine ⟨(vp_updL s.1 p (s.1 p + lo t), vp_updL s.2 p (s.2 p + hi t)), fun q hq => ?_, ?_⟩
      · by_cases z : q = p
        · subst z
          rw [if_pos ⟨by omega, hb⟩, if_pos ⟨by omega, hb⟩]
          show vp_updL s.1 q _ q = _ ∧ vp_updL s.2 q _ q = _
          rw [pk_uLs, pk_uLs, (hP q hq).1, (hP q hq).2, if_neg (fun w => by omega), if_neg (fun w => by omega)]
          exact ⟨rfl, rfl⟩
        · show vp_updL s.1 p _ q = _ ∧ vp_updL s.2 p _ q = _
          rw [pk_uLn z, pk_uLn z, (hP q hq).1, (hP q hq).2]
          by_cases w : q < p ∧ cx_bt (b t) q = true
          · rw [if_pos w, if_pos w, if_pos ⟨by omega, w.2⟩, if_pos ⟨by omega, w.2⟩]; exact ⟨rfl, rfl⟩
          · rw [if_neg w, if_neg w, if_neg (fun v => w ⟨by omega, v.2⟩), if_neg (fun v => w ⟨by omega, v.2⟩)]; exact ⟨rfl, rfl⟩
      · show f_Bounds_sumBounds_L28 (nI t) lo hi pl pc K (n + 1) (nI (cx_ct (b t) p)) s.1 s.2 = _
        rw [f_Bounds_sumBounds_L28, if_pos (ck_nI (by omega) (by decide)), nI_clamp (show t < 2 ^ 31 by omega), h1, if_neg (nI_ge hlt (by omega)), nI_clamp (show cx_ct (b t) p < 2 ^ 31 by omega), h3 p hp hb, nI_clamp (show p < 2 ^ 31 by omega)]
        simp (disch := omega) only [cx_ck, if_true, nI_1])
    (fun p s hp hb hP q hq => by
      rw [(hP q hq).1, (hP q hq).2]
      by_cases w : q < p ∧ cx_bt (b t) q = true
      · rw [if_pos w, if_pos w, if_pos ⟨by omega, w.2⟩, if_pos ⟨by omega, w.2⟩]; exact ⟨rfl, rfl⟩
      · have w' : ¬ (q < p + 1 ∧ cx_bt (b t) q = true) := fun v => w ⟨by
          rcases Nat.lt_or_ge q p with u | u
          · exact u
          · exact absurd (by rw [show p = q by omega]; exact v.2) hb, v.2⟩
        rw [if_neg w, if_neg w, if_neg w', if_neg w']; exact ⟨rfl, rfl⟩) 24 0 200 (c10, c11) (by omega) (by omega) (fun q hq => by rw [if_neg (fun w => by omega), if_neg (fun w => by omega)]; exact ⟨rfl, rfl⟩)
  refine ⟨s, e, fun q hq => ?_⟩
  rw [(hP q hq).1, (hP q hq).2]
  by_cases w : cx_bt (b t) q = true
  · simp only [hq, w, true_and, if_true, eq_self, and_self]
  · have w2 : ¬ (q < 24 ∧ cx_bt (b t) q = true) := fun v => w v.2
    simp only [if_neg w, if_neg w2, Int64.add_zero, and_self]
theorem cx_sumB {nt : Nat} {b : Nat → Int32} {pl : Nat → FI} {pc : FI} {lo hi a1 a2 : FJ} (hPL : cx_PL nt b pl pc) (hnt : nt ≤ 24) : ∃ ls us : FJ, f_Bounds_sumBounds 200 a1 a2 lo hi pl pc (nI nt) = some (ls, us) ∧ ∀ q, q < 24 → ls q = cx_all nt b lo q ∧ us q = cx_all nt b hi q := by
  unfold f_Bounds_sumBounds
  obtain ⟨s, hP, e⟩ := cx_lp (fun n j (s : FJ × FJ) => f_Bounds_sumBounds_L18 200 lo hi pl pc (nI nt) (fun i17 c18 c19 => some (c18, c19)) n (nI j) s.1 s.2) (fun s => some (s.1, s.2)) (fun j s => ∀ q, q < 24 → s.1 q = cx_all j b lo q ∧ s.2 q = cx_all j b hi q) nt
    (fun n s _ => by
      show f_Bounds_sumBounds_L18 200 lo hi pl pc (nI nt) _ (n + 1) (nI nt) s.1 s.2 = _
      rw [f_Bounds_sumBounds_L18, if_pos (nI_le (Nat.le_refl _) (by omega))])
    (fun n j s hj hP => by
      obtain ⟨s', e, h⟩ := cx_sb28 (lo := lo) (hi := hi) (K := fun i14 c15 c16 => f_Bounds_sumBounds_L18 200 lo hi pl pc (nI nt) (fun i17 c18 c19 => some (c18, c19)) n (nI j + 1) c15 c16) hPL hj hnt s.1 s.2
      refine ⟨s', fun q hq => ?_, ?_⟩
      · rw [(h q hq).1, (h q hq).2, (hP q hq).1, (hP q hq).2]
        exact ⟨rfl, rfl⟩
      · show f_Bounds_sumBounds_L18 200 lo hi pl pc (nI nt) _ (n + 1) (nI j) s.1 s.2 = _
        rw [f_Bounds_sumBounds_L18, if_neg (nI_ge hj (by omega)), e, nI_1]) 200 0 (fun _ => 0, fun _ => 0) (by omega) (by omega) (fun q hq => ⟨rfl, rfl⟩)
  exact ⟨s.1, s.2, e, hP⟩
theorem cx_nThing {nt t : Nat} {b : Nat → Int32} {pl : Nat → FI} {pc : FI} {le gr lo hi lo0 hi0 ls us : FJ} (hPL : cx_PL nt b pl pc) (hnt : nt ≤ 24) (ht : t < nt) (hs : ∀ q, q < 24 → ls q = cx_all nt b lo0 q ∧ us q = cx_all nt b hi0 q) (h1 : lo t = lo0 t) (h2 : hi t = hi0 t) :
    f_Bounds_narrowThing 200 (nI t) le gr ls us lo hi pl pc = some (if (decide (cx_rl nt b le lo0 hi0 t ≠ lo0 t) || decide (cx_rh nt b gr lo0 hi0 t ≠ hi0 t)) = true then 1 else 0, vp_updL lo t (cx_rl nt b le lo0 hi0 t), vp_updL hi t (cx_rh nt b gr lo0 hi0 t)) := by
  obtain ⟨p1, p2, p3⟩ := hPL t ht
  unfold f_Bounds_narrowThing
  rw [if_pos (ck_nI (by omega) (by decide)), if_pos (ck_nI (by omega) (by decide)), nI_clamp (by omega)]
  generalize hK : (fun (i14 i15 : Int64) (i16 : Int32) => if ck (nI t) 24 = true then if i14 = lo t then if ck (nI t) 24 = true then if i15 = hi t then f_Bounds_narrowThing_J153 (nI t) i14 i15 0 lo hi else f_Bounds_narrowThing_J148 (nI t) i14 i15 lo hi else none else f_Bounds_narrowThing_J148 (nI t) i14 i15 lo hi else none) = KK
  obtain ⟨s, hP, e⟩ := cx_lpl (fun n j (s : Int64 × Int64) => f_Bounds_narrowThing_L18 (nI t) lo hi le gr ls us pl pc KK n s.1 s.2 (nI j)) (fun s => KK s.1 s.2 (nI (cx_ct (b t) 24))) (fun p s => s.1 = cx_fM (fun p => le p - cx_ot nt b hi0 t p) (b t) (lo0 t) p ∧ s.2 = cx_fm (fun p => gr p - cx_ot nt b lo0 t p) (b t) (hi0 t) p) (b t)
    (fun n s _ => by
      show f_Bounds_narrowThing_L18 (nI t) lo hi le gr ls us pl pc KK (n + 1) s.1 s.2 (nI (cx_ct (b t) 24)) = _
      rw [f_Bounds_narrowThing_L18, if_pos (ck_nI (by omega) (by decide)), nI_clamp (by omega), p1, if_pos (nI_le (Nat.le_refl _) (by omega))])
    (fun n p s hp hb hP => by
      have hlt : cx_ct (b t) p < cx_ct (b t) 24 := cx_ct_lt hp hb
      refine ⟨(cx_fM (fun p => le p - cx_ot nt b hi0 t p) (b t) (lo0 t) (p + 1), cx_fm (fun p => gr p - cx_ot nt b lo0 t p) (b t) (hi0 t) (p + 1)), ⟨rfl, rfl⟩, ?_⟩
      show f_Bounds_narrowThing_L18 (nI t) lo hi le gr ls us pl pc KK (n + 1) s.1 s.2 (nI (cx_ct (b t) p)) = f_Bounds_narrowThing_L18 (nI t) lo hi le gr ls us pl pc KK n (cx_fM (fun p => le p - cx_ot nt b hi0 t p) (b t) (lo0 t) (p + 1)) (cx_fm (fun p => gr p - cx_ot nt b lo0 t p) (b t) (hi0 t) (p + 1)) (nI (cx_ct (b t) p + 1))
      rw [f_Bounds_narrowThing_L18, if_pos (ck_nI (by omega) (by decide)), nI_clamp (show t < 2 ^ 31 by omega), p1, if_neg (nI_ge hlt (by omega)), nI_clamp (show cx_ct (b t) p < 2 ^ 31 by omega), p3 p hp hb, nI_clamp (show p < 2 ^ 31 by omega)]
      simp (disch := omega) only [cx_ck, if_true]
      rw [(hs p hp).1, (hs p hp).2, h1, h2, cx_all_sub hb ht, cx_all_sub hb ht, hP.1, hP.2, f_Bounds_narrowThing_J103, f_Bounds_narrowThing_J103, nI_1, cx_fm, cx_fM, if_pos hb, if_pos hb]
      by_cases u1 : cx_fm (fun p => gr p - cx_ot nt b lo0 t p) (b t) (hi0 t) p ≤ gr p - cx_ot nt b lo0 t p
      · rw [if_pos u1, if_neg (Int64.not_lt.mpr u1)]
        by_cases u2 : le p - cx_ot nt b hi0 t p ≤ cx_fM (fun p => le p - cx_ot nt b hi0 t p) (b t) (lo0 t) p
        · rw [if_pos u2, if_neg (Int64.not_lt.mpr u2)]
        · rw [if_neg u2, if_pos (Int64.not_le.mp u2)]
      · rw [if_neg u1, if_pos (Int64.not_le.mp u1)]
        by_cases u2 : le p - cx_ot nt b hi0 t p ≤ cx_fM (fun p => le p - cx_ot nt b hi0 t p) (b t) (lo0 t) p
        · rw [if_pos u2, if_neg (Int64.not_lt.mpr u2)]
        · rw [if_neg u2, if_pos (Int64.not_le.mp u2)])
    (fun p s hp hb hP => by
      rw [cx_fM, cx_fm, if_neg hb, if_neg hb]
      exact hP) 24 0 200 (lo t, hi t) (by omega) (by omega) ⟨h1, h2⟩
  have e : f_Bounds_narrowThing_L18 (nI t) lo hi le gr ls us pl pc KK 200 (lo t) (hi t) 0 = KK (cx_rl nt b le lo0 hi0 t) (cx_rh nt b gr lo0 hi0 t) (nI (cx_ct (b t) 24)) := e.trans (by rw [hP.1, hP.2]; rfl)
  rw [e, ← hK]
  have j1 : ∀ (a c : Int64) (z : Int32), (z = 0 ∨ z = 1) → f_Bounds_narrowThing_J153 (nI t) a c z lo hi = some (z, vp_updL lo t a, vp_updL hi t c) := by
    intro a c z hz
    rw [f_Bounds_narrowThing_J153, if_pos (ck_nI (by omega) (by decide)), if_pos (ck_nI (by omega) (by decide)), if_pos hz, nI_clamp (by omega)]
  simp (disch := omega) only [cx_ck, if_true]
  rw [h1, h2]
  by_cases q1 : cx_rl nt b le lo0 hi0 t = lo0 t
  · rw [if_pos q1, decide_eq_false (fun z => z q1), Bool.false_or]
    by_cases q2 : cx_rh nt b gr lo0 hi0 t = hi0 t
    · rw [if_pos q2, decide_eq_false (fun z => z q2), if_neg (by decide)]
      exact j1 _ _ 0 (Or.inl rfl)
    · rw [if_neg q2, decide_eq_true q2, if_pos rfl, f_Bounds_narrowThing_J148]
      exact j1 _ _ 1 (Or.inr rfl)
  · rw [if_neg q1, decide_eq_true q1, Bool.true_or, if_pos rfl, f_Bounds_narrowThing_J148]
    exact j1 _ _ 1 (Or.inr rfl)
theorem cx_nOnce {nt : Nat} {b : Nat → Int32} {pl : Nat → FI} {pc : FI} {le gr lo hi a1 a2 : FJ} (hPL : cx_PL nt b pl pc) (hnt : nt ≤ 24) : ∃ ls us lo' hi' : FJ, f_Bounds_narrowOnce 200 le gr a1 a2 lo hi pl pc (nI nt) = some (if cx_df lo hi (cx_rl nt b le lo hi) (cx_rh nt b gr lo hi) nt = true then 1 else 0, ls, us, lo', hi') ∧ ∀ t, t < nt → lo' t = cx_rl nt b le lo hi t ∧ hi' t = cx_rh nt b gr lo hi t := by
  obtain ⟨ls, us, e1, e2⟩ := cx_sumB (lo := lo) (hi := hi) (a1 := a1) (a2 := a2) hPL hnt
  unfold f_Bounds_narrowOnce
  rw [e1, cx_ob]
  obtain ⟨s, hP, e⟩ := cx_lp (fun n j (s : Int32 × FJ × FJ) => f_Bounds_narrowOnce_L8 200 ls us le gr pl pc (nI nt) (fun i10 i11 c12 c13 => if i10 = 0 ∨ i10 = 1 then some (i10, ls, us, c12, c13) else none) n s.1 (nI j) s.2.1 s.2.2) (fun s => if s.1 = 0 ∨ s.1 = 1 then some (s.1, ls, us, s.2.1, s.2.2) else none)
    (fun j s => s.1 = (if cx_df lo hi (cx_rl nt b le lo hi) (cx_rh nt b gr lo hi) j = true then 1 else 0) ∧ (∀ t, t < nt → s.2.1 t = (if t < j then cx_rl nt b le lo hi t else lo t) ∧ s.2.2 t = (if t < j then cx_rh nt b gr lo hi t else hi t))) nt
    (fun n s _ => by
      show f_Bounds_narrowOnce_L8 200 ls us le gr pl pc (nI nt) _ (n + 1) s.1 (nI nt) s.2.1 s.2.2 = _
      rw [f_Bounds_narrowOnce_L8, if_pos (nI_le (Nat.le_refl _) (by omega))])
    (fun n j s hj hP => by
      have g := cx_nThing (t := j) (le := le) (gr := gr) (lo := s.2.1) (hi := s.2.2) (lo0 := lo) (hi0 := hi) (ls := ls) (us := us) hPL hnt hj e2 (by rw [(hP.2 j hj).1, if_neg (Nat.lt_irrefl j)]) (by rw [(hP.2 j hj).2, if_neg (Nat.lt_irrefl j)])
      refine ⟨(if (decide (cx_rl nt b le lo hi j ≠ lo j) || decide (cx_rh nt b gr lo hi j ≠ hi j)) = true then 1 else s.1, vp_updL s.2.1 j (cx_rl nt b le lo hi j), vp_updL s.2.2 j (cx_rh nt b gr lo hi j)), ⟨?_, fun t ht => ?_⟩, ?_⟩
      · show (if (decide (cx_rl nt b le lo hi j ≠ lo j) || decide (cx_rh nt b gr lo hi j ≠ hi j)) = true then (1 : Int32) else s.1) = _
        rw [cx_df, hP.1]
        by_cases z : (decide (cx_rl nt b le lo hi j ≠ lo j) || decide (cx_rh nt b gr lo hi j ≠ hi j)) = true
        · rw [if_pos z, z, Bool.or_true, if_pos rfl]
        · rw [if_neg z, Bool.eq_false_iff.mpr z, Bool.or_false]
      · show vp_updL s.2.1 j _ t = _ ∧ vp_updL s.2.2 j _ t = _
        by_cases z : t = j
        · subst z
          rw [pk_uLs, pk_uLs, if_pos (by omega), if_pos (by omega)]; exact ⟨rfl, rfl⟩
        · rw [pk_uLn z, pk_uLn z, (hP.2 t ht).1, (hP.2 t ht).2]
          by_cases w : t < j
          · rw [if_pos w, if_pos w, if_pos (by omega), if_pos (by omega)]; exact ⟨rfl, rfl⟩
          · rw [if_neg w, if_neg w, if_neg (by omega), if_neg (by omega)]; exact ⟨rfl, rfl⟩
      · show f_Bounds_narrowOnce_L8 200 ls us le gr pl pc (nI nt) _ (n + 1) s.1 (nI j) s.2.1 s.2.2 = _
        rw [f_Bounds_narrowOnce_L8, if_neg (nI_ge hj (by omega)), g, cx_ob, nI_1]
        by_cases z : (decide (cx_rl nt b le lo hi j ≠ lo j) || decide (cx_rh nt b gr lo hi j ≠ hi j)) = true
        · rw [if_pos z, if_neg cx_i1, if_pos z]
        · rw [if_neg z, if_pos rfl, if_neg z]) 200 0 (0, lo, hi) (by omega) (by omega) ⟨rfl, fun t ht => ⟨rfl, rfl⟩⟩
  refine ⟨ls, us, s.2.1, s.2.2, e.trans ?_, fun t ht => ?_⟩
  · have h01 : s.1 = 0 ∨ s.1 = 1 := by
      rw [hP.1]
      by_cases z : cx_df lo hi (cx_rl nt b le lo hi) (cx_rh nt b gr lo hi) nt = true
      · rw [if_pos z]; exact Or.inr rfl
      · rw [if_neg z]; exact Or.inl rfl
    rw [if_pos h01, hP.1]
  · rw [(hP.2 t ht).1, (hP.2 t ht).2, if_pos ht, if_pos ht]; exact ⟨rfl, rfl⟩
theorem cx_narrow {nt R : Nat} {b : Nat → Int32} {pl : Nat → FI} {pc : FI} {le gr lo hi a1 a2 : FJ} (hPL : cx_PL nt b pl pc) (hnt : nt ≤ 24) (hR : R ≤ 60) : ∃ ls us lo' hi' : FJ, f_Bounds_narrow 200 (nI R) le gr a1 a2 lo hi pl pc (nI nt) = some (nI (cx_lr nt b le gr lo hi R), ls, us, lo', hi') ∧ ∀ t, t < nt → lo' t = (cx_it nt b le gr lo hi R).1 t ∧ hi' t = (cx_it nt b le gr lo hi R).2 t := by
  have key : ∀ (n k : Nat) (x y lo' hi' : FJ), k ≤ R → R < k + n → (∀ t, t < nt → lo' t = (cx_it nt b le gr lo hi k).1 t ∧ hi' t = (cx_it nt b le gr lo hi k).2 t) → (∀ j, j < k → cx_cg nt b le gr lo hi j = true) →
      ∃ ls us l2 h2 : FJ, f_Bounds_narrow_L2 200 (nI R) le gr pl pc (nI nt) (fun i9 c10 c11 c12 c13 => some (nI R, c10, c11, c12, c13)) n (nI (k + 1)) x y lo' hi' = some (nI (cx_lr nt b le gr lo hi R), ls, us, l2, h2) ∧ ∀ t, t < nt → l2 t = (cx_it nt b le gr lo hi R).1 t ∧ h2 t = (cx_it nt b le gr lo hi R).2 t := by
    intro n
    induction n with
    | zero => intro k x y lo' hi' h1 h2; omega
    | succ n ih =>
      intro k x y lo' hi' h1 h2 h3 h4
      rw [f_Bounds_narrow_L2]
      by_cases q : k = R
      · subst q
        rw [if_pos (nI_lt (by omega) (by omega)), cx_lr_all h4]
        exact ⟨x, y, lo', hi', rfl, h3⟩
      · rw [if_neg (nI_nlt (by omega) (by omega))]
        obtain ⟨ls, us, l2, h2', e1, e2⟩ := cx_nOnce (le := le) (gr := gr) (lo := lo') (hi := hi') (a1 := x) (a2 := y) hPL hnt
        have r1 : ∀ t, t < nt → cx_rl nt b le lo' hi' t = (cx_it nt b le gr lo hi (k + 1)).1 t := fun t ht => cx_rl_eq (fun _ _ => rfl) (fun s hs => (h3 s hs).1) (fun s hs => (h3 s hs).2) ht (fun _ _ _ => rfl)
        have r2 : ∀ t, t < nt → cx_rh nt b gr lo' hi' t = (cx_it nt b le gr lo hi (k + 1)).2 t := fun t ht => cx_rh_eq (fun _ _ => rfl) (fun s hs => (h3 s hs).1) (fun s hs => (h3 s hs).2) ht (fun _ _ _ => rfl)
        have ec : cx_df lo' hi' (cx_rl nt b le lo' hi') (cx_rh nt b gr lo' hi') nt = cx_cg nt b le gr lo hi k := cx_df_eq fun t ht => ⟨(h3 t ht).1, (h3 t ht).2, r1 t ht, r2 t ht⟩
        rw [e1, cx_ob, ec]
        by_cases z : cx_cg nt b le gr lo hi k = true
        · rw [if_pos z, if_neg cx_i1, nI_1]
          refine ih (k + 1) ls us l2 h2' (by omega) (by omega) (fun t ht => ⟨(e2 t ht).1.trans (r1 t ht), (e2 t ht).2.trans (r2 t ht)⟩) (fun j hj => ?_)
          by_cases w : j = k
          · subst w; exact z
          · exact h4 j (by omega)
        · have z : cx_cg nt b le gr lo hi k = false := by
            cases hz : cx_cg nt b le gr lo hi k with
            | true => exact absurd hz z
            | false => rfl
          rw [z, if_neg (show ¬ (false = true) by decide), if_pos rfl, nI_pred]
          obtain ⟨f1, f2⟩ := cx_cg_f z (R - k)
          rw [show k + (R - k) = R by omega] at f1 f2
          refine ⟨ls, us, l2, h2', by rw [f2, cx_lr_all h4], fun t ht => ?_⟩
          have g := cx_df_f.mp z t ht
          rw [(f1 t ht).1, (f1 t ht).2, (e2 t ht).1, (e2 t ht).2, r1 t ht, r2 t ht]
          exact ⟨g.1, g.2⟩
  unfold f_Bounds_narrow
  exact key 200 0 a1 a2 lo hi (by omega) (by omega) (fun t ht => ⟨rfl, rfl⟩) (fun j hj => absurd hj (Nat.not_lt_zero j))
