/-! the true values lie between the bounds -/
def cx_IV (nt : Nat) (x : Nat → Nat) (B : Nat) (lo hi : FJ) : Prop := ∀ t, t < nt → ∃ l h : Nat, lo t = lN l ∧ hi t = lN h ∧ l ≤ x t ∧ x t ≤ h ∧ h ≤ B
theorem cx_IV_cl {nt B : Nat} {x : Nat → Nat} {lo hi : FJ} (hB : B ≤ 2 ^ 50) (h : cx_IV nt x B lo hi) : ∀ t, t < nt → lo t = lN (lo t).toNatClampNeg ∧ hi t = lN (hi t).toNatClampNeg ∧ (lo t).toNatClampNeg ≤ x t ∧ x t ≤ (hi t).toNatClampNeg ∧ (hi t).toNatClampNeg ≤ B := by
  intro t ht
  obtain ⟨l, u, e1, e2, h1, h2, h3⟩ := h t ht
  rw [e1, e2, cx_lcl (show l < 2 ^ 63 by omega), cx_lcl (show u < 2 ^ 63 by omega)]
  exact ⟨rfl, rfl, h1, h2, h3⟩
def cx_so (nt : Nat) (b : Nat → Int32) (g : Nat → Nat) (t p : Nat) : Nat := cx_sm (fun s => if s = t then 0 else if cx_bt (b s) p = true then g s else 0) nt
def cx_X (nt : Nat) (b : Nat → Int32) (g : Nat → Nat) (p : Nat) : Nat := cx_sm (fun s => if cx_bt (b s) p = true then g s else 0) nt
theorem cx_X_so {nt : Nat} {b : Nat → Int32} {g : Nat → Nat} {t p : Nat} (ht : t < nt) (hb : cx_bt (b t) p = true) : cx_X nt b g p = cx_so nt b g t p + g t := by
  unfold cx_X cx_so
  refine cx_sm_up (k := t) ht ?_ (fun i hi hne => ?_)
  · rw [if_pos hb, if_pos rfl, Nat.zero_add]
  · rw [if_neg hne]
theorem cx_so_le {nt : Nat} {b : Nat → Int32} {g h : Nat → Nat} {t p : Nat} (q : ∀ s, s < nt → g s ≤ h s) : cx_so nt b g t p ≤ cx_so nt b h t p := by
  refine cx_sm_le fun s hs => ?_
  by_cases z : s = t
  · rw [if_pos z, if_pos z]; exact Nat.le_refl _
  · rw [if_neg z, if_neg z]
    by_cases w : cx_bt (b s) p = true
    · rw [if_pos w, if_pos w]; exact q s hs
    · rw [if_neg w, if_neg w]; exact Nat.le_refl _
theorem cx_so_b {nt : Nat} {b : Nat → Int32} {g : Nat → Nat} {t p B : Nat} (q : ∀ s, s < nt → g s ≤ B) : cx_so nt b g t p ≤ nt * B := by
  refine cx_sm_b fun s hs => ?_
  by_cases z : s = t
  · rw [if_pos z]; exact Nat.zero_le _
  · rw [if_neg z]
    by_cases w : cx_bt (b s) p = true
    · rw [if_pos w]; exact q s hs
    · rw [if_neg w]; exact Nat.zero_le _
theorem cx_ot_lN {nt : Nat} {b : Nat → Int32} {lo : FJ} {g : Nat → Nat} {t p : Nat} (q : ∀ s, s < nt → lo s = lN (g s)) : cx_ot nt b lo t p = lN (cx_so nt b g t p) := by
  unfold cx_ot cx_so
  induction nt with
  | zero => rfl
  | succ n ih =>
    rw [cx_sL, cx_sm, ih (fun s hs => q s (by omega)), ← lN_add]
    refine congrArg (lN _ + ·) ?_
    by_cases z : n = t
    · rw [if_pos z, if_pos z]; rfl
    · rw [if_neg z, if_neg z]
      by_cases w : cx_bt (b n) p = true
      · rw [if_pos w, if_pos w]; exact q n (by omega)
      · rw [if_neg w, if_neg w]; rfl
theorem cx_fm_b {g : Nat → Int64} {q : Int32} {x0 : Int64} {x B : Nat} (hB : B ≤ 2 ^ 50) (h0 : ∃ u, x0 = lN u ∧ x ≤ u ∧ u ≤ B) : ∀ n, (∀ p, p < n → cx_bt q p = true → ∃ u, g p = lN u ∧ x ≤ u ∧ u ≤ B) → ∃ u, cx_fm g q x0 n = lN u ∧ x ≤ u ∧ u ≤ B := by
  intro n
  induction n with
  | zero => intro _; exact h0
  | succ n ih =>
    intro e
    have ih := ih (fun p hp => e p (by omega))
    rw [cx_fm]
    by_cases z : cx_bt q n = true
    · rw [if_pos z]
      by_cases w : g n < cx_fm g q x0 n
      · rw [if_pos w]; exact e n (by omega) z
      · rw [if_neg w]; exact ih
    · rw [if_neg z]; exact ih
theorem cx_fM_b {g : Nat → Int64} {q : Int32} {x0 : Int64} {x B : Nat} (hB : B ≤ 2 ^ 50) (hx : x ≤ B) (h0 : ∃ u, x0 = lN u ∧ u ≤ x) : ∀ n, (∀ p, p < n → cx_bt q p = true → (g p).toInt ≤ x) → ∃ u, cx_fM g q x0 n = lN u ∧ u ≤ x := by
  intro n
  induction n with
  | zero => intro _; exact h0
  | succ n ih =>
    intro e
    have ih := ih (fun p hp => e p (by omega))
    rw [cx_fM]
    by_cases z : cx_bt q n = true
    · rw [if_pos z]
      by_cases w : cx_fM g q x0 n < g n
      · rw [if_pos w]
        obtain ⟨u, e1, e2⟩ := ih
        have h1 := Int64.lt_iff_toInt_lt.mp w
        rw [e1, pk_lT (by omega)] at h1
        have h2 := e n (by omega) z
        refine ⟨(g n).toInt.toNat, Int64.toInt_inj.mp ?_, by omega⟩
        rw [pk_lT (by omega)]
        omega
      · rw [if_neg w]; exact ih
    · rw [if_neg z]; exact ih
/-- a difference of two small longs -/
theorem cx_lsub {a c : Nat} (ha : a < 2 ^ 60) (hc : c < 2 ^ 60) : (lN a - lN c).toInt = (a : Int) - c := by
  rw [Int64.toInt_sub, pk_lT (by omega), pk_lT (by omega)]
  exact Int.bmod_eq_of_le (by omega) (by omega)
/-- what the sums at the places must be -/
def cx_OKs (nt : Nat) (b : Nat → Int32) (x : Nat → Nat) (B : Nat) (le gr : FJ) : Prop := ∀ t, t < nt → ∀ p, p < 24 → cx_bt (b t) p = true → ∃ L G : Nat, le p = lN L ∧ gr p = lN G ∧ L ≤ cx_X nt b x p ∧ cx_X nt b x p ≤ G ∧ G ≤ B
theorem cx_snd {nt B : Nat} {b : Nat → Int32} {x : Nat → Nat} {le gr lo hi : FJ} (hnt : nt ≤ 24) (hB : B ≤ 2 ^ 50) (ok : cx_OKs nt b x B le gr) (h : cx_IV nt x B lo hi) : cx_IV nt x B (cx_rl nt b le lo hi) (cx_rh nt b gr lo hi) := by
  have hc := cx_IV_cl hB h
  intro t ht
  obtain ⟨c1, c2, c3, c4, c5⟩ := hc t ht
  have hsum : ∀ p, cx_so nt b (fun s => (hi s).toNatClampNeg) t p ≤ 24 * 2 ^ 50 := fun p =>
    Nat.le_trans (cx_so_b fun s hs => (hc s hs).2.2.2.2) (Nat.mul_le_mul hnt hB)
  obtain ⟨u, e1, e2, e3⟩ : ∃ u, cx_rh nt b gr lo hi t = lN u ∧ x t ≤ u ∧ u ≤ B := by
    refine cx_fm_b hB ⟨_, c2, c4, c5⟩ 24 (fun p hp hz => ?_)
    obtain ⟨L, G, g1, g2, g3, g4, g5⟩ := ok t ht p hp hz
    have e := cx_X_so (g := x) ht hz
    have l := cx_so_le (b := b) (t := t) (p := p) (fun s hs => (hc s hs).2.2.1)
    refine ⟨G - cx_so nt b (fun s => (lo s).toNatClampNeg) t p, ?_, by omega, by omega⟩
    show gr p - cx_ot nt b lo t p = _
    rw [g2, cx_ot_lN (fun s hs => (hc s hs).1), lN_sub (by omega)]
  obtain ⟨v, f1, f2⟩ : ∃ v, cx_rl nt b le lo hi t = lN v ∧ v ≤ x t := by
    refine cx_fM_b hB (by omega) ⟨_, c1, c3⟩ 24 (fun p hp hz => ?_)
    obtain ⟨L, G, g1, g2, g3, g4, g5⟩ := ok t ht p hp hz
    have e := cx_X_so (g := x) ht hz
    have l := cx_so_le (b := b) (t := t) (p := p) (fun s hs => (hc s hs).2.2.2.1)
    have m := hsum p
    show (le p - cx_ot nt b hi t p).toInt ≤ _
    rw [g1, cx_ot_lN (fun s hs => (hc s hs).2.1), cx_lsub (by omega) (by omega)]
    omega
  exact ⟨v, u, f1, e1, f2, e2, e3⟩
theorem cx_snd_it {nt B : Nat} {b : Nat → Int32} {x : Nat → Nat} {le gr lo hi : FJ} (hnt : nt ≤ 24) (hB : B ≤ 2 ^ 50) (ok : cx_OKs nt b x B le gr) (h : cx_IV nt x B lo hi) : ∀ k, cx_IV nt x B (cx_it nt b le gr lo hi k).1 (cx_it nt b le gr lo hi k).2 := by
  intro k
  induction k with
  | zero => exact h
  | succ k ih => exact cx_snd hnt hB ok ih
/-- the least value at a thing's places -/
theorem cx_mi_b {g : FJ} {m : Int32} {x B : Nat} : ∀ n, (∀ p, p < n → cx_bt m p = true → ∃ u, g p = lN u ∧ x ≤ u ∧ u ≤ B) → 0 < cx_ct m n → ∃ u, cx_mi g m n = lN u ∧ x ≤ u ∧ u ≤ B := by
  intro n
  induction n with
  | zero => intro _ h; exact absurd h (Nat.lt_irrefl _)
  | succ n ih =>
    intro e h
    rw [cx_mi]
    rw [cx_ct] at h
    by_cases z : cx_bt m n = true
    · rw [if_pos z]
      by_cases w : cx_ct m n = 0
      · rw [if_pos w]; exact e n (by omega) z
      · rw [if_neg w]
        by_cases v : g n < cx_mi g m n
        · rw [if_pos v]; exact e n (by omega) z
        · rw [if_neg v]; exact ih (fun p hp => e p (by omega)) (by omega)
    · rw [if_neg z] at h ⊢
      exact ih (fun p hp => e p (by omega)) h
theorem cx_ct_pos {m : Int32} {p : Nat} (hb : cx_bt m p = true) : ∀ {n : Nat}, p < n → 0 < cx_ct m n := by
  intro n h
  have h1 : cx_ct m (p + 1) ≤ cx_ct m n := cx_ct_le (by omega)
  rw [cx_ct, if_pos hb] at h1
  omega
