/-! the decoding by itself: things with places, bounds, rounds -/
def cx_sL (g : Nat → Int64) : Nat → Int64
  | 0 => 0
  | n + 1 => cx_sL g n + g n
theorem cx_sL_eq {g h : Nat → Int64} : ∀ {n : Nat}, (∀ i, i < n → g i = h i) → cx_sL g n = cx_sL h n := by
  intro n
  induction n with
  | zero => intro _; rfl
  | succ n ih => intro q; rw [cx_sL, cx_sL, ih (fun i hi => q i (by omega)), q n (by omega)]
theorem cx_sL_z {g : Nat → Int64} : ∀ {n : Nat}, (∀ i, i < n → g i = 0) → cx_sL g n = 0 := by
  intro n
  induction n with
  | zero => intro _; rfl
  | succ n ih => intro q; rw [cx_sL, ih (fun i hi => q i (by omega)), q n (by omega), Int64.add_zero]
/-- what all other things have at a place -/
def cx_ot (nt : Nat) (b : Nat → Int32) (lo : FJ) (t p : Nat) : Int64 := cx_sL (fun s => if s = t then 0 else if cx_bt (b s) p = true then lo s else 0) nt
def cx_all (nt : Nat) (b : Nat → Int32) (lo : FJ) (p : Nat) : Int64 := cx_sL (fun s => if cx_bt (b s) p = true then lo s else 0) nt
theorem cx_all_sub {b : Nat → Int32} {lo : FJ} {t p : Nat} (hb : cx_bt (b t) p = true) : ∀ {nt : Nat}, t < nt → cx_all nt b lo p - lo t = cx_ot nt b lo t p := by
  have key : ∀ nt, (nt ≤ t → cx_all nt b lo p = cx_ot nt b lo t p) ∧ (t < nt → cx_all nt b lo p = cx_ot nt b lo t p + lo t) := by
    intro nt
    induction nt with
    | zero => exact ⟨fun _ => rfl, fun h => absurd h (Nat.not_lt_zero t)⟩
    | succ n ih =>
      constructor
      · intro h
        unfold cx_all cx_ot
        rw [cx_sL, cx_sL, if_neg (show ¬ n = t by omega)]
        exact congrArg (· + _) (ih.1 (by omega))
      · intro h
        unfold cx_all cx_ot
        rw [cx_sL, cx_sL]
        by_cases q : n = t
        · subst q
          rw [if_pos rfl, if_pos hb, Int64.add_zero]
          exact congrArg (· + _) (ih.1 (by omega))
        · rw [if_neg q]
          have e := ih.2 (by omega)
          unfold cx_all cx_ot at e
          rw [e, Int64.add_assoc, Int64.add_assoc, Int64.add_comm (lo t)]
  intro nt h
  rw [(key nt).2 h, Int64.add_sub_cancel]
theorem cx_ot_eq {nt : Nat} {b b' : Nat → Int32} {lo lo' : FJ} (hb : ∀ s, s < nt → b s = b' s) (h : ∀ s, s < nt → lo s = lo' s) (t p : Nat) : cx_ot nt b lo t p = cx_ot nt b' lo' t p :=
  cx_sL_eq fun s hs => by rw [h s hs, hb s hs]
/-- the least, the greatest of a start and some values -/
def cx_fm (g : Nat → Int64) (q : Int32) (x : Int64) : Nat → Int64
  | 0 => x
  | p + 1 => if cx_bt q p = true then (if g p < cx_fm g q x p then g p else cx_fm g q x p) else cx_fm g q x p
def cx_fM (g : Nat → Int64) (q : Int32) (x : Int64) : Nat → Int64
  | 0 => x
  | p + 1 => if cx_bt q p = true then (if cx_fM g q x p < g p then g p else cx_fM g q x p) else cx_fM g q x p
theorem cx_fm_eq {g h : Nat → Int64} {q : Int32} {x y : Int64} (hx : x = y) : ∀ {n : Nat}, (∀ p, p < n → cx_bt q p = true → g p = h p) → cx_fm g q x n = cx_fm h q y n := by
  intro n
  induction n with
  | zero => intro _; exact hx
  | succ n ih =>
    intro e
    rw [cx_fm, cx_fm, ih (fun p hp => e p (by omega))]
    by_cases z : cx_bt q n = true
    · rw [if_pos z, if_pos z, e n (by omega) z]
    · rw [if_neg z, if_neg z]
theorem cx_fM_eq {g h : Nat → Int64} {q : Int32} {x y : Int64} (hx : x = y) : ∀ {n : Nat}, (∀ p, p < n → cx_bt q p = true → g p = h p) → cx_fM g q x n = cx_fM h q y n := by
  intro n
  induction n with
  | zero => intro _; exact hx
  | succ n ih =>
    intro e
    rw [cx_fM, cx_fM, ih (fun p hp => e p (by omega))]
    by_cases z : cx_bt q n = true
    · rw [if_pos z, if_pos z, e n (by omega) z]
    · rw [if_neg z, if_neg z]
theorem cx_fm_le (g : Nat → Int64) (q : Int32) (x : Int64) : ∀ n, (cx_fm g q x n).toInt ≤ x.toInt := by
  intro n
  induction n with
  | zero => exact Int.le_refl _
  | succ n ih =>
    rw [cx_fm]
    by_cases z : cx_bt q n = true
    · rw [if_pos z]
      by_cases w : g n < cx_fm g q x n
      · rw [if_pos w]
        have := Int64.lt_iff_toInt_lt.mp w
        omega
      · rw [if_neg w]; exact ih
    · rw [if_neg z]; exact ih
theorem cx_fM_ge (g : Nat → Int64) (q : Int32) (x : Int64) : ∀ n, x.toInt ≤ (cx_fM g q x n).toInt := by
  intro n
  induction n with
  | zero => exact Int.le_refl _
  | succ n ih =>
    rw [cx_fM]
    by_cases z : cx_bt q n = true
    · rw [if_pos z]
      by_cases w : cx_fM g q x n < g n
      · rw [if_pos w]
        have := Int64.lt_iff_toInt_lt.mp w
        omega
      · rw [if_neg w]; exact ih
    · rw [if_neg z]; exact ih
/-- one round -/
def cx_rl (nt : Nat) (b : Nat → Int32) (le : FJ) (lo hi : FJ) (t : Nat) : Int64 := cx_fM (fun p => le p - cx_ot nt b hi t p) (b t) (lo t) 24
def cx_rh (nt : Nat) (b : Nat → Int32) (gr : FJ) (lo hi : FJ) (t : Nat) : Int64 := cx_fm (fun p => gr p - cx_ot nt b lo t p) (b t) (hi t) 24
/-- some rounds -/
def cx_it (nt : Nat) (b : Nat → Int32) (le gr lo hi : FJ) : Nat → FJ × FJ
  | 0 => (lo, hi)
  | k + 1 => (fun t => cx_rl nt b le (cx_it nt b le gr lo hi k).1 (cx_it nt b le gr lo hi k).2 t, fun t => cx_rh nt b gr (cx_it nt b le gr lo hi k).1 (cx_it nt b le gr lo hi k).2 t)
theorem cx_rl_eq {nt : Nat} {b b' : Nat → Int32} {le le' lo lo' hi hi' : FJ} (hb : ∀ s, s < nt → b s = b' s) (h1 : ∀ s, s < nt → lo s = lo' s) (h2 : ∀ s, s < nt → hi s = hi' s) {t : Nat} (ht : t < nt) (hl : ∀ p, p < 24 → cx_bt (b t) p = true → le p = le' p) : cx_rl nt b le lo hi t = cx_rl nt b' le' lo' hi' t := by
  unfold cx_rl
  rw [← hb t ht]
  exact cx_fM_eq (h1 t ht) fun p hp hz => by rw [cx_ot_eq hb h2, hl p hp hz]
theorem cx_rh_eq {nt : Nat} {b b' : Nat → Int32} {gr gr' lo lo' hi hi' : FJ} (hb : ∀ s, s < nt → b s = b' s) (h1 : ∀ s, s < nt → lo s = lo' s) (h2 : ∀ s, s < nt → hi s = hi' s) {t : Nat} (ht : t < nt) (hl : ∀ p, p < 24 → cx_bt (b t) p = true → gr p = gr' p) : cx_rh nt b gr lo hi t = cx_rh nt b' gr' lo' hi' t := by
  unfold cx_rh
  rw [← hb t ht]
  exact cx_fm_eq (h2 t ht) fun p hp hz => by rw [cx_ot_eq hb h1, hl p hp hz]
theorem cx_it_eq {nt : Nat} {b b' : Nat → Int32} {le le' gr gr' lo lo' hi hi' : FJ} (hb : ∀ s, s < nt → b s = b' s) (hl : ∀ t, t < nt → ∀ p, p < 24 → cx_bt (b t) p = true → le p = le' p ∧ gr p = gr' p) (h1 : ∀ s, s < nt → lo s = lo' s) (h2 : ∀ s, s < nt → hi s = hi' s) : ∀ k t, t < nt → (cx_it nt b le gr lo hi k).1 t = (cx_it nt b' le' gr' lo' hi' k).1 t ∧ (cx_it nt b le gr lo hi k).2 t = (cx_it nt b' le' gr' lo' hi' k).2 t := by
  intro k
  induction k with
  | zero => exact fun t ht => ⟨h1 t ht, h2 t ht⟩
  | succ k ih => exact fun t ht => ⟨cx_rl_eq hb (fun s hs => (ih s hs).1) (fun s hs => (ih s hs).2) ht (fun p hp hz => (hl t ht p hp hz).1), cx_rh_eq hb (fun s hs => (ih s hs).1) (fun s hs => (ih s hs).2) ht (fun p hp hz => (hl t ht p hp hz).2)⟩
/-- whether a round changes a bound of the first n things -/
def cx_df (lo hi lo' hi' : FJ) : Nat → Bool
  | 0 => false
  | n + 1 => cx_df lo hi lo' hi' n || (decide (lo' n ≠ lo n) || decide (hi' n ≠ hi n))
theorem cx_df_eq {lo hi lo' hi' u v u' v' : FJ} : ∀ {n : Nat}, (∀ t, t < n → lo t = u t ∧ hi t = v t ∧ lo' t = u' t ∧ hi' t = v' t) → cx_df lo hi lo' hi' n = cx_df u v u' v' n := by
  intro n
  induction n with
  | zero => intro _; rfl
  | succ n ih =>
    intro e
    obtain ⟨e1, e2, e3, e4⟩ := e n (by omega)
    rw [cx_df, cx_df, ih (fun t ht => e t (by omega)), e1, e2, e3, e4]
theorem cx_df_f {lo hi lo' hi' : FJ} : ∀ {n : Nat}, cx_df lo hi lo' hi' n = false ↔ ∀ t, t < n → lo' t = lo t ∧ hi' t = hi t := by
  intro n
  induction n with
  | zero => exact ⟨fun _ t ht => absurd ht (Nat.not_lt_zero t), fun _ => rfl⟩
  | succ n ih =>
    rw [cx_df, Bool.or_eq_false_iff, Bool.or_eq_false_iff, ih, decide_eq_false_iff_not, decide_eq_false_iff_not, Classical.not_not, Classical.not_not]
    constructor
    · rintro ⟨h1, h2, h3⟩ t ht
      by_cases q : t = n
      · subst q; exact ⟨h2, h3⟩
      · exact h1 t (by omega)
    · intro h
      exact ⟨fun t ht => h t (by omega), (h n (by omega)).1, (h n (by omega)).2⟩
/-- whether round k + 1 changes a bound -/
def cx_cg (nt : Nat) (b : Nat → Int32) (le gr lo hi : FJ) (k : Nat) : Bool := cx_df (cx_it nt b le gr lo hi k).1 (cx_it nt b le gr lo hi k).2 (cx_it nt b le gr lo hi (k + 1)).1 (cx_it nt b le gr lo hi (k + 1)).2 nt
/-- the last of k rounds that changes one -/
def cx_lr (nt : Nat) (b : Nat → Int32) (le gr lo hi : FJ) : Nat → Nat
  | 0 => 0
  | k + 1 => if cx_cg nt b le gr lo hi k = true then k + 1 else cx_lr nt b le gr lo hi k
theorem cx_cg_f {nt : Nat} {b : Nat → Int32} {le gr lo hi : FJ} {k : Nat} (h : cx_cg nt b le gr lo hi k = false) : ∀ j, (∀ t, t < nt → (cx_it nt b le gr lo hi (k + j)).1 t = (cx_it nt b le gr lo hi k).1 t ∧ (cx_it nt b le gr lo hi (k + j)).2 t = (cx_it nt b le gr lo hi k).2 t) ∧ cx_lr nt b le gr lo hi (k + j) = cx_lr nt b le gr lo hi k := by
  have h0 := cx_df_f.mp h
  intro j
  induction j with
  | zero => exact ⟨fun t ht => ⟨rfl, rfl⟩, rfl⟩
  | succ j ih =>
    have key : ∀ t, t < nt → (cx_it nt b le gr lo hi (k + j + 1)).1 t = (cx_it nt b le gr lo hi k).1 t ∧ (cx_it nt b le gr lo hi (k + j + 1)).2 t = (cx_it nt b le gr lo hi k).2 t := by
      intro t ht
      have a1 : (cx_it nt b le gr lo hi (k + j + 1)).1 t = (cx_it nt b le gr lo hi (k + 1)).1 t := cx_rl_eq (fun _ _ => rfl) (fun s hs => (ih.1 s hs).1) (fun s hs => (ih.1 s hs).2) ht (fun _ _ _ => rfl)
      have a2 : (cx_it nt b le gr lo hi (k + j + 1)).2 t = (cx_it nt b le gr lo hi (k + 1)).2 t := cx_rh_eq (fun _ _ => rfl) (fun s hs => (ih.1 s hs).1) (fun s hs => (ih.1 s hs).2) ht (fun _ _ _ => rfl)
      exact ⟨a1.trans (h0 t ht).1, a2.trans (h0 t ht).2⟩
    refine ⟨key, ?_⟩
    have c : cx_cg nt b le gr lo hi (k + j) = false := cx_df_f.mpr fun t ht => ⟨(key t ht).1.trans (ih.1 t ht).1.symm, (key t ht).2.trans (ih.1 t ht).2.symm⟩
    rw [show k + (j + 1) = (k + j) + 1 from rfl, cx_lr, c, if_neg (by decide)]
    exact ih.2
theorem cx_lr_all {nt : Nat} {b : Nat → Int32} {le gr lo hi : FJ} : ∀ {k : Nat}, (∀ j, j < k → cx_cg nt b le gr lo hi j = true) → cx_lr nt b le gr lo hi k = k := by
  intro k
  cases k with
  | zero => intro _; rfl
  | succ k => intro h; rw [cx_lr, if_pos (h k (by omega))]
theorem cx_lr_le {nt : Nat} {b : Nat → Int32} {le gr lo hi : FJ} : ∀ (k : Nat), cx_lr nt b le gr lo hi k ≤ k := by
  intro k
  induction k with
  | zero => exact Nat.le_refl _
  | succ k ih =>
    rw [cx_lr]
    by_cases z : cx_cg nt b le gr lo hi k = true
    · rw [if_pos z]; exact Nat.le_refl _
    · rw [if_neg z]; omega
/-- the least of the values at a thing's places, 0 without places -/
def cx_mi (g : FJ) (m : Int32) : Nat → Int64
  | 0 => 0
  | p + 1 => if cx_bt m p = true then (if cx_ct m p = 0 then g p else if g p < cx_mi g m p then g p else cx_mi g m p) else cx_mi g m p
theorem cx_mi_eq {g h : FJ} {m : Int32} : ∀ {n : Nat}, (∀ p, p < n → cx_bt m p = true → g p = h p) → cx_mi g m n = cx_mi h m n := by
  intro n
  induction n with
  | zero => intro _; rfl
  | succ n ih =>
    intro e
    rw [cx_mi, cx_mi, ih (fun p hp => e p (by omega))]
    by_cases z : cx_bt m n = true
    · rw [if_pos z, if_pos z, e n (by omega) z]
    · rw [if_neg z, if_neg z]
/-- where no bit stands behind a place -/
theorem cx_ct_end {m : Int32} {p : Nat} : ∀ {q : Nat}, p ≤ q → cx_ct m q ≤ cx_ct m p → cx_ct m q = cx_ct m p ∧ ∀ i, p ≤ i → i < q → ¬ cx_bt m i = true := by
  intro q
  induction q with
  | zero => intro h _; rw [show p = 0 by omega]; exact ⟨rfl, fun i _ h => absurd h (Nat.not_lt_zero i)⟩
  | succ q ih =>
    intro h h2
    by_cases e : p = q + 1
    · subst e; exact ⟨rfl, fun i h3 h4 => by omega⟩
    · have h3 : cx_ct m p ≤ cx_ct m q := cx_ct_le (by omega)
      rw [cx_ct] at h2
      have hz : ¬ cx_bt m q = true := fun z => by rw [if_pos z] at h2; omega
      rw [if_neg hz] at h2
      obtain ⟨h4, h5⟩ := ih (by omega) (by omega)
      refine ⟨by rw [cx_ct, if_neg hz, h4, Nat.add_zero], fun i h6 h7 => ?_⟩
      by_cases w : i = q
      · subst w; exact hz
      · exact h5 i h6 (by omega)
theorem cx_mi_end {g : FJ} {m : Int32} {p : Nat} : ∀ {q : Nat}, p ≤ q → (∀ i, p ≤ i → i < q → ¬ cx_bt m i = true) → cx_mi g m q = cx_mi g m p := by
  intro q
  induction q with
  | zero => intro h _; rw [show p = 0 by omega]
  | succ q ih =>
    intro h h2
    by_cases e : p = q + 1
    · subst e; rfl
    · rw [cx_mi, if_neg (h2 q (by omega) (by omega)), ih (by omega) (fun i h3 h4 => h2 i h3 (by omega))]
