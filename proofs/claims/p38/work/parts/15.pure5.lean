theorem findC_no {x : Int32} {ks : FI} {m : Nat} {K : Int32 → Option Int32} (hm : m ≤ 16) (h : ∀ j, j < m → ¬ ks j = x) : ∀ (n i : Nat), i ≤ m → m < i + n → f_State_find_L2 x (nI m) ks K n (nI i) = K (nI m) := by
  intro n
  induction n with
  | zero => intro i h1 h2; omega
  | succ n ih =>
    intro i h1 h2
    rw [f_State_find_L2]
    by_cases q : i = m
    · subst q
      rw [if_pos (nI_le (Nat.le_refl _) (by omega))]
    · rw [if_neg (nI_ge (by omega) (by omega)), if_pos (ck_nI (by omega) (by decide)), nI_clamp (by omega), if_neg (h i (by omega)), nI_1]
      exact ih (i + 1) (by omega) (by omega)
theorem findC_at {x : Int32} {ks : FI} {m j : Nat} {K : Int32 → Option Int32} (hm : m ≤ 16) (hj : j < m) (hx : ks j = x) (h : ∀ i, i < j → ¬ ks i = x) : ∀ (n i : Nat), i ≤ j → m < i + n → f_State_find_L2 x (nI m) ks K n (nI i) = some (nI j) := by
  intro n
  induction n with
  | zero => intro i h1 h2; omega
  | succ n ih =>
    intro i h1 h2
    rw [f_State_find_L2, if_neg (nI_ge (by omega) (by omega)), if_pos (ck_nI (by omega) (by decide)), nI_clamp (by omega)]
    by_cases q : i = j
    · subst q
      rw [if_pos hx]
    · rw [if_neg (h i (by omega)), nI_1]
      exact ih (i + 1) (by omega) (by omega)
