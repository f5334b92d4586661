/-! the pure half: the class's numbers against the reference's -/
theorem p_from {a x b : Int32} : f_CB_isFrom a x b = some (if a ≤ x ∧ x ≤ b then 1 else 0) := by
  unfold f_CB_isFrom
  by_cases h1 : x < a
  · rw [if_pos h1, if_neg (fun h => absurd h1 (Int32.not_lt.mpr h.1))]
  · rw [if_neg h1]
    by_cases h2 : b < x
    · rw [if_pos h2, if_neg (fun h => absurd h2 (Int32.not_lt.mpr h.2))]
    · rw [if_neg h2, if_pos ⟨Int32.not_lt.mp h1, Int32.not_lt.mp h2⟩]
theorem p_in {a x b : Int32} : f_Model_in x a b = some (if a ≤ x ∧ x ≤ b then 1 else 0) := by
  unfold f_Model_in
  by_cases h1 : x < a
  · rw [if_pos h1, if_neg (fun h => absurd h1 (Int32.not_lt.mpr h.1))]
  · rw [if_neg h1]
    by_cases h2 : b < x
    · rw [if_pos h2, if_neg (fun h => absurd h2 (Int32.not_lt.mpr h.2))]
    · rw [if_neg h2, if_pos ⟨Int32.not_lt.mp h1, Int32.not_lt.mp h2⟩]
/-- one state of the class, as tuple leaves, against the reference's slot j -/
def RS (j : Nat) (fc fb ff fu fv fr fl : Int32) (ks : FI) (t1 : FJ) (r1 m1 : FI) (n1 : FJ) (t2 : FJ) (r2 m2 : FI) (n2 : FJ) (row : FI) (num : FJ) : Prop :=
  (row (167 * j) = fc ∧ row (167 * j + 1) = fb ∧ row (167 * j + 2) = ff ∧ row (167 * j + 3) = fu ∧ row (167 * j + 4) = fv ∧ row (167 * j + 5) = fr ∧ row (167 * j + 6) = fl) ∧
  (∀ f : Nat, f < 16 → row (167 * j + 7 + f) = ks f) ∧
  (∀ c : Nat, c < 24 → row (167 * j + 23 + c) = r1 c ∧ row (167 * j + 47 + c) = m1 c ∧ row (167 * j + 71 + c) = r2 c ∧ row (167 * j + 95 + c) = m2 c) ∧
  (∀ f : Nat, f < 16 → num (96 * j + f) = t1 f ∧ num (96 * j + 16 + f) = n1 f ∧ num (96 * j + 32 + f) = t2 f ∧ num (96 * j + 48 + f) = n2 f)
/-- what holds of one state of the class by itself -/
def SOK (fc fb ff fu fv fr fl : Int32) (ks : FI) (t1 : FJ) (r1 m1 : FI) (n1 : FJ) (t2 : FJ) (r2 m2 : FI) (n2 : FJ) : Prop :=
  (2 ≤ fc ∧ fc ≤ 24) ∧ (1 ≤ fb ∧ fb ≤ 8) ∧ (1 ≤ ff ∧ ff ≤ 4) ∧ (1 ≤ fu ∧ fu ≤ 16) ∧ (1 ≤ fv ∧ fv ≤ 3) ∧ (0 ≤ fr ∧ fr ≤ 60) ∧ (0 ≤ fl ∧ fl ≤ 16) ∧
  (∀ f : Nat, f < fl.toNatClampNeg → 0 ≤ ks f ∧ ks f ≤ 999) ∧ (∀ f g : Nat, f < g → g < fl.toNatClampNeg → ks f ≠ ks g) ∧
  (∀ c : Nat, c < 24 → (m1 c = 0 ∨ m1 c = 1) ∧ (m2 c = 0 ∨ m2 c = 1)) ∧
  (∀ f : Nat, f < 16 → (0 ≤ t1 f ∧ t1 f ≤ 1000000000) ∧ (0 ≤ t2 f ∧ t2 f ≤ 1000000000)) ∧ (∀ f : Nat, f < 16 → fl.toNatClampNeg ≤ f → t1 f = 0 ∧ t2 f = 0) ∧
  (∀ c : Nat, c < 24 → (0 ≤ r1 c ∧ (r1 c).toNatClampNeg < 2 ^ fb.toNatClampNeg) ∧ (0 ≤ r2 c ∧ (r2 c).toNatClampNeg < 2 ^ fb.toNatClampNeg)) ∧
  (∀ c : Nat, c < 24 → fc.toNatClampNeg ≤ c → r1 c = 0 ∧ m1 c = 0 ∧ r2 c = 0 ∧ m2 c = 0) ∧ (∀ u : Nat, u < 16 → fu.toNatClampNeg ≤ u → n1 u = 0 ∧ n2 u = 0)
theorem p_form {x fc fb ff fu fv fr fl : Int32} {row : FI} (h : row 0 = fc ∧ row 1 = fb ∧ row 2 = ff ∧ row 3 = fu ∧ row 4 = fv ∧ row 5 = fr ∧ row 6 = fl) : ∃ r, f_CB_form x fc fb ff fu fv fr fl = some r ∧ f_Model_form x row = some r := by
  unfold f_CB_form f_Model_form
  rw [p_from, p_in]
  by_cases hx : (0 : Int32) ≤ x ∧ x ≤ 6
  · rw [if_pos hx]
    have e : x = 0 ∨ x = 1 ∨ x = 2 ∨ x = 3 ∨ x = 4 ∨ x = 5 ∨ x = 6 := by
      obtain ⟨h1, h2⟩ := hx
      have h1 := Int32.le_iff_toInt_le.mp h1
      have h2 := Int32.le_iff_toInt_le.mp h2
      have h1 : 0 ≤ x.toInt := h1
      have h2 : x.toInt ≤ 6 := h2
      have h3 : x.toInt = 0 ∨ x.toInt = 1 ∨ x.toInt = 2 ∨ x.toInt = 3 ∨ x.toInt = 4 ∨ x.toInt = 5 ∨ x.toInt = 6 := by omega
      rcases h3 with h3 | h3 | h3 | h3 | h3 | h3 | h3
      · exact Or.inl (Int32.toInt_inj.mp h3)
      · exact Or.inr (Or.inl (Int32.toInt_inj.mp h3))
      · exact Or.inr (Or.inr (Or.inl (Int32.toInt_inj.mp h3)))
      · exact Or.inr (Or.inr (Or.inr (Or.inl (Int32.toInt_inj.mp h3))))
      · exact Or.inr (Or.inr (Or.inr (Or.inr (Or.inl (Int32.toInt_inj.mp h3)))))
      · exact Or.inr (Or.inr (Or.inr (Or.inr (Or.inr (Or.inl (Int32.toInt_inj.mp h3))))))
      · exact Or.inr (Or.inr (Or.inr (Or.inr (Or.inr (Or.inr (Int32.toInt_inj.mp h3))))))
    obtain ⟨h0, h1, h2, h3, h4, h5, h6⟩ := h
    rcases e with rfl | rfl | rfl | rfl | rfl | rfl | rfl
    · exact ⟨fc, rfl, congrArg some h0⟩
    · exact ⟨fb, rfl, congrArg some h1⟩
    · exact ⟨ff, rfl, congrArg some h2⟩
    · exact ⟨fu, rfl, congrArg some h3⟩
    · exact ⟨fv, rfl, congrArg some h4⟩
    · exact ⟨fr, rfl, congrArg some h5⟩
    · exact ⟨fl, rfl, congrArg some h6⟩
  · rw [if_neg hx]
    exact ⟨-3, rfl, rfl⟩
theorem p_bits {fc fb fu : Int32} {row : FI} (h0 : row 0 = fc) (h1 : row 1 = fb) (h3 : row 3 = fu) : f_Model_bits row = f_CB_bits fc fb fu := by
  subst h0 h1 h3
  rfl
theorem p_isBraid {x : Int32} : f_CB_isBraid x = some (if 0 ≤ x ∧ x ≤ 1 then 1 else 0) ∧ f_Model_isBraid x = some (if 0 ≤ x ∧ x ≤ 1 then 1 else 0) := by
  unfold f_CB_isBraid f_Model_isBraid
  rw [p_from, p_in]
  by_cases hx : (0 : Int32) ≤ x ∧ x ≤ 1
  · rw [if_pos hx]; exact ⟨rfl, rfl⟩
  · rw [if_neg hx]; exact ⟨rfl, rfl⟩
theorem p_isFlow {x fl : Int32} {row : FI} (h : row 6 = fl) : f_CB_isFlow x fl = some (if 0 ≤ x ∧ x ≤ fl - 1 then 1 else 0) ∧ f_Model_isFlow x row = some (if 0 ≤ x ∧ x ≤ fl - 1 then 1 else 0) := by
  subst h
  unfold f_CB_isFlow f_Model_isFlow
  rw [p_from, p_in, if_pos (show ck 6 1002 = true from rfl), show ((6 : Int32).toNatClampNeg) = 6 from rfl]
  by_cases hx : (0 : Int32) ≤ x ∧ x ≤ row 6 - 1
  · rw [if_pos hx]; exact ⟨rfl, rfl⟩
  · rw [if_neg hx]; exact ⟨rfl, rfl⟩
theorem p_isCounter {x fc : Int32} {row : FI} (h : row 0 = fc) : f_CB_isCounter x fc = some (if 0 ≤ x ∧ x ≤ fc - 1 then 1 else 0) ∧ f_Model_isCounter x row = some (if 0 ≤ x ∧ x ≤ fc - 1 then 1 else 0) := by
  subst h
  unfold f_CB_isCounter f_Model_isCounter
  rw [p_from, p_in, if_pos (show ck 0 1002 = true from rfl), show ((0 : Int32).toNatClampNeg) = 0 from rfl]
  by_cases hx : (0 : Int32) ≤ x ∧ x ≤ row 0 - 1
  · rw [if_pos hx]; exact ⟨rfl, rfl⟩
  · rw [if_neg hx]; exact ⟨rfl, rfl⟩
