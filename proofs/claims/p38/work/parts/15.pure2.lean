/-- an int in 0 .. n-1 is a small natural number -/
theorem in_nI {x b : Int32} {n : Nat} (hb : b.toInt = (n : Int)) (h : 0 ≤ x ∧ x ≤ b - 1) (hn : n ≤ 1000) : ∃ j : Nat, j < n ∧ x = nI j := by
  obtain ⟨h1, h2⟩ := h
  have h1 : 0 ≤ x.toInt := Int32.le_iff_toInt_le.mp h1
  have h2 := Int32.le_iff_toInt_le.mp h2
  rcases Nat.eq_zero_or_pos n with h0 | h0
  · subst h0
    have e : b = 0 := Int32.toInt_inj.mp hb
    subst e
    have h2 : x.toInt ≤ -1 := h2
    omega
  · have e : b = nI n := Int32.toInt_inj.mp (by rw [hb, nI_toInt (by omega)])
    obtain ⟨k, rfl⟩ : ∃ k, n = k + 1 := ⟨n - 1, by omega⟩
    rw [e, nI_pred, nI_toInt (by omega)] at h2
    refine ⟨x.toInt.toNat, by omega, Int32.toInt_inj.mp ?_⟩
    rw [nI_toInt (by omega)]
    omega
theorem braid_cases {x : Int32} (h : 0 ≤ x ∧ x ≤ 1) : x = 0 ∨ x = 1 := by
  obtain ⟨j, hj, rfl⟩ := in_nI (b := 2) (n := 2) rfl h (by decide)
  rcases (show j = 0 ∨ j = 1 by omega) with rfl | rfl
  · exact Or.inl rfl
  · exact Or.inr rfl
theorem fl_nat {fl b : Int32} {n : Nat} (hb : b = nI n) (hn : n ≤ 1000) (h : 0 ≤ fl ∧ fl ≤ b) : ∃ m : Nat, m ≤ n ∧ fl = nI m := by
  subst hb
  have h1 : 0 ≤ fl.toInt := Int32.le_iff_toInt_le.mp h.1
  have h2 := Int32.le_iff_toInt_le.mp h.2
  rw [nI_toInt (by omega)] at h2
  refine ⟨fl.toInt.toNat, by omega, Int32.toInt_inj.mp ?_⟩
  rw [nI_toInt (by omega)]
  omega
theorem ck_nI {j n : Nat} (h : j < n) (hn : n < 2 ^ 31) : ck (nI j) n = true := by
  unfold ck
  rw [decide_eq_false (nI_pos (by omega)), nI_clamp (by omega), decide_eq_false (by omega)]
  rfl
