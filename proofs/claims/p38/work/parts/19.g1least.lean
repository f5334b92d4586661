theorem cx_cmb {lo hi : FJ} {n i : Nat} (hn : n ≤ 24) (hi2 : i < 32) : cx_bt (cx_cm lo hi n) i = true ↔ i < n ∧ lo i = hi i := by
  induction n with
  | zero =>
    rw [cx_cm, cx_b0]
    exact ⟨fun h => absurd h (by decide), fun h => absurd h.1 (Nat.not_lt_zero i)⟩
  | succ n ih =>
    have ih := ih (by omega)
    rw [cx_cm]
    by_cases z : lo n = hi n
    · rw [if_pos z, cx_or, Bool.or_eq_true, ih, cx_sh1 (by omega) hi2, decide_eq_true_eq]
      constructor
      · rintro (⟨h1, h2⟩ | h)
        · exact ⟨by omega, h2⟩
        · subst h; exact ⟨by omega, z⟩
      · rintro ⟨h1, h2⟩
        by_cases q : i = n
        · exact Or.inr q.symm
        · exact Or.inl ⟨by omega, h2⟩
    · rw [if_neg z, ih]
      constructor
      · rintro ⟨h1, h2⟩; exact ⟨by omega, h2⟩
      · rintro ⟨h1, h2⟩
        refine ⟨?_, h2⟩
        by_cases q : i = n
        · subst q; exact absurd h2 z
        · omega
theorem cx_full : ∀ F, F < 17 → cx_mk (fun i => i) F = (1 <<< (nI F &&& 31)) - 1 := by decide +kernel
theorem cx_cm_full {lo hi : FJ} {F : Nat} (hF : F ≤ 16) : cx_cm lo hi F = (1 <<< (nI F &&& 31)) - 1 ↔ ∀ t, t < F → lo t = hi t := by
  rw [← cx_full F (by omega)]
  constructor
  · intro h t ht
    have h1 : cx_bt (cx_mk (fun i => i) F) t = true := (cx_mkb (fun i hi => by omega) (by omega)).mpr ⟨t, ht, rfl⟩
    rw [← h] at h1
    exact ((cx_cmb (by omega) (by omega)).mp h1).2
  · intro h
    refine cx_ext fun i hi32 => ?_
    by_cases q : i < F
    · rw [(cx_cmb (by omega) hi32).mpr ⟨q, h i q⟩]
      exact ((cx_mkb (fun i hi => by omega) hi32).mpr ⟨i, q, rfl⟩).symm
    · have z1 : ¬ cx_bt (cx_cm lo hi F) i = true := fun w => q ((cx_cmb (by omega) hi32).mp w).1
      have z2 : ¬ cx_bt (cx_mk (fun i => i) F) i = true := fun w => by
        obtain ⟨k, k1, k2⟩ := (cx_mkb (fun i hi => by omega) hi32).mp w
        have k2 : k = i := k2
        omega
      cases h1 : cx_bt (cx_cm lo hi F) i with
      | true => exact absurd h1 z1
      | false =>
        cases h2 : cx_bt (cx_mk (fun i => i) F) i with
        | true => exact absurd h2 z2
        | false => rfl
