theorem sem0 {D N Q : Nat} {M K : Nat} {ks : FI} : cx_SEM D N Q (cx_SS M K ks (fun _ => 0)) (fun _ => 0) (fun _ => 0) (fun _ => 0) := by
  have z : ∀ c, cx_SS M K ks (fun _ => 0) c = 0 := fun c => cx_sm_z fun f _ => by
    by_cases h : cx_bt (cx_pK M K (ks f).toNatClampNeg) c = true
    · rw [if_pos h]; rfl
    · rw [if_neg h]
  refine ⟨fun c hc => ?_, fun u hu => ?_⟩
  · rw [z, Nat.zero_mod, Nat.zero_div, if_pos rfl]; exact ⟨rfl, rfl⟩
  · have : ∀ c, (if cx_bt (cx_pU N Q c) u = true then cx_SS M K ks (fun _ => 0) c / 2 ^ D else 0) = 0 := by
      intro c
      rw [z, Nat.zero_div]
      by_cases h : cx_bt (cx_pU N Q c) u = true
      · rw [if_pos h]
      · rw [if_neg h]
    rw [cx_sm_z fun c _ => this c]
    rfl
theorem inv0 : ∀ h : HistoryS, ini_h h → INV 12 3 3 6 2 20 0 (fun _ => 0) (fun _ => 0) (fun _ => 0) (fun _ => 0) (fun _ => 0) (fun _ => 0) (fun _ => 0) (fun _ => 0) (fun _ => 0) h (fun _ => 0) 0 (fun _ => 0) (fun _ => 0) 0 0 0 (fun _ => 0) (fun _ => 0) (fun _ => 0) (fun _ => 0) (fun _ => 0) (fun _ => 0) (fun _ _ => 0) (fun _ => 0) 0 (fun _ => 0) (fun _ => 0) (fun _ => 0) (fun _ => 0) (fun _ => 0) (fun _ => 0) (fun _ _ => 0) (fun _ => 0) 0 12 3 3 6 2 20 0 (fun _ => 0) (fun _ => 0) (fun _ => 0) (fun _ => 0) (fun _ => 0) (fun _ => 0) (fun _ => 0) (fun _ => 0) (fun _ => 0) ini_row (fun _ => 0) 0 (fun _ => 0) (fun _ => 0) (fun _ => 0) (fun _ => 0) (fun _ => 0) (fun _ => 0) (fun _ => 0) 0 0 (fun _ => 0) (fun _ => 0) (fun _ => 0) 0 0 (fun _ => 0) (fun _ => 0) 0 0 := by
  intro h hh
  refine ⟨⟨⟨⟨rfl, rfl, rfl, rfl, rfl, rfl, rfl⟩, ?_, ?_, ?_⟩, ?_⟩, ⟨0, by decide, hh.2.2.2.2.2, rfl, fun j hj => absurd hj (Nat.not_lt_zero j)⟩, ⟨0, by decide, rfl, rfl, fun j hj => absurd hj (Nat.not_lt_zero j)⟩⟩
  · have e : ∀ f : Nat, f < 16 → ini_row (167 * 0 + 7 + f) = 0 := by decide +kernel
    exact e
  · have e : ∀ c : Nat, c < 24 → ini_row (167 * 0 + 23 + c) = 0 ∧ ini_row (167 * 0 + 47 + c) = 0 ∧ ini_row (167 * 0 + 71 + c) = 0 ∧ ini_row (167 * 0 + 95 + c) = 0 := by decide +kernel
    exact e
  · intro f hf
    exact ⟨rfl, rfl, rfl, rfl⟩
  · have z1 : ((0 : Int64) ≤ 0 ∧ (0 : Int64) ≤ 1000000000) ∧ ((0 : Int64) ≤ 0 ∧ (0 : Int64) ≤ 1000000000) := by decide
    exact ⟨by decide, by decide, by decide, by decide, by decide, by decide, by decide, fun f hf => absurd hf (Nat.not_lt_zero f), fun f g _ hg => absurd hg (Nat.not_lt_zero g), fun c _ => ⟨Or.inl rfl, Or.inl rfl⟩, fun f _ => z1, fun f _ _ => ⟨rfl, rfl⟩, sem0, sem0⟩

