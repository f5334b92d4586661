def EQ1 {α β γ : Type} (o1 : Option (α × β)) (o2 : Option (α × γ)) : Prop := ∃ (out1 : α × β) (out2 : α × γ), o1 = some out1 ∧ o2 = some out2 ∧ out1.1 = out2.1
theorem EQ1_mk {α β γ : Type} {x : α} {y : β} {z : γ} : EQ1 (some (x, y)) (some (x, z)) := ⟨_, _, rfl, rfl, rfl⟩
theorem EQ1_of {α β γ : Type} {x x' : α} {y : β} {z : γ} (h : x = x') : EQ1 (some (x, y)) (some (x', z)) := ⟨_, _, rfl, rfl, h⟩
theorem cx_nz {D N Q : Nat} {S : Nat → Nat} {r m : FI} {n : FJ} (hN : 1 ≤ N ∧ N ≤ 16) (h : cx_SEM D N Q S r m n) : ∀ u, N ≤ u → u < 16 → n u = 0 := by
  intro u h1 h2
  rw [h.2 u h2, cx_sm_z (fun c _ => if_neg fun z => by have := cx_pU_lt (by omega) hN.2 (by omega) z; omega)]
  rfl
theorem cx_d01 : ((0 : Int32) = 1) = False := eq_false (by decide)
theorem cx_d02 : ((0 : Int32) = 2) = False := eq_false (by decide)
theorem cx_d03 : ((0 : Int32) = 3) = False := eq_false (by decide)
theorem cx_d10 : ((1 : Int32) = 0) = False := eq_false (by decide)
theorem cx_d12 : ((1 : Int32) = 2) = False := eq_false (by decide)
theorem cx_d13 : ((1 : Int32) = 3) = False := eq_false (by decide)
theorem cx_d20 : ((2 : Int32) = 0) = False := eq_false (by decide)
theorem cx_d21 : ((2 : Int32) = 1) = False := eq_false (by decide)
theorem cx_d23 : ((2 : Int32) = 3) = False := eq_false (by decide)
theorem cx_d30 : ((3 : Int32) = 0) = False := eq_false (by decide)
theorem cx_d31 : ((3 : Int32) = 1) = False := eq_false (by decide)
theorem cx_d32 : ((3 : Int32) = 2) = False := eq_false (by decide)
