theorem hslot_lt {h : HistoryS} : hslot h 0 = h.1.2 ∧ hslot h 1 = h.2.1.2 ∧ hslot h 2 = h.2.2.1.2 ∧ hslot h 3 = h.2.2.2.1.2 ∧ hslot h 4 = h.2.2.2.2.1.2 := ⟨rfl, rfl, rfl, rfl, rfl⟩
/-- what is put at the history's end -/
theorem cx_hput {h : HistoryS} {q : StateS} {n : Nat} (hn : n < 5) (e : h.2.2.2.2.2 = nI n) : ∃ h' : HistoryS, hput h q = some h' ∧ h'.2.2.2.2.2 = nI (n + 1) ∧ hslot h' n = q ∧ ∀ j, j < n → hslot h' j = hslot h j := by
  unfold hput
  rw [e]
  rcases (show n = 0 ∨ n = 1 ∨ n = 2 ∨ n = 3 ∨ n = 4 by omega) with rfl | rfl | rfl | rfl | rfl
  · exact ⟨_, rfl, rfl, rfl, fun j hj => absurd hj (Nat.not_lt_zero j)⟩
  · refine ⟨_, rfl, rfl, rfl, fun j hj => ?_⟩
    rcases (show j = 0 by omega) with rfl
    rfl
  · refine ⟨_, rfl, rfl, rfl, fun j hj => ?_⟩
    rcases (show j = 0 ∨ j = 1 by omega) with rfl | rfl <;> rfl
  · refine ⟨_, rfl, rfl, rfl, fun j hj => ?_⟩
    rcases (show j = 0 ∨ j = 1 ∨ j = 2 by omega) with rfl | rfl | rfl <;> rfl
  · refine ⟨_, rfl, rfl, rfl, fun j hj => ?_⟩
    rcases (show j = 0 ∨ j = 1 ∨ j = 2 ∨ j = 3 by omega) with rfl | rfl | rfl | rfl <;> rfl
