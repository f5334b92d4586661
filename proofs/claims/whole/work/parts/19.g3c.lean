theorem fl_c2 : ∀ b, b < 100 → ∀ f, f < 16 → fl_g (b + 236) (f + 1) = true := by decide +kernel
