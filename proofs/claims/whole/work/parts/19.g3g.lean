theorem fl_c6 : ∀ b, b < 93 → ∀ f, f < 16 → fl_g (b + 636) (f + 1) = true := by decide +kernel
