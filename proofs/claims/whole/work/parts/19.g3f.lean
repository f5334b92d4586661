theorem fl_c5 : ∀ b, b < 100 → ∀ f, f < 16 → fl_g (b + 536) (f + 1) = true := by decide +kernel
