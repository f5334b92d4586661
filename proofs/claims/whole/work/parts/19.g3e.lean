theorem fl_c4 : ∀ b, b < 100 → ∀ f, f < 16 → fl_g (b + 436) (f + 1) = true := by decide +kernel
