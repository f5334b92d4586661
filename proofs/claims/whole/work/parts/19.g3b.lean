theorem fl_c1 : ∀ b, b < 100 → ∀ f, f < 16 → fl_g (b + 136) (f + 1) = true := by decide +kernel
