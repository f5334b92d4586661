theorem fl_c3 : ∀ b, b < 100 → ∀ f, f < 16 → fl_g (b + 336) (f + 1) = true := by decide +kernel
