/-- the float of the bits for each flow: both ways of reading its bits -/
def fl_g (b f : Nat) : Bool := decide (nn32 (FP.fdiv (FP.i2f (nI b)) (FP.i2f (nI f))) = true) && decide ((f_CB_bitsOfFloat 200 (FP.fdiv (FP.i2f (nI b)) (FP.i2f (nI f)))) = f_fbits (FP.fdiv (FP.i2f (nI b)) (FP.i2f (nI f)))) && (f_fbits (FP.fdiv (FP.i2f (nI b)) (FP.i2f (nI f)))).isSome
theorem fl_c0 : ∀ b, b < 100 → ∀ f, f < 16 → fl_g (b + 36) (f + 1) = true := by decide +kernel
