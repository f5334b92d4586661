theorem nI_m1 {j : Nat} (h : j < 2 ^ 31) : (nI j = (-1 : Int32)) = False := eq_false fun w => by
  have := congrArg Int32.toInt w
  rw [nI_toInt h] at this
  have h2 : (-1 : Int32).toInt = -1 := by decide
  omega
