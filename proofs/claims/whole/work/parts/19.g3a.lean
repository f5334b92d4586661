/-- the float of the bits for each flow: both ways of reading its bits -/
def fl_g (b f : Nat) : Bool := decide (nn32 (FP.fdiv (FP.i2f (nI b)) (FP.i2f (nI f))) = true) && decide ((f_CB_bitsOfFloat 200 (FP.fdiv (FP.i2f (nI b)) (FP.i2f (nI f)))) = f_fbits (FP.fdiv (FP.i2f (nI b)) (FP.i2f (nI f)))) && (f_fbits (FP.fdiv (FP.i2f (nI b)) (FP.i2f (nI f)))).isSome
def fl_P (s n : Nat) : Prop := ∀ b, b < n → ∀ f, f < 16 → fl_g (b + s) (f + 1) = true
theorem fl_c0 : fl_P 36 5 := by
  unfold fl_P
  decide +kernel
theorem fl_c1 : fl_P 41 5 := by
  unfold fl_P
  decide +kernel
theorem fl_c2 : fl_P 46 5 := by
  unfold fl_P
  decide +kernel
theorem fl_c3 : fl_P 51 5 := by
  unfold fl_P
  decide +kernel
theorem fl_c4 : fl_P 56 5 := by
  unfold fl_P
  decide +kernel
theorem fl_c5 : fl_P 61 5 := by
  unfold fl_P
  decide +kernel
theorem fl_c6 : fl_P 66 5 := by
  unfold fl_P
  decide +kernel
theorem fl_c7 : fl_P 71 5 := by
  unfold fl_P
  decide +kernel
theorem fl_c8 : fl_P 76 5 := by
  unfold fl_P
  decide +kernel
theorem fl_c9 : fl_P 81 5 := by
  unfold fl_P
  decide +kernel
theorem fl_c10 : fl_P 86 5 := by
  unfold fl_P
  decide +kernel
theorem fl_c11 : fl_P 91 5 := by
  unfold fl_P
  decide +kernel
theorem fl_c12 : fl_P 96 5 := by
  unfold fl_P
  decide +kernel
theorem fl_c13 : fl_P 101 5 := by
  unfold fl_P
  decide +kernel
theorem fl_c14 : fl_P 106 5 := by
  unfold fl_P
  decide +kernel
theorem fl_c15 : fl_P 111 5 := by
  unfold fl_P
  decide +kernel
theorem fl_c16 : fl_P 116 5 := by
  unfold fl_P
  decide +kernel
theorem fl_c17 : fl_P 121 5 := by
  unfold fl_P
  decide +kernel
theorem fl_c18 : fl_P 126 5 := by
  unfold fl_P
  decide +kernel
theorem fl_c19 : fl_P 131 5 := by
  unfold fl_P
  decide +kernel
theorem fl_c20 : fl_P 136 5 := by
  unfold fl_P
  decide +kernel
theorem fl_c21 : fl_P 141 5 := by
  unfold fl_P
  decide +kernel
theorem fl_c22 : fl_P 146 5 := by
  unfold fl_P
  decide +kernel
theorem fl_c23 : fl_P 151 5 := by
  unfold fl_P
  decide +kernel
theorem fl_c24 : fl_P 156 5 := by
  unfold fl_P
  decide +kernel
theorem fl_c25 : fl_P 161 5 := by
  unfold fl_P
  decide +kernel
theorem fl_c26 : fl_P 166 5 := by
  unfold fl_P
  decide +kernel
theorem fl_c27 : fl_P 171 5 := by
  unfold fl_P
  decide +kernel
theorem fl_c28 : fl_P 176 5 := by
  unfold fl_P
  decide +kernel
theorem fl_c29 : fl_P 181 5 := by
  unfold fl_P
  decide +kernel
theorem fl_c30 : fl_P 186 5 := by
  unfold fl_P
  decide +kernel
theorem fl_c31 : fl_P 191 5 := by
  unfold fl_P
  decide +kernel
theorem fl_c32 : fl_P 196 5 := by
  unfold fl_P
  decide +kernel
theorem fl_c33 : fl_P 201 5 := by
  unfold fl_P
  decide +kernel
theorem fl_c34 : fl_P 206 5 := by
  unfold fl_P
  decide +kernel
theorem fl_c35 : fl_P 211 5 := by
  unfold fl_P
  decide +kernel
theorem fl_c36 : fl_P 216 5 := by
  unfold fl_P
  decide +kernel
theorem fl_c37 : fl_P 221 5 := by
  unfold fl_P
  decide +kernel
theorem fl_c38 : fl_P 226 5 := by
  unfold fl_P
  decide +kernel
theorem fl_c39 : fl_P 231 5 := by
  unfold fl_P
  decide +kernel
theorem fl_c40 : fl_P 236 5 := by
  unfold fl_P
  decide +kernel
theorem fl_c41 : fl_P 241 5 := by
  unfold fl_P
  decide +kernel
theorem fl_c42 : fl_P 246 5 := by
  unfold fl_P
  decide +kernel
theorem fl_c43 : fl_P 251 5 := by
  unfold fl_P
  decide +kernel
theorem fl_c44 : fl_P 256 5 := by
  unfold fl_P
  decide +kernel
theorem fl_c45 : fl_P 261 5 := by
  unfold fl_P
  decide +kernel
theorem fl_c46 : fl_P 266 5 := by
  unfold fl_P
  decide +kernel
