theorem mark01 {v : Int32} (h : v = 0 ∨ v = 1) : ((if v = 1 then some (1 : Int32) else some 0).bind (fun r3 => if r3 = 0 then some 0 else some 1) : Option Int32) = some v := by
  rcases h with rfl | rfl <;> rfl
