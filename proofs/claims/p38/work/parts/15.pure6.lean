theorem sem0 {D N Q : Nat} {M K : Nat} {ks : FI} : cx_SEM D N Q (cx_SS M K ks (fun _ => 0)) (fun _ => 0) (fun _ => 0) (fun _ => 0) := by
  have z : ∀ c, cx_SS M K ks (fun _ => 0) c = 0 := fun c => cx_sm_z fun f _ => by
    by_cases h : cx_bt (cx_pK M K (ks f).toNatClampNeg) c = true
    · rw [if_pos h]; rfl
    · rw [if_neg h]
  refine ⟨fun c hc => ?_, fun u hu => ?_⟩
  · rw [z, Nat.zero_mod, Nat.zero_div, if_pos rfl]; exact ⟨rfl, rfl⟩
  · have : ∀ c, (if cx_bt (cx_pU N Q c) u = true then cx_SS M K ks (fun _ => 0) c / 2 ^ D else 0) = 0 := by
      intro c
      rw [z, Nat.zero_div]
      by_cases h : cx_bt (cx_pU N Q c) u = true
      · rw [if_pos h]
      · rw [if_neg h]
    rw [cx_sm_z fun c _ => this c]
    rfl
