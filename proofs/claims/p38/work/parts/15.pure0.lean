/-! the pure half: the class's numbers against the reference's -/
theorem p_from {a x b : Int32} : f_CB_isFrom a x b = some (if a ≤ x ∧ x ≤ b then 1 else 0) := by
  unfold f_CB_isFrom
  by_cases h1 : x < a
  · rw [if_pos h1, if_neg (fun h => absurd h1 (Int32.not_lt.mpr h.1))]
  · rw [if_neg h1]
    by_cases h2 : b < x
    · rw [if_pos h2, if_neg (fun h => absurd h2 (Int32.not_lt.mpr h.2))]
    · rw [if_neg h2, if_pos ⟨Int32.not_lt.mp h1, Int32.not_lt.mp h2⟩]
/-- what holds of one state of the class by itself -/
def SOK (fc fb ff fu fv fr fl : Int32) (ks : FI) (t1 : FJ) (r1 m1 : FI) (n1 : FJ) (t2 : FJ) (r2 m2 : FI) (n2 : FJ) : Prop :=
  (2 ≤ fc ∧ fc ≤ 24) ∧ (1 ≤ fb ∧ fb ≤ 8) ∧ (1 ≤ ff ∧ ff ≤ 4) ∧ (1 ≤ fu ∧ fu ≤ 16) ∧ (1 ≤ fv ∧ fv ≤ 3) ∧ (0 ≤ fr ∧ fr ≤ 60) ∧ (0 ≤ fl ∧ fl ≤ 16) ∧
  (∀ f : Nat, f < fl.toNatClampNeg → 0 ≤ ks f ∧ ks f ≤ 999) ∧ (∀ f g : Nat, f < g → g < fl.toNatClampNeg → ks f ≠ ks g) ∧
  (∀ c : Nat, c < 24 → (m1 c = 0 ∨ m1 c = 1) ∧ (m2 c = 0 ∨ m2 c = 1)) ∧
  (∀ f : Nat, f < 16 → (0 ≤ t1 f ∧ t1 f ≤ 1000000000) ∧ (0 ≤ t2 f ∧ t2 f ≤ 1000000000)) ∧ (∀ f : Nat, f < 16 → fl.toNatClampNeg ≤ f → t1 f = 0 ∧ t2 f = 0) ∧
  cx_SEM fb.toNatClampNeg fu.toNatClampNeg fv.toNatClampNeg (cx_SS fc.toNatClampNeg ff.toNatClampNeg ks t1) r1 m1 n1 ∧
  cx_SEM fb.toNatClampNeg fu.toNatClampNeg fv.toNatClampNeg (cx_SS fc.toNatClampNeg ff.toNatClampNeg ks t2) r2 m2 n2
/-- the same, by naturals -/
def SOKn (M D K N Q R F : Nat) (ks : FI) (t1 : FJ) (r1 m1 : FI) (n1 : FJ) (t2 : FJ) (r2 m2 : FI) (n2 : FJ) : Prop :=
  (2 ≤ M ∧ M ≤ 24) ∧ (1 ≤ D ∧ D ≤ 8) ∧ (1 ≤ K ∧ K ≤ 4) ∧ (1 ≤ N ∧ N ≤ 16) ∧ (1 ≤ Q ∧ Q ≤ 3) ∧ R ≤ 60 ∧ F ≤ 16 ∧
  (∀ f : Nat, f < F → ∃ x : Nat, x ≤ 999 ∧ ks f = nI x) ∧ (∀ f g : Nat, f < g → g < F → ks f ≠ ks g) ∧
  (∀ f : Nat, f < 16 → ∃ a b : Nat, a ≤ 1000000000 ∧ b ≤ 1000000000 ∧ t1 f = lN a ∧ t2 f = lN b) ∧ (∀ f : Nat, f < 16 → F ≤ f → t1 f = 0 ∧ t2 f = 0) ∧
  cx_SEM D N Q (cx_SS M K ks t1) r1 m1 n1 ∧ cx_SEM D N Q (cx_SS M K ks t2) r2 m2 n2
theorem i32_nat {x a b : Int32} {p q : Nat} (ha : a.toInt = p) (hb : b.toInt = q) (h : a ≤ x ∧ x ≤ b) (hq : q < 2 ^ 31) : ∃ j : Nat, p ≤ j ∧ j ≤ q ∧ x = nI j := by
  have h1 := Int32.le_iff_toInt_le.mp h.1
  have h2 := Int32.le_iff_toInt_le.mp h.2
  rw [ha] at h1
  rw [hb] at h2
  refine ⟨x.toInt.toNat, by omega, by omega, Int32.toInt_inj.mp ?_⟩
  rw [nI_toInt (by omega)]
  omega
theorem i64_nat {x a b : Int64} {p q : Nat} (ha : a.toInt = p) (hb : b.toInt = q) (h : a ≤ x ∧ x ≤ b) (hq : q < 2 ^ 63) : ∃ j : Nat, p ≤ j ∧ j ≤ q ∧ x = lN j := by
  have h1 := Int64.le_iff_toInt_le.mp h.1
  have h2 := Int64.le_iff_toInt_le.mp h.2
  rw [ha] at h1
  rw [hb] at h2
  refine ⟨x.toInt.toNat, by omega, by omega, Int64.toInt_inj.mp ?_⟩
  rw [pk_lT (by omega)]
  omega
theorem sok_out {fc fb ff fu fv fr fl : Int32} {ks : FI} {t1 : FJ} {r1 m1 : FI} {n1 : FJ} {t2 : FJ} {r2 m2 : FI} {n2 : FJ} (h : SOK fc fb ff fu fv fr fl ks t1 r1 m1 n1 t2 r2 m2 n2) :
    ∃ M D K N Q R F : Nat, fc = nI M ∧ fb = nI D ∧ ff = nI K ∧ fu = nI N ∧ fv = nI Q ∧ fr = nI R ∧ fl = nI F ∧ SOKn M D K N Q R F ks t1 r1 m1 n1 t2 r2 m2 n2 := by
  obtain ⟨h1, h2, h3, h4, h5, h6, h7, h8, h9, h10, h11, h12, h13, h14⟩ := h
  obtain ⟨M, a1, b1, rfl⟩ := i32_nat (p := 2) (q := 24) rfl rfl h1 (by omega)
  obtain ⟨D, a2, b2, rfl⟩ := i32_nat (p := 1) (q := 8) rfl rfl h2 (by omega)
  obtain ⟨K, a3, b3, rfl⟩ := i32_nat (p := 1) (q := 4) rfl rfl h3 (by omega)
  obtain ⟨N, a4, b4, rfl⟩ := i32_nat (p := 1) (q := 16) rfl rfl h4 (by omega)
  obtain ⟨Q, a5, b5, rfl⟩ := i32_nat (p := 1) (q := 3) rfl rfl h5 (by omega)
  obtain ⟨R, _, b6, rfl⟩ := i32_nat (p := 0) (q := 60) rfl rfl h6 (by omega)
  obtain ⟨F, _, b7, rfl⟩ := i32_nat (p := 0) (q := 16) rfl rfl h7 (by omega)
  rw [nI_clamp (by omega)] at h8 h9 h12
  rw [nI_clamp (by omega), nI_clamp (by omega), nI_clamp (by omega), nI_clamp (by omega), nI_clamp (by omega)] at h13 h14
  refine ⟨M, D, K, N, Q, R, F, rfl, rfl, rfl, rfl, rfl, rfl, rfl, ⟨a1, b1⟩, ⟨a2, b2⟩, ⟨a3, b3⟩, ⟨a4, b4⟩, ⟨a5, b5⟩, b6, b7, fun f hf => ?_, h9, fun f hf => ?_, h12, h13, h14⟩
  · obtain ⟨x, _, b, e⟩ := i32_nat (p := 0) (q := 999) rfl rfl (h8 f hf) (by omega)
    exact ⟨x, b, e⟩
  · obtain ⟨x, _, b, e⟩ := i64_nat (p := 0) (q := 1000000000) rfl rfl (h11 f hf).1 (by omega)
    obtain ⟨y, _, c, e'⟩ := i64_nat (p := 0) (q := 1000000000) rfl rfl (h11 f hf).2 (by omega)
    exact ⟨x, y, b, c, e, e'⟩
theorem sok_in {M D K N Q R F : Nat} {ks : FI} {t1 : FJ} {r1 m1 : FI} {n1 : FJ} {t2 : FJ} {r2 m2 : FI} {n2 : FJ} (h : SOKn M D K N Q R F ks t1 r1 m1 n1 t2 r2 m2 n2) : SOK (nI M) (nI D) (nI K) (nI N) (nI Q) (nI R) (nI F) ks t1 r1 m1 n1 t2 r2 m2 n2 := by
  obtain ⟨h1, h2, h3, h4, h5, h6, h7, h8, h9, h11, h12, h13, h14⟩ := h
  have L : ∀ {a b : Nat}, a ≤ b → b < 2 ^ 31 → nI a ≤ nI b := fun h hb => nI_le h hb
  have mk01 : ∀ {S : Nat → Nat} {r m : FI} {n : FJ}, cx_SEM D N Q S r m n → ∀ c, c < 24 → (m c = 0 ∨ m c = 1) := by
    intro S r m n h c hc
    rw [(h.1 c hc).2]
    by_cases z : S c / 2 ^ D = 0
    · rw [if_pos z]; exact Or.inl rfl
    · rw [if_neg z]; exact Or.inr rfl
  have T : ∀ {a : Nat}, a ≤ 1000000000 → (0 : Int64) ≤ lN a ∧ lN a ≤ 1000000000 := fun h => ⟨(pk_lLE (a := 0) (by omega) (by omega)).mpr (Nat.zero_le _), (pk_lLE (b := 1000000000) (by omega) (by omega)).mpr h⟩
  refine ⟨⟨L (a := 2) h1.1 (by omega), L (b := 24) h1.2 (by omega)⟩, ⟨L (a := 1) h2.1 (by omega), L (b := 8) h2.2 (by omega)⟩, ⟨L (a := 1) h3.1 (by omega), L (b := 4) h3.2 (by omega)⟩, ⟨L (a := 1) h4.1 (by omega), L (b := 16) h4.2 (by omega)⟩, ⟨L (a := 1) h5.1 (by omega), L (b := 3) h5.2 (by omega)⟩, ⟨L (a := 0) (Nat.zero_le _) (by omega), L (b := 60) h6 (by omega)⟩, ⟨L (a := 0) (Nat.zero_le _) (by omega), L (b := 16) h7 (by omega)⟩, ?_, ?_, fun c hc => ⟨mk01 h13 c hc, mk01 h14 c hc⟩, ?_, ?_, ?_, ?_⟩
  · intro f hf
    rw [nI_clamp (by omega)] at hf
    obtain ⟨x, hx, e⟩ := h8 f hf
    rw [e]
    exact ⟨L (a := 0) (Nat.zero_le _) (by omega), L (b := 999) hx (by omega)⟩
  · rw [nI_clamp (by omega)]; exact h9
  · intro f hf
    obtain ⟨a, b, ha, hb, e1, e2⟩ := h11 f hf
    rw [e1, e2]
    exact ⟨T ha, T hb⟩
  · rw [nI_clamp (by omega)]; exact h12
  · rw [nI_clamp (by omega), nI_clamp (by omega), nI_clamp (by omega), nI_clamp (by omega), nI_clamp (by omega)]; exact h13
  · rw [nI_clamp (by omega), nI_clamp (by omega), nI_clamp (by omega), nI_clamp (by omega), nI_clamp (by omega)]; exact h14
