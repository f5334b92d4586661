theorem cx_SS34 {M K : Nat} {ks : FI} {T : FJ} (hT : ∀ f, f < 16 → ∃ a, a ≤ 1000000000 ∧ T f = lN a) : ∀ c, c < 24 → cx_SS M K ks T c ≤ 2 ^ 34 := fun c _ => by
  have : cx_SS M K ks T c ≤ 16 * 1000000000 := cx_sm_b fun f hf => by
    obtain ⟨a, ha, e⟩ := hT f hf
    by_cases z : cx_bt (cx_pK M K (ks f).toNatClampNeg) c = true
    · rw [if_pos z, e, cx_lcl (by omega)]; exact ha
    · rw [if_neg z]; omega
  omega
/-- the flows' true counts lie between their bounds -/
theorem cx_FL_snd {M D K N Q R F k : Nat} {ks : FI} {T : FJ} (hM : 2 ≤ M ∧ M ≤ 24) (hD : D ≤ 8) (hK : 1 ≤ K) (hN : 1 ≤ N ∧ N ≤ 16) (hQ : 1 ≤ Q) (hF : F ≤ 16) (hT : ∀ f, f < 16 → ∃ a, a ≤ 1000000000 ∧ T f = lN a) (hT0 : ∀ f, f < 16 → F ≤ f → T f = 0) : cx_IV F (fun f => (T f).toNatClampNeg) (2 ^ 50) (cx_FL M D K N Q R F ks (cx_SS M K ks T) k).1 (cx_FL M D K N Q R F ks (cx_SS M K ks T) k).2 := by
  have ok := cx_FL_ok (R := R) (K := K) (ks := ks) hM hD hN hQ hF hT hT0
  refine cx_snd_it (by omega) (by omega) ok (fun t ht => ?_) k
  obtain ⟨q, q1, q2⟩ := cx_pK_ex (M := M) (K := K) (x := (ks t).toNatClampNeg) (by omega) hM.2 hK
  obtain ⟨u, u1, u2, u3⟩ := cx_mi_b (g := cx_gF D (cx_SS M K ks T) (cx_OV M D N Q R (cx_SS M K ks T)).2) (m := cx_bF M K ks t) (x := (T t).toNatClampNeg) (B := 2 ^ 50) 24 (fun p hp hb => by
    obtain ⟨L, G, _, g2, _, g4, g5⟩ := ok t ht p hp hb
    have := cx_X_so (g := fun f => (T f).toNatClampNeg) ht hb
    have h2 : (T t).toNatClampNeg ≤ cx_X F (cx_bF M K ks) (fun f => (T f).toNatClampNeg) p := by omega
    exact ⟨G, g2, by omega, g5⟩) (cx_ct_pos q2 (by omega))
  exact ⟨0, u, rfl, u1, Nat.zero_le _, u2, u3⟩
/-! the questions over bounds: masks, sums, the widest -/
def cx_cm (lo hi : FJ) : Nat → Int32
  | 0 => 0
  | n + 1 => if lo n = hi n then cx_cm lo hi n ||| (1 <<< (nI n &&& 31)) else cx_cm lo hi n
theorem cx_cm_eq {lo hi lo' hi' : FJ} : ∀ {n : Nat}, (∀ t, t < n → lo t = lo' t ∧ hi t = hi' t) → cx_cm lo hi n = cx_cm lo' hi' n := by
  intro n
  induction n with
  | zero => intro _; rfl
  | succ n ih =>
    intro e
    rw [cx_cm, cx_cm, ih (fun t ht => e t (by omega)), (e n (by omega)).1, (e n (by omega)).2]
theorem cx_or0 (x : Int32) : x ||| 0 = x := cx_ext fun i _ => by rw [cx_or, cx_b0, Bool.or_false]
theorem cx_cT {nt : Nat} {lo hi : FJ} (hnt : nt ≤ 24) : f_Bounds_certainThings 200 lo hi (nI nt) = some (cx_cm lo hi nt) := by
  unfold f_Bounds_certainThings
  refine cx_lf (fun n j (s : Int32) => f_Bounds_certainThings_L4 lo hi (nI nt) (fun i3 i4 => some i3) n s (nI j)) (fun s => some s) (fun j => cx_cm lo hi j) nt (fun n => ?_) (fun n j hj => ?_) 200 0 (by omega) (by omega)
  · show f_Bounds_certainThings_L4 lo hi (nI nt) _ (n + 1) _ (nI nt) = _
    rw [f_Bounds_certainThings_L4, if_pos (nI_le (Nat.le_refl _) (by omega))]
  · show f_Bounds_certainThings_L4 lo hi (nI nt) _ (n + 1) _ (nI j) = f_Bounds_certainThings_L4 lo hi (nI nt) _ n _ (nI (j + 1))
    rw [f_Bounds_certainThings_L4, if_neg (nI_ge hj (by omega)), if_pos (ck_nI (by omega) (by decide)), if_pos (ck_nI (by omega) (by decide)), nI_clamp (by omega), nI_1, cx_cm]
    by_cases z : lo j = hi j
    · rw [if_pos z, if_pos z]
    · rw [if_neg z, if_neg z]
/-- the thing whose bounds are farthest apart, and how far -/
def cx_wd (lo hi : FJ) : Nat → Int32 × Int64
  | 0 => (-1, 0)
  | n + 1 => if hi n - lo n ≤ (cx_wd lo hi n).2 then cx_wd lo hi n else (nI n, hi n - lo n)
theorem cx_wd_eq {lo hi lo' hi' : FJ} : ∀ {n : Nat}, (∀ t, t < n → lo t = lo' t ∧ hi t = hi' t) → cx_wd lo hi n = cx_wd lo' hi' n := by
  intro n
  induction n with
  | zero => intro _; rfl
  | succ n ih =>
    intro e
    rw [cx_wd, cx_wd, ih (fun t ht => e t (by omega)), (e n (by omega)).1, (e n (by omega)).2]
theorem cx_wT {nt : Nat} {lo hi : FJ} (hnt : nt ≤ 24) : f_Bounds_widestThing 200 lo hi (nI nt) = some (cx_wd lo hi nt).1 := by
  unfold f_Bounds_widestThing
  refine cx_lf (fun n j (s : Int32 × Int64) => f_Bounds_widestThing_L7 lo hi (nI nt) (fun i4 i5 i6 => some i4) n s.1 s.2 (nI j)) (fun s => some s.1) (fun j => cx_wd lo hi j) nt (fun n => ?_) (fun n j hj => ?_) 200 0 (by omega) (by omega)
  · show f_Bounds_widestThing_L7 lo hi (nI nt) _ (n + 1) _ _ (nI nt) = _
    rw [f_Bounds_widestThing_L7, if_pos (nI_le (Nat.le_refl _) (by omega))]
  · show f_Bounds_widestThing_L7 lo hi (nI nt) _ (n + 1) _ _ (nI j) = f_Bounds_widestThing_L7 lo hi (nI nt) _ n _ _ (nI (j + 1))
    rw [f_Bounds_widestThing_L7, if_neg (nI_ge hj (by omega))]
    simp (disch := omega) only [cx_ck, if_true, nI_clamp, nI_1]
    rw [cx_wd]
    by_cases z : hi j - lo j ≤ (cx_wd lo hi j).2
    · rw [if_pos z, if_pos z]
    · rw [if_neg z, if_neg z]
/-- nothing is apart exactly where all are certain -/
theorem cx_wd_none {lo hi : FJ} : ∀ {n : Nat}, n ≤ 24 → (∀ t, t < n → ∃ l h : Nat, lo t = lN l ∧ hi t = lN h ∧ l ≤ h ∧ h ≤ 2 ^ 50) → ((cx_wd lo hi n).1 = -1 ↔ ∀ t, t < n → lo t = hi t) ∧ ∃ d : Nat, (cx_wd lo hi n).2 = lN d ∧ d ≤ 2 ^ 50 ∧ ((cx_wd lo hi n).1 = -1 → d = 0) := by
  intro n
  induction n with
  | zero => intro _ _; exact ⟨⟨fun _ t ht => absurd ht (Nat.not_lt_zero t), fun _ => rfl⟩, 0, rfl, Nat.zero_le _, fun _ => rfl⟩
  | succ n ih =>
    intro hn e
    obtain ⟨i1, d, i2, i3, i4⟩ := ih (by omega) (fun t ht => e t (by omega))
    obtain ⟨l, u, e1, e2, e3, e4⟩ := e n (by omega)
    rw [cx_wd]
    have es : hi n - lo n = lN (u - l) := by rw [e1, e2, lN_sub e3]
    rw [es, i2]
    by_cases z : lN (u - l) ≤ lN d
    · rw [if_pos z]
      have z2 := (pk_lLE (by omega) (by omega)).mp z
      refine ⟨⟨fun h t ht => ?_, fun h => i1.mpr fun t ht => h t (by omega)⟩, d, i2, i3, i4⟩
      by_cases q : t = n
      · subst q
        have := i4 h
        rw [e1, e2]
        exact congrArg lN (by omega)
      · exact i1.mp h t (by omega)
    · rw [if_neg z]
      have z2 : ¬ u - l ≤ d := fun w => z ((pk_lLE (by omega) (by omega)).mpr w)
      have hne : ¬ nI n = (-1 : Int32) := fun w => by
        have := congrArg Int32.toInt w
        rw [nI_toInt (by omega)] at this
        have h2 : (-1 : Int32).toInt = -1 := by decide
        omega
      refine ⟨⟨fun h => absurd h hne, fun h => ?_⟩, u - l, rfl, by omega, fun h => absurd h hne⟩
      have := h n (by omega)
      rw [e1, e2] at this
      have := (pk_lEQ (by omega) (by omega)).mp this
      omega
theorem cx_sT {nt : Nat} {lo hi : FJ} {z : Int32} (hnt : nt ≤ 24) : f_Bounds_sumOfBounds 200 z lo hi (nI nt) = some (cx_sL (if z = 0 then lo else hi) nt) := by
  unfold f_Bounds_sumOfBounds
  refine cx_lf (fun n j (s : Int64) => f_Bounds_sumOfBounds_L5 z lo hi (nI nt) (fun i6 i7 => some i6) n s (nI j)) (fun s => some s) (fun j => cx_sL (if z = 0 then lo else hi) j) nt (fun n => ?_) (fun n j hj => ?_) 200 0 (by omega) (by omega)
  · show f_Bounds_sumOfBounds_L5 z lo hi (nI nt) _ (n + 1) _ (nI nt) = _
    rw [f_Bounds_sumOfBounds_L5, if_pos (nI_le (Nat.le_refl _) (by omega))]
  · show f_Bounds_sumOfBounds_L5 z lo hi (nI nt) _ (n + 1) _ (nI j) = f_Bounds_sumOfBounds_L5 z lo hi (nI nt) _ n _ (nI (j + 1))
    rw [f_Bounds_sumOfBounds_L5, if_neg (nI_ge hj (by omega))]
    unfold f_Bounds_boundOf
    simp (disch := omega) only [cx_ck, if_true, nI_clamp, nI_1]
    rw [cx_sL]
    by_cases q : z = 0
    · rw [if_pos q, if_pos q, cx_ob]
    · rw [if_neg q, if_neg q, cx_ob]
theorem cx_sumT {t : FJ} : f_Braid_sumOfTruths 200 t = some (cx_sL t 16) := by
  unfold f_Braid_sumOfTruths
  refine cx_lf (fun n j (s : Int64) => f_Braid_sumOfTruths_L4 t (fun i3 i4 => some i3) n s (nI j)) (fun s => some s) (fun j => cx_sL t j) 16 (fun n => ?_) (fun n j hj => ?_) 200 0 (by omega) (by omega)
  · show f_Braid_sumOfTruths_L4 t _ (n + 1) _ (nI 16) = _
    rw [f_Braid_sumOfTruths_L4, if_pos (cx_L16 (by omega) (by omega))]
  · show f_Braid_sumOfTruths_L4 t _ (n + 1) _ (nI j) = f_Braid_sumOfTruths_L4 t _ n _ (nI (j + 1))
    rw [f_Braid_sumOfTruths_L4, if_neg (cx_G16 (by omega)), if_pos (ck_nI (by omega) (by decide)), nI_clamp (by omega), nI_1]
    rfl
theorem cx_sumN {t : FJ} : f_Braid_sumOfNumbers 200 t = some (cx_sL t 16) := by
  unfold f_Braid_sumOfNumbers
  refine cx_lf (fun n j (s : Int64) => f_Braid_sumOfNumbers_L4 t (fun i3 i4 => some i3) n s (nI j)) (fun s => some s) (fun j => cx_sL t j) 16 (fun n => ?_) (fun n j hj => ?_) 200 0 (by omega) (by omega)
  · show f_Braid_sumOfNumbers_L4 t _ (n + 1) _ (nI 16) = _
    rw [f_Braid_sumOfNumbers_L4, if_pos (cx_L16 (by omega) (by omega))]
  · show f_Braid_sumOfNumbers_L4 t _ (n + 1) _ (nI j) = f_Braid_sumOfNumbers_L4 t _ n _ (nI (j + 1))
    rw [f_Braid_sumOfNumbers_L4, if_neg (cx_G16 (by omega)), if_pos (ck_nI (by omega) (by decide)), nI_clamp (by omega), nI_1]
    rfl
theorem cx_sL_ext {g : Nat → Int64} {m : Nat} : ∀ {n : Nat}, m ≤ n → (∀ i, m ≤ i → i < n → g i = 0) → cx_sL g n = cx_sL g m := by
  intro n
  induction n with
  | zero => intro h _; rw [show m = 0 by omega]
  | succ n ih =>
    intro h e
    by_cases q : m = n + 1
    · subst q; rfl
    · rw [cx_sL, e n (by omega) (by omega), Int64.add_zero]
      exact ih (by omega) (fun i h1 h2 => e i h1 (by omega))
