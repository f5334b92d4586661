/-! one item, on both sides -/
theorem tx_find {x : Int32} {F : Nat} {ks : FI} (hF : F ≤ 16) : (∃ j, j < F ∧ ks j = x ∧ f_State_find 200 x (nI F) ks = some (nI j)) ∨ ((∀ j, j < F → ¬ ks j = x) ∧ f_State_find 200 x (nI F) ks = some (-1)) := by
  unfold f_State_find
  by_cases q : ∃ j, j < F ∧ ks j = x
  · obtain ⟨j, ⟨hj, hx⟩, hl⟩ := pk_least (fun j => j < F ∧ ks j = x) q
    exact Or.inl ⟨j, hj, hx, findC_at hF hj hx (fun i hi e => hl i hi ⟨by omega, e⟩) 200 0 (by omega) (by omega)⟩
  · exact Or.inr ⟨fun j hj e => q ⟨j, hj, e⟩, findC_no (K := fun i3 => some (-1)) hF (fun j hj e => q ⟨j, hj, e⟩) 200 0 (by omega) (by omega)⟩
theorem tx_known {x : Int32} {F i : Nat} {ks ik : FI} (hF : F ≤ 16) (hi : i ≤ 50) : f_Text_isKnown 200 x ik (nI i) (nI F) ks = some 1 ∧ ((∃ j, j < F ∧ ks j = x) ∨ ∃ j, j < i ∧ ik j = x) ∨ f_Text_isKnown 200 x ik (nI i) (nI F) ks = some 0 ∧ (∀ j, j < F → ¬ ks j = x) ∧ ∀ j, j < i → ¬ ik j = x := by
  unfold f_Text_isKnown
  rcases tx_find (x := x) (ks := ks) hF with ⟨j, hj, hx, e⟩ | ⟨hno, e⟩
  · rw [e, cx_ob, if_neg (of_eq_false (nI_m1 (by omega)))]
    exact Or.inl ⟨rfl, Or.inl ⟨j, hj, hx⟩⟩
  · rw [e, cx_ob, if_pos rfl]
    have no : ∀ (n k : Nat), k ≤ i → i < k + n → (∀ j, j < i → ¬ ik j = x) → f_Text_isKnown_L13 x ik (nI i) (fun i4 => some 0) n (nI k) = some 0 := by
      intro n
      induction n with
      | zero => intro k h1 h2; omega
      | succ n ih =>
        intro k h1 h2 h3
        rw [f_Text_isKnown_L13]
        by_cases q : k = i
        · subst q; rw [if_pos (nI_le (Nat.le_refl _) (by omega))]
        · rw [if_neg (nI_ge (by omega) (by omega)), if_pos (ck_nI (by omega) (by decide)), nI_clamp (by omega), if_neg (h3 k (by omega)), nI_1]
          exact ih (k + 1) (by omega) (by omega) h3
    have yes : ∀ (n k : Nat), k ≤ i → i < k + n → (∃ j, k ≤ j ∧ j < i ∧ ik j = x) → f_Text_isKnown_L13 x ik (nI i) (fun i4 => some 0) n (nI k) = some 1 := by
      intro n
      induction n with
      | zero => intro k h1 h2; omega
      | succ n ih =>
        intro k h1 h2 h3
        obtain ⟨j, j1, j2, j3⟩ := h3
        rw [f_Text_isKnown_L13, if_neg (nI_ge (by omega) (by omega)), if_pos (ck_nI (by omega) (by decide)), nI_clamp (by omega)]
        by_cases z : ik k = x
        · rw [if_pos z]
        · rw [if_neg z, nI_1]
          refine ih (k + 1) (by omega) (by omega) ⟨j, ?_, j2, j3⟩
          rcases Nat.lt_or_ge k j with w | w
          · exact w
          · exact absurd (by rw [show k = j by omega]; exact j3) z
    by_cases q : ∃ j, j < i ∧ ik j = x
    · obtain ⟨j, hj, hx⟩ := q
      exact Or.inl ⟨yes 200 0 (by omega) (by omega) ⟨j, by omega, hj, hx⟩, Or.inr ⟨j, hj, hx⟩⟩
    · exact Or.inr ⟨no 200 0 (by omega) (by omega) (fun j hj e => q ⟨j, hj, e⟩), hno, fun j hj e => q ⟨j, hj, e⟩⟩
theorem tx_readAt {x : Int32} {k : Nat} {rk : FI} {rc : FJ} (hk : k ≤ 16) : (∃ j, j < k ∧ rk j = x ∧ f_Model_readAt 200 x rk rc (nI k) = some (nI j, rk, rc, nI k)) ∨ ((∀ j, j < k → ¬ rk j = x) ∧ k = 16 ∧ f_Model_readAt 200 x rk rc (nI k) = some (-1, rk, rc, nI k)) ∨ ((∀ j, j < k → ¬ rk j = x) ∧ k < 16 ∧ f_Model_readAt 200 x rk rc (nI k) = some (nI k, upd rk k x, vp_updL rc k 0, nI (k + 1))) := by
  unfold f_Model_readAt
  generalize hK : (fun (i6 : Int32) => if nI k = 16 then some ((-1 : Int32), rk, rc, nI k) else if ck (nI k) 16 = true then if ck (nI k) 16 = true then some ((nI k + 1) - 1, upd rk (nI k).toNatClampNeg x, vp_updL rc (nI k).toNatClampNeg 0, nI k + 1) else none else none) = K
  by_cases q : ∃ j, j < k ∧ rk j = x
  · obtain ⟨j, ⟨hj, hx⟩, hl⟩ := pk_least (fun j => j < k ∧ rk j = x) q
    have yes : ∀ (n i : Nat), i ≤ j → j < i + n → f_Model_readAt_L2 x rk rc (nI k) K n (nI i) = some (nI j, rk, rc, nI k) := by
      intro n
      induction n with
      | zero => intro i h1 h2; omega
      | succ n ih =>
        intro i h1 h2
        rw [f_Model_readAt_L2, if_neg (nI_ge (by omega) (by omega)), if_pos (ck_nI (by omega) (by decide)), nI_clamp (by omega)]
        by_cases z : i = j
        · subst z; rw [if_pos hx]
        · rw [if_neg (fun e => hl i (by omega) ⟨by omega, e⟩), nI_1]
          exact ih (i + 1) (by omega) (by omega)
    exact Or.inl ⟨j, hj, hx, yes 200 0 (by omega) (by omega)⟩
  · have hno : ∀ j, j < k → ¬ rk j = x := fun j hj e => q ⟨j, hj, e⟩
    have no : ∀ (n i : Nat), i ≤ k → k < i + n → f_Model_readAt_L2 x rk rc (nI k) K n (nI i) = K (nI k) := by
      intro n
      induction n with
      | zero => intro i h1 h2; omega
      | succ n ih =>
        intro i h1 h2
        rw [f_Model_readAt_L2]
        by_cases z : i = k
        · subst z; rw [if_pos (nI_le (Nat.le_refl _) (by omega))]
        · rw [if_neg (nI_ge (by omega) (by omega)), if_pos (ck_nI (by omega) (by decide)), nI_clamp (by omega), if_neg (hno i (by omega)), nI_1]
          exact ih (i + 1) (by omega) (by omega)
    have e : f_Model_readAt_L2 x rk rc (nI k) K 200 0 = K (nI k) := no 200 0 (by omega) (by omega)
    rw [e, ← hK]
    by_cases z : k = 16
    · exact Or.inr (Or.inl ⟨hno, z, if_pos (by rw [z]; rfl)⟩)
    · refine Or.inr (Or.inr ⟨hno, by omega, ?_⟩)
      show (if nI k = 16 then _ else _) = _
      rw [if_neg (show ¬ nI k = (16 : Int32) from fun w => z ((nI_eq (b := 16) (by omega) (by omega)).mp w)), if_pos (ck_nI (by omega) (by decide)), if_pos (ck_nI (by omega) (by decide)), nI_clamp (by omega), nI_1, nI_pred]
/-- an item at p: its key, its count, where it ends, and behind the blanks -/
def tx_ST (c : FI) (n p x y A P : Nat) : Prop := tx_nu c n (tx_SB c n p) 0 999 = some x ∧
  (((tx_SB c n (tx_ND c n (tx_SB c n p)) < n ∧ c (tx_SB c n (tx_ND c n (tx_SB c n p))) = 43) ∧ tx_nu c n (tx_SB c n (tx_SB c n (tx_ND c n (tx_SB c n p)) + 1)) 1 9999 = some y ∧ A = tx_ND c n (tx_SB c n (tx_SB c n (tx_ND c n (tx_SB c n p)) + 1)) ∧ P = tx_SB c n A) ∨
   (¬ (tx_SB c n (tx_ND c n (tx_SB c n p)) < n ∧ c (tx_SB c n (tx_ND c n (tx_SB c n p))) = 43) ∧ y = 1 ∧ A = tx_SB c n (tx_ND c n (tx_SB c n p)) ∧ P = A))
theorem tx_ST_fact {c : FI} {n p x y A P : Nat} (hn : n ≤ 100) (hp : p ≤ n) (h : tx_ST c n p x y A P) : x ≤ 999 ∧ 1 ≤ y ∧ y ≤ 9999 ∧ A ≤ n ∧ P ≤ n ∧ p + 1 ≤ P ∧ tx_SB c n A = P ∧ tx_SB c n P = P := by
  obtain ⟨h1, h2⟩ := h
  obtain ⟨a1, a2, a3⟩ := tx_SB_st (c := c) hn hp
  obtain ⟨_, b2, b3⟩ := tx_nu_le h1
  obtain ⟨c1, c2⟩ := tx_ND_st (c := c) (n := n) a2
  obtain ⟨d1, d2, d3⟩ := tx_SB_st (c := c) hn c2
  rcases h2 with ⟨e1, e2, e3, e4⟩ | ⟨e1, e2, e3, e4⟩
  · obtain ⟨f1, f2, f3⟩ := tx_nu_le e2
    obtain ⟨g1, g2, g3⟩ := tx_SB_st (c := c) hn (show tx_SB c n (tx_ND c n (tx_SB c n p)) + 1 ≤ n by omega)
    obtain ⟨i1, i2⟩ := tx_ND_st (c := c) (n := n) g2
    rw [← e3] at i1 i2
    obtain ⟨j1, j2, j3⟩ := tx_SB_st (c := c) hn i2
    rw [← e4] at j1 j2
    exact ⟨b2, f1, f2, i2, j2, by omega, e4.symm, by rw [e4]; exact tx_SB_SB hn i2⟩
  · subst e4
    rw [← e3] at d1 d2
    have e5 : tx_SB c n P = P := by rw [e3]; exact tx_SB_SB hn c2
    exact ⟨b2, by omega, by omega, d2, d2, by omega, e5, e5⟩
theorem tx_keep {ik ic : FI} {i : Nat} {x y : Int32} (hi : i < 50) : f_Text_keep x y ik ic (nI i) = some (upd ik i x, upd ic i y, nI (i + 1)) := by
  unfold f_Text_keep
  rw [if_neg (show ¬ (50 : Int32) ≤ nI i from nI_ge (b := 50) hi (by omega)), if_pos (ck_nI hi (by decide)), if_pos (ck_nI hi (by decide)), nI_clamp (by omega), nI_1]
/-- the class behind a key -/
theorem tx_cJ {c : FI} {n p x y A P i : Nat} {ik ic : FI} {nf : Int32} (hn : n ≤ 100) (hp : p ≤ n) (hi : i < 50) (h : tx_ST c n p x y A P) : f_Text_readItem_J62 200 (nI x) ik ic (nI i) nf (nI (tx_ND c n (tx_SB c n p))) c (nI n) = some (-1, upd ik i (nI x), upd ic i (nI y), nI (i + 1), nf, nI P) := by
  obtain ⟨h1, h2⟩ := h
  obtain ⟨a1, a2, a3⟩ := tx_SB_st (c := c) hn hp
  obtain ⟨c1, c2⟩ := tx_ND_st (c := c) (n := n) a2
  obtain ⟨d1, d2, d3⟩ := tx_SB_st (c := c) hn c2
  unfold f_Text_readItem_J62
  rw [tx_skip hn c2, cx_ob, tx_skS hn d2, cx_ob]
  rcases h2 with ⟨e1, e2, e3, e4⟩ | ⟨e1, e2, e3, e4⟩
  · obtain ⟨g1, g2, g3⟩ := tx_SB_st (c := c) hn (show tx_SB c n (tx_ND c n (tx_SB c n p)) + 1 ≤ n by omega)
    obtain ⟨i1, i2⟩ := tx_ND_st (c := c) (n := n) g2
    obtain ⟨f1, f2, f3⟩ := tx_nu_le e2
    simp only [if_pos e1, cx_i10, if_false]
    rw [tx_skip hn (by omega), cx_ob, (tx_numC hn g2).1, cx_ob]
    unfold tx_nu at e2
    by_cases zz : (1 ≤ tx_ND c n (tx_SB c n (tx_SB c n (tx_ND c n (tx_SB c n p)) + 1)) - tx_SB c n (tx_SB c n (tx_ND c n (tx_SB c n p)) + 1) ∧ tx_ND c n (tx_SB c n (tx_SB c n (tx_ND c n (tx_SB c n p)) + 1)) - tx_SB c n (tx_SB c n (tx_ND c n (tx_SB c n p)) + 1) ≤ 4) ∧ (1 ≤ tx_vl c (tx_SB c n (tx_SB c n (tx_ND c n (tx_SB c n p)) + 1)) (tx_ND c n (tx_SB c n (tx_SB c n (tx_ND c n (tx_SB c n p)) + 1)) - tx_SB c n (tx_SB c n (tx_ND c n (tx_SB c n p)) + 1)) ∧ tx_vl c (tx_SB c n (tx_SB c n (tx_ND c n (tx_SB c n p)) + 1)) (tx_ND c n (tx_SB c n (tx_SB c n (tx_ND c n (tx_SB c n p)) + 1)) - tx_SB c n (tx_SB c n (tx_ND c n (tx_SB c n p)) + 1)) ≤ 9999)
    · rw [if_pos zz] at e2
      have e2 := Option.some.inj e2
      simp only [if_pos zz.1, e2]
      rw [if_pos (show (1 : Int32) ≤ nI y from nI_le (a := 1) f1 (by omega)), tx_skip hn i2, cx_ob, tx_keep hi, cx_ob, e4, e3]
    · rw [if_neg zz] at e2
      exact absurd e2 (by simp)
  · simp only [if_neg e1, if_true, eq_self]
    rw [tx_keep hi, cx_ob, e2, e4, e3]
    rfl
/-- .. and where its count is faulty -/
theorem tx_cJf {c : FI} {n p i : Nat} {ik ic : FI} {x nf : Int32} (hn : n ≤ 100) (hp : p ≤ n) (e1 : tx_SB c n (tx_ND c n (tx_SB c n p)) < n ∧ c (tx_SB c n (tx_ND c n (tx_SB c n p))) = 43) (e2 : tx_nu c n (tx_SB c n (tx_SB c n (tx_ND c n (tx_SB c n p)) + 1)) 1 9999 = none) : ∃ z, f_Text_readItem_J62 200 x ik ic (nI i) nf (nI (tx_ND c n (tx_SB c n p))) c (nI n) = some (nI (tx_SB c n (tx_SB c n (tx_ND c n (tx_SB c n p)) + 1)), ik, ic, nI i, nf, z) := by
  obtain ⟨a1, a2, a3⟩ := tx_SB_st (c := c) hn hp
  obtain ⟨c1, c2⟩ := tx_ND_st (c := c) (n := n) a2
  obtain ⟨d1, d2, d3⟩ := tx_SB_st (c := c) hn c2
  obtain ⟨g1, g2, g3⟩ := tx_SB_st (c := c) hn (show tx_SB c n (tx_ND c n (tx_SB c n p)) + 1 ≤ n by omega)
  unfold f_Text_readItem_J62
  rw [tx_skip hn c2, cx_ob, tx_skS hn d2, cx_ob]
  simp only [if_pos e1, cx_i10, if_false]
  rw [tx_skip hn (by omega), cx_ob, (tx_numC hn g2).1, cx_ob]
  unfold tx_nu at e2
  generalize tx_SB c n (tx_SB c n (tx_ND c n (tx_SB c n p)) + 1) = r at g2 e2 ⊢
  by_cases zz : 1 ≤ tx_ND c n r - r ∧ tx_ND c n r - r ≤ 4
  · have hv := tx_vl0 (c := c) hn g2 zz.2
    by_cases z1 : 1 ≤ tx_vl c r (tx_ND c n r - r)
    · rw [if_pos ⟨zz, z1, hv⟩] at e2
      exact absurd e2 (by simp)
    · simp only [if_pos zz]
      rw [if_neg (show ¬ (1 : Int32) ≤ nI (tx_vl c r (tx_ND c n r - r)) from nI_ge (b := 1) (by omega) (by omega))]
      exact ⟨_, rfl⟩
  · simp only [if_neg zz]
    rw [if_neg (show ¬ (1 : Int32) ≤ -1 by decide)]
    exact ⟨_, rfl⟩
/-- the class's start of an item -/
theorem tx_cI {c : FI} {n p i F : Nat} {ik ic ks : FI} {nf : Int32} {at0 : Int32} (hn : n ≤ 100) (hp : p ≤ n) (h0 : at0 = nI p) : (∀ x, tx_nu c n (tx_SB c n p) 0 999 = some x → f_Text_readItem 200 c (nI n) ik ic (nI i) nf at0 (nI F) ks = (f_Text_isKnown 200 (nI x) ik (nI i) (nI F) ks).bind (fun r4 => if r4 = 0 then if (nI F + nf) < 16 then f_Text_readItem_J62 200 (nI x) ik ic (nI i) (nf + 1) (nI (tx_ND c n (tx_SB c n p))) c (nI n) else some (nI (tx_SB c n p), ik, ic, nI i, nf, nI (tx_ND c n (tx_SB c n p))) else f_Text_readItem_J62 200 (nI x) ik ic (nI i) nf (nI (tx_ND c n (tx_SB c n p))) c (nI n))) ∧
    (tx_nu c n (tx_SB c n p) 0 999 = none → f_Text_readItem 200 c (nI n) ik ic (nI i) nf at0 (nI F) ks = some (nI (tx_SB c n p), ik, ic, nI i, nf, nI (tx_ND c n (tx_SB c n p)))) := by
  subst h0
  obtain ⟨a1, a2, a3⟩ := tx_SB_st (c := c) hn hp
  unfold f_Text_readItem
  rw [tx_skip hn hp, cx_ob, (tx_numC hn a2).1, cx_ob, p_from, cx_ob]
  unfold tx_nu
  generalize tx_SB c n p = r at a1 a2 a3
  by_cases zz : 1 ≤ tx_ND c n r - r ∧ tx_ND c n r - r ≤ 4
  · simp only [if_pos zz]
    have hv := tx_vl0 (c := c) hn a2 zz.2
    by_cases z1 : tx_vl c r (tx_ND c n r - r) ≤ 999
    · rw [if_pos ⟨zz, Nat.zero_le _, z1⟩, cx_bT ⟨nI_pos' (by omega), nI_le (b := 999) z1 (by omega)⟩]
      exact ⟨fun x e => by rw [← Option.some.inj e], fun e => absurd e (by simp)⟩
    · rw [if_neg (fun w => z1 w.2.2), cx_bN (fun w => z1 ((nI_leI (b := 999) (by omega) (by omega)).mp w.2))]
      exact ⟨fun x e => absurd e (by simp), fun _ => rfl⟩
  · simp only [if_neg zz]
    rw [if_neg (fun w => zz w.1), cx_bN (show ¬ ((0 : Int32) ≤ -1 ∧ (-1 : Int32) ≤ 999) by decide)]
    exact ⟨fun x e => absurd e (by simp), fun _ => rfl⟩
/-- the model's item -/
theorem tx_mI_no {c tx : FI} {n p k : Nat} {z : Int32} {row rk : FI} {num rc : FJ} (ag : tx_AG c tx n) (hp : p ≤ n) (e : tx_nu c n (tx_SB c n p) 0 999 = none) : f_Model_readsItem 200 z row num tx (nI n) (nI p) rk rc (nI k) = some (0, row, num, nI (tx_SB c n p), rk, rc, nI k) := by
  have hn := ag.1
  obtain ⟨a1, a2, a3⟩ := tx_SB_st (c := c) hn hp
  have er := tx_numM (a := 0) (b := 999) ag a2 (by omega) (by omega)
  rw [tx_SB_SB hn hp, e] at er
  have er : f_Model_reads 200 0 999 tx (nI n) (nI (tx_SB c n p)) = some (-1, nI (tx_SB c n p)) := er
  unfold f_Model_readsItem
  rw [tx_here ag hp, cx_ob, er, cx_ob]
  unfold f_Model_readsItem_J30 f_Model_readsItem_J40
  simp only [if_true, eq_self, ite_self]
theorem tx_mI_full {c tx : FI} {n p k x : Nat} {z : Int32} {row rk rk' : FI} {num rc rc' : FJ} {k' : Int32} (ag : tx_AG c tx n) (hp : p ≤ n) (e : tx_nu c n (tx_SB c n p) 0 999 = some x) (hr : f_Model_readAt 200 (nI x) rk rc (nI k) = some (-1, rk', rc', k')) : f_Model_readsItem 200 z row num tx (nI n) (nI p) rk rc (nI k) = some (0, row, num, nI (tx_SB c n p), rk', rc', k') := by
  have hn := ag.1
  obtain ⟨a1, a2, a3⟩ := tx_SB_st (c := c) hn hp
  obtain ⟨_, b2, b3⟩ := tx_nu_le e
  obtain ⟨c1, c2⟩ := tx_ND_st (c := c) (n := n) a2
  have er := tx_numM (a := 0) (b := 999) ag a2 (by omega) (by omega)
  rw [tx_SB_SB hn hp, e] at er
  have er : f_Model_reads 200 0 999 tx (nI n) (nI (tx_SB c n p)) = some (nI x, nI (tx_ND c n (tx_SB c n p))) := er
  have hc : ¬ tx_ch c n (tx_SB c n p) < 0 := by
    unfold tx_ch
    rw [if_neg (by omega)]
    exact Int32.not_lt.mpr (ag.2 _ (by omega)).2
  unfold f_Model_readsItem
  rw [tx_here ag hp, cx_ob, er, cx_ob, if_neg hc, if_neg (of_eq_false (nI_m1 (by omega))), hr, cx_ob, f_Model_readsItem_J40, if_pos rfl]
theorem tx_mI_cnt {c tx : FI} {n p k x j : Nat} {z : Int32} {row rk rk' : FI} {num rc rc' : FJ} {k' : Int32} (ag : tx_AG c tx n) (hp : p ≤ n) (hj : j < 2 ^ 31) (e : tx_nu c n (tx_SB c n p) 0 999 = some x) (hr : f_Model_readAt 200 (nI x) rk rc (nI k) = some (nI j, rk', rc', k')) (e1 : tx_SB c n (tx_ND c n (tx_SB c n p)) < n ∧ c (tx_SB c n (tx_ND c n (tx_SB c n p))) = 43) (e2 : tx_nu c n (tx_SB c n (tx_SB c n (tx_ND c n (tx_SB c n p)) + 1)) 1 9999 = none) : f_Model_readsItem 200 z row num tx (nI n) (nI p) rk rc (nI k) = some (0, row, num, nI (tx_SB c n (tx_SB c n (tx_ND c n (tx_SB c n p)) + 1)), rk', rc', k') := by
  have hn := ag.1
  obtain ⟨a1, a2, a3⟩ := tx_SB_st (c := c) hn hp
  obtain ⟨_, b2, b3⟩ := tx_nu_le e
  obtain ⟨c1, c2⟩ := tx_ND_st (c := c) (n := n) a2
  obtain ⟨d1, d2, d3⟩ := tx_SB_st (c := c) hn c2
  have er := tx_numM (a := 0) (b := 999) ag a2 (by omega) (by omega)
  rw [tx_SB_SB hn hp, e] at er
  have er : f_Model_reads 200 0 999 tx (nI n) (nI (tx_SB c n p)) = some (nI x, nI (tx_ND c n (tx_SB c n p))) := er
  have ey := tx_numM (a := 1) (b := 9999) (q := tx_SB c n (tx_ND c n (tx_SB c n p)) + 1) ag (by omega) (by omega) (by omega)
  rw [e2] at ey
  have ey : f_Model_reads 200 1 9999 tx (nI n) (nI (tx_SB c n (tx_ND c n (tx_SB c n p)) + 1)) = some (-1, nI (tx_SB c n (tx_SB c n (tx_ND c n (tx_SB c n p)) + 1))) := ey
  have hc : ¬ tx_ch c n (tx_SB c n p) < 0 := by
    unfold tx_ch
    rw [if_neg (by omega)]
    exact Int32.not_lt.mpr (ag.2 _ (by omega)).2
  unfold f_Model_readsItem
  rw [tx_here ag hp, cx_ob, er, cx_ob, if_neg hc, if_neg (of_eq_false (nI_m1 (by omega))), hr, cx_ob, f_Model_readsItem_J40, if_neg (of_eq_false (nI_m1 hj)), tx_sign ag c2 (by decide), cx_ob]
  simp only [if_pos e1, cx_i10, if_false]
  rw [ey, cx_ob, f_Model_readsItem_J77, if_pos rfl]
theorem tx_mI_ok {c tx : FI} {n p k x y A P j : Nat} {z : Int32} {row rk rk' : FI} {num rc rc' : FJ} {k' : Int32} (ag : tx_AG c tx n) (hp : p ≤ n) (hj : j < 2 ^ 31) (h : tx_ST c n p x y A P) (hr : f_Model_readAt 200 (nI x) rk rc (nI k) = some (nI j, rk', rc', k')) : f_Model_readsItem 200 z row num tx (nI n) (nI p) rk rc (nI k) = f_Model_readsItem_J77 200 z (nI x) (nI j) (nI y) row num (nI A) rk' rc' k' := by
  have hn := ag.1
  obtain ⟨e, h2⟩ := h
  obtain ⟨a1, a2, a3⟩ := tx_SB_st (c := c) hn hp
  obtain ⟨_, b2, b3⟩ := tx_nu_le e
  obtain ⟨c1, c2⟩ := tx_ND_st (c := c) (n := n) a2
  obtain ⟨d1, d2, d3⟩ := tx_SB_st (c := c) hn c2
  have er := tx_numM (a := 0) (b := 999) ag a2 (by omega) (by omega)
  rw [tx_SB_SB hn hp, e] at er
  have er : f_Model_reads 200 0 999 tx (nI n) (nI (tx_SB c n p)) = some (nI x, nI (tx_ND c n (tx_SB c n p))) := er
  have hc : ¬ tx_ch c n (tx_SB c n p) < 0 := by
    unfold tx_ch
    rw [if_neg (by omega)]
    exact Int32.not_lt.mpr (ag.2 _ (by omega)).2
  unfold f_Model_readsItem
  rw [tx_here ag hp, cx_ob, er, cx_ob, if_neg hc, if_neg (of_eq_false (nI_m1 (by omega))), hr, cx_ob, f_Model_readsItem_J40, if_neg (of_eq_false (nI_m1 hj)), tx_sign ag c2 (by decide), cx_ob]
  rcases h2 with ⟨e1, e2, e3, e4⟩ | ⟨e1, e2, e3, e4⟩
  · have ey := tx_numM (a := 1) (b := 9999) (q := tx_SB c n (tx_ND c n (tx_SB c n p)) + 1) ag (by omega) (by omega) (by omega)
    rw [e2] at ey
    have ey : f_Model_reads 200 1 9999 tx (nI n) (nI (tx_SB c n (tx_ND c n (tx_SB c n p)) + 1)) = some (nI y, nI (tx_ND c n (tx_SB c n (tx_SB c n (tx_ND c n (tx_SB c n p)) + 1)))) := ey
    simp only [if_pos e1, cx_i10, if_false]
    rw [ey, cx_ob, e3]
  · simp only [if_neg e1, if_true, eq_self]
    rw [e2, e3]
    rfl
