/-! the text read once: class and model go side by side -/
theorem cx_G100 {j : Nat} (h : j < 100) : ¬ (100 : Int32) ≤ nI j := nI_ge (b := 100) h (by omega)
def tx_TI (F : Nat) (ks : FI) (i : Nat) (ik : FI) (nf k : Nat) (rk : FI) : Prop := k = F + nf ∧ k ≤ 16 ∧ (∀ x : Int32, (∃ j, j < k ∧ rk j = x) ↔ ((∃ j, j < F ∧ ks j = x) ∨ ∃ j, j < i ∧ ik j = x)) ∧ ∀ a b, a < b → b < k → rk a ≠ rk b
def tx_EV (k : Nat) (rk : FI) (x : Int32) (k' : Nat) (rk' : FI) : Prop := ((∃ j, j < k ∧ rk j = x) ∧ k' = k ∧ rk' = rk) ∨ ((∀ j, j < k → ¬ rk j = x) ∧ k < 16 ∧ k' = k + 1 ∧ rk' = upd rk k x)
theorem tx_tail {c tx : FI} {n p x : Nat} (ag : tx_AG c tx n) (hp : p ≤ n) (hk : tx_nu c n (tx_SB c n p) 0 999 = some x) : (∃ q, q ≤ n ∧ tx_SB c n q = q ∧ (∀ (ik ic : FI) (i : Nat) (nf : Int32), ∃ z, f_Text_readItem_J62 200 (nI x) ik ic (nI i) nf (nI (tx_ND c n (tx_SB c n p))) c (nI n) = some (nI q, ik, ic, nI i, nf, z)) ∧
      (∀ (z : Int32) (row rk rk' : FI) (num rc rc' : FJ) (k j : Nat) (k' : Int32), j < 2 ^ 31 → f_Model_readAt 200 (nI x) rk rc (nI k) = some (nI j, rk', rc', k') → f_Model_readsItem 200 z row num tx (nI n) (nI p) rk rc (nI k) = some (0, row, num, nI q, rk', rc', k'))) ∨ ∃ y A P, tx_ST c n p x y A P := by
  have hn := ag.1
  obtain ⟨a1, a2, a3⟩ := tx_SB_st (c := c) hn hp
  obtain ⟨c1, c2⟩ := tx_ND_st (c := c) a2
  obtain ⟨d1, d2, d3⟩ := tx_SB_st (c := c) hn c2
  by_cases e1 : tx_SB c n (tx_ND c n (tx_SB c n p)) < n ∧ c (tx_SB c n (tx_ND c n (tx_SB c n p))) = 43
  · cases hm : tx_nu c n (tx_SB c n (tx_SB c n (tx_ND c n (tx_SB c n p)) + 1)) 1 9999 with
    | none =>
      obtain ⟨g1, g2, g3⟩ := tx_SB_st (c := c) hn (show tx_SB c n (tx_ND c n (tx_SB c n p)) + 1 ≤ n by omega)
      exact Or.inl ⟨_, g2, tx_SB_SB hn (by omega), fun ik ic i nf => tx_cJf hn hp e1 hm, fun z row rk rk' num rc rc' k j k' hj hr => tx_mI_cnt ag hp hj hk hr e1 hm⟩
    | some y => exact Or.inr ⟨y, _, _, hk, Or.inl ⟨e1, hm, rfl, rfl⟩⟩
  · exact Or.inr ⟨1, _, _, hk, Or.inr ⟨e1, rfl, rfl, rfl⟩⟩
theorem tx_J77 {x : Int32} {j y : Nat} {row rk : FI} {num rc : FJ} {at0 k : Int32} (hj : j < 16) (hy : y < 2 ^ 31) : f_Model_readsItem_J77 200 0 x (nI j) (nI y) row num at0 rk rc k = some (1, row, num, at0, rk, vp_updL rc j (rc j + lN y), k) := by
  rw [f_Model_readsItem_J77, if_neg (of_eq_false (nI_m1 hy)), if_pos (ck_nI hj (by decide)), if_pos (ck_nI hj (by decide)), if_pos rfl, nI_clamp (by omega), nI_l hy]
theorem tx_item {c tx ks ik ic rk : FI} {rc : FJ} {n p i F nf k : Nat} (ag : tx_AG c tx n) (hp : p ≤ n) (hi : 2 * i ≤ p) (hF : F ≤ 16) (T : tx_TI F ks i ik nf k rk) :
    (∃ (q : Nat) (nf' z1 : Int32) (rk' : FI) (rc' : FJ) (k' : Int32), q ≤ n ∧ tx_SB c n q = q ∧ f_Text_readItem 200 c (nI n) ik ic (nI i) (nI nf) (nI p) (nI F) ks = some (nI q, ik, ic, nI i, nf', z1) ∧ (∀ row num, f_Model_readsItem 200 0 row num tx (nI n) (nI p) rk rc (nI k) = some (0, row, num, nI q, rk', rc', k'))) ∨
    (∃ (x y A P k' nf' : Nat) (rk' : FI) (rc' : FJ), tx_ST c n p x y A P ∧ tx_EV k rk (nI x) k' rk' ∧ f_Text_readItem 200 c (nI n) ik ic (nI i) (nI nf) (nI p) (nI F) ks = some (-1, upd ik i (nI x), upd ic i (nI y), nI (i + 1), nI nf', nI P) ∧ (∀ row num, f_Model_readsItem 200 0 row num tx (nI n) (nI p) rk rc (nI k) = some (1, row, num, nI A, rk', rc', nI k')) ∧
      tx_TI F ks (i + 1) (upd ik i (nI x)) nf' k' rk' ∧ (∀ m, m < k' → rc' m = (if m < k then rc m else 0) + (if rk' m = nI x then lN y else 0))) := by
  have hn := ag.1
  obtain ⟨T1, T2, T3, T4⟩ := T
  cases hk : tx_nu c n (tx_SB c n p) 0 999 with
  | none =>
    obtain ⟨a1, a2, a3⟩ := tx_SB_st (c := c) hn hp
    exact Or.inl ⟨_, _, _, _, _, _, a2, tx_SB_SB hn hp, (tx_cI hn hp rfl).2 hk, fun row num => tx_mI_no ag hp hk⟩
  | some x =>
    obtain ⟨_, x9, _⟩ := tx_nu_le hk
    have ec := (tx_cI (ik := ik) (ic := ic) (i := i) (F := F) (ks := ks) (nf := nI nf) hn hp rfl).1 x hk
    obtain ⟨a1, a2, a3⟩ := tx_SB_st (c := c) hn hp
    rcases tx_known (x := nI x) (ks := ks) (ik := ik) hF (show i ≤ 50 by omega) with ⟨kn, hkn⟩ | ⟨kn, no1, no2⟩
    · rw [kn, cx_ob, if_neg cx_i1] at ec
      have hin := (T3 (nI x)).mpr hkn
      rcases tx_readAt (x := nI x) (rk := rk) (rc := rc) T2 with ⟨j, hj, hxj, hr⟩ | ⟨hno, _, _⟩ | ⟨hno, _, _⟩
      · rcases tx_tail ag hp hk with ⟨q, q1, q2, q3, q4⟩ | ⟨y, A, P, ST⟩
        · obtain ⟨z, hz⟩ := q3 ik ic i (nI nf)
          exact Or.inl ⟨q, _, z, _, _, _, q1, q2, ec.trans hz, fun row num => q4 0 row rk rk num rc rc k j _ (by omega) hr⟩
        · obtain ⟨f1, f2, f3, f4, f5, f6, f7, f8⟩ := tx_ST_fact hn hp ST
          refine Or.inr ⟨x, y, A, P, k, nf, rk, vp_updL rc j (rc j + lN y), ST, Or.inl ⟨hin, rfl, rfl⟩, ec.trans (tx_cJ hn hp (by omega) ST), fun row num => (tx_mI_ok ag hp (by omega) ST hr).trans (tx_J77 (by omega) (by omega)), ⟨T1, T2, fun w => ?_, T4⟩, fun m hm => ?_⟩
          · rw [T3 w]
            constructor
            · rintro (h | ⟨a, ha, hw⟩)
              · exact Or.inl h
              · exact Or.inr ⟨a, by omega, by rw [pk_un (by omega)]; exact hw⟩
            · rintro (h | ⟨a, ha, hw⟩)
              · exact Or.inl h
              · by_cases z : a = i
                · subst z
                  rw [pk_us] at hw
                  rw [← hw]; exact hkn
                · rw [pk_un z] at hw
                  exact Or.inr ⟨a, by omega, hw⟩
          · rw [if_pos hm]
            by_cases z : m = j
            · subst z; rw [pk_uLs, if_pos hxj]
            · rw [pk_uLn z, if_neg (fun w => by
                rcases Nat.lt_or_gt_of_ne z with u | u
                · exact T4 m j u hj (w.trans hxj.symm)
                · exact T4 j m u hm (hxj.trans w.symm)), Int64.add_zero]
      · exact absurd hin (fun ⟨j, hj, e⟩ => hno j hj e)
      · exact absurd hin (fun ⟨j, hj, e⟩ => hno j hj e)
    · rw [kn, cx_ob, if_pos rfl, nI_add, ← T1] at ec
      have hnin : ¬ ∃ j, j < k ∧ rk j = nI x := fun h => by
        rcases (T3 (nI x)).mp h with ⟨j, hj, e⟩ | ⟨j, hj, e⟩
        · exact no1 j hj e
        · exact no2 j hj e
      rcases tx_readAt (x := nI x) (rk := rk) (rc := rc) T2 with ⟨j, hj, hxj, hr⟩ | ⟨hno, h16, hr⟩ | ⟨hno, h16, hr⟩
      · exact absurd ⟨j, hj, hxj⟩ hnin
      · rw [if_neg (show ¬ nI k < (16 : Int32) from nI_nlt (b := 16) (by omega) (by omega))] at ec
        exact Or.inl ⟨_, _, _, _, _, _, a2, tx_SB_SB hn hp, ec, fun row num => tx_mI_full ag hp hk hr⟩
      · rw [if_pos (cx_T16 h16), nI_1] at ec
        rcases tx_tail ag hp hk with ⟨q, q1, q2, q3, q4⟩ | ⟨y, A, P, ST⟩
        · obtain ⟨z, hz⟩ := q3 ik ic i (nI (nf + 1))
          exact Or.inl ⟨q, _, z, _, _, _, q1, q2, ec.trans hz, fun row num => q4 0 row rk _ num rc _ k k _ (by omega) hr⟩
        · obtain ⟨f1, f2, f3, f4, f5, f6, f7, f8⟩ := tx_ST_fact hn hp ST
          refine Or.inr ⟨x, y, A, P, k + 1, nf + 1, upd rk k (nI x), vp_updL (vp_updL rc k 0) k ((vp_updL rc k 0) k + lN y), ST, Or.inr ⟨hno, h16, rfl, rfl⟩, ec.trans (tx_cJ hn hp (by omega) ST), fun row num => (tx_mI_ok ag hp (by omega) ST hr).trans (tx_J77 (by omega) (by omega)), ⟨by omega, by omega, fun w => ?_, fun a b hab hb => ?_⟩, fun m hm => ?_⟩
          · constructor
            · rintro ⟨a, ha, hw⟩
              by_cases z : a = k
              · subst z
                rw [pk_us] at hw
                exact Or.inr ⟨i, by omega, by rw [pk_us]; exact hw⟩
              · rw [pk_un z] at hw
                rcases (T3 w).mp ⟨a, by omega, hw⟩ with h | ⟨j, hj, e⟩
                · exact Or.inl h
                · exact Or.inr ⟨j, by omega, by rw [pk_un (by omega)]; exact e⟩
            · intro h
              have old : ((∃ j, j < F ∧ ks j = w) ∨ ∃ j, j < i ∧ ik j = w) → ∃ j, j < k + 1 ∧ upd rk k (nI x) j = w := fun h => by
                obtain ⟨j, hj, e⟩ := (T3 w).mpr h
                exact ⟨j, by omega, by rw [pk_un (by omega)]; exact e⟩
              rcases h with h | ⟨a, ha, hw⟩
              · exact old (Or.inl h)
              · by_cases z : a = i
                · subst z
                  rw [pk_us] at hw
                  exact ⟨k, by omega, by rw [pk_us]; exact hw⟩
                · rw [pk_un z] at hw
                  exact old (Or.inr ⟨a, by omega, hw⟩)
          · by_cases z : b = k
            · subst z
              rw [pk_us, pk_un (by omega)]
              exact hno a hab
            · rw [pk_un z, pk_un (by omega)]
              exact T4 a b hab (by omega)
          · by_cases z : m = k
            · subst z
              rw [pk_uLs, pk_uLs, pk_us, if_neg (Nat.lt_irrefl m), if_pos rfl]
            · rw [pk_uLn z, pk_uLn z, pk_un z, if_pos (by omega), if_neg (fun w => hno m (by omega) w), Int64.add_zero]
/-- what is left of a text behind an item: some items, each behind a sign -/
def tx_CH (c : FI) (n : Nat) : Nat → Nat → Nat → FI → (Nat → Nat) → (Nat → Nat) → Prop
  | 0, P, _, _, _, _ => P = n
  | I + 1, P, k, rk, K, M => (P < n ∧ c P = 59) ∧ ∃ (A P' k' : Nat) (rk' : FI), tx_ST c n (P + 1) (K 0) (M 0) A P' ∧ tx_EV k rk (nI (K 0)) k' rk' ∧ tx_CH c n I P' k' rk' (fun i => K (i + 1)) (fun i => M (i + 1))
abbrev tx_KC : Int32 → Int32 → FI → FI → Int32 → Int32 → Int32 → Option (Int32 × FI × FI × Int32 × Int32 × Int32) := fun i13 i14 c15 c16 c17 c18 c19 => some (i13, c15, c16, c17, c18, c19)
abbrev tx_KM : Int32 → Int32 → FI → FJ → Int32 → FI → FJ → Int32 → Option (Int32 × FI × FJ × Int32 × FI × FJ × Int32) := fun i53 i54 c55 c56 c57 c58 c59 c60 => if i53 = 0 ∨ i53 = 1 then some (i53, c55, c56, c57, c58, c59, c60) else none
theorem tx_cEnd {c ks ik ic : FI} {n F : Nat} {v t i nf a : Int32} {f : Nat} (hv : ¬ v = -1) : f_Text_read_L23 200 c (nI n) (nI F) ks tx_KC (f + 1) v t ik ic i nf a = some (v, ik, ic, i, nf, a) := by
  rw [f_Text_read_L23, if_neg hv, ite_self]
theorem tx_mEnd {tx rk row : FI} {num rc : FJ} {n : Nat} {z v a k : Int32} {f : Nat} : f_Model_readsAll_L70 200 z tx (nI n) tx_KM (f + 1) 0 v row num a rk rc k = some (0, row, num, a, rk, rc, k) := by
  rw [f_Model_readsAll_L70, if_pos rfl]
  show (if (0 : Int32) = 0 ∨ (0 : Int32) = 1 then _ else _) = _
  rw [if_pos (Or.inl rfl)]
theorem tx_chn {c tx : FI} {n p : Nat} (ag : tx_AG c tx n) (hp : p < n) : ¬ tx_ch c n p = -1 := fun e => by
  unfold tx_ch at e
  rw [if_neg (by omega)] at e
  have := (ag.2 p hp).2
  rw [e] at this
  exact absurd this (by decide)
/-- sums of counts by key -/
def tx_su (K M : Nat → Nat) (I : Nat) (x : Int32) : Nat := cx_sm (fun a => if nI (K a) = x then M a else 0) I
theorem tx_sm_s {g : Nat → Nat} : ∀ n, cx_sm g (n + 1) = g 0 + cx_sm (fun i => g (i + 1)) n := by
  intro n
  induction n with
  | zero => rw [cx_sm, cx_sm, cx_sm]; omega
  | succ n ih => rw [cx_sm, ih, cx_sm]; omega
theorem tx_su_s {K M : Nat → Nat} {I : Nat} {x : Int32} : tx_su K M (I + 1) x = (if nI (K 0) = x then M 0 else 0) + tx_su (fun i => K (i + 1)) (fun i => M (i + 1)) I x := tx_sm_s I
theorem tx_head {c tx ks row : FI} {num : FJ} {n F : Nat} (ag : tx_AG c tx n) (hF : F ≤ 16) : ∀ (d P i t nf k fC fM : Nat) (ik ic rk : FI) (rc : FJ), n - P ≤ d → P ≤ n → tx_SB c n P = P → 2 * i ≤ P + 1 → t + 1 ≤ P → d + 2 ≤ fC → d + 2 ≤ fM → tx_TI F ks i ik nf k rk →
    (∃ (q : Nat) (oC : Int32 × FI × FI × Int32 × Int32 × Int32) (oM : Int32 × FI × FJ × Int32 × FI × FJ × Int32), q ≤ n ∧ f_Text_read_L23 200 c (nI n) (nI F) ks tx_KC fC (-1) (nI t) ik ic (nI i) (nI nf) (nI P) = some oC ∧ oC.1 = nI q ∧ f_Model_readsAll_L70 200 0 tx (nI n) tx_KM fM 1 (tx_ch c n P) row num (nI P) rk rc (nI k) = some oM ∧ oM.1 = 0 ∧ oM.2.1 = row ∧ oM.2.2.1 = num ∧ oM.2.2.2.1 = nI q) ∨
    (∃ (I kF nfF : Nat) (K M : Nat → Nat) (ikF icF rkF : FI) (rcF : FJ) (z : Int32), f_Text_read_L23 200 c (nI n) (nI F) ks tx_KC fC (-1) (nI t) ik ic (nI i) (nI nf) (nI P) = some (-1, ikF, icF, nI (i + I), nI nfF, z) ∧ f_Model_readsAll_L70 200 0 tx (nI n) tx_KM fM 1 (tx_ch c n P) row num (nI P) rk rc (nI k) = some (1, row, num, nI n, rkF, rcF, nI kF) ∧
      2 * (i + I) ≤ n + 1 ∧ tx_CH c n I P k rk K M ∧ (∀ m, m < i → ikF m = ik m ∧ icF m = ic m) ∧ (∀ m, m < I → ikF (i + m) = nI (K m) ∧ icF (i + m) = nI (M m) ∧ K m ≤ 999 ∧ 1 ≤ M m ∧ M m ≤ 9999) ∧ k ≤ kF ∧ (∀ m, m < k → rkF m = rk m) ∧ (∀ m, m < kF → rcF m = (if m < k then rc m else 0) + lN (tx_su K M I (rkF m))) ∧ tx_TI F ks (i + I) ikF nfF kF rkF) := by
  have hn := ag.1
  intro d
  induction d with
  | zero =>
    intro P i t nf k fC fM ik ic rk rc h1 h2 h3 h4 h5 h6 h7 T
    obtain ⟨fC, rfl⟩ : ∃ j, fC = j + 1 := ⟨fC - 1, by omega⟩
    obtain ⟨fM, rfl⟩ : ∃ j, fM = j + 1 := ⟨fM - 1, by omega⟩
    have e : P = n := by omega
    subst e
    refine Or.inr ⟨0, k, nf, fun _ => 0, fun _ => 0, ik, ic, rk, rc, nI P, ?_, ?_, by omega, rfl, fun m hm => ⟨rfl, rfl⟩, fun m hm => absurd hm (Nat.not_lt_zero m), Nat.le_refl _, fun m hm => rfl, fun m hm => ?_, T⟩
    · rw [f_Text_read_L23, if_neg (cx_G100 (by omega)), if_pos rfl, if_pos (nI_le (Nat.le_refl _) (by omega))]
      rfl
    · have ec : tx_ch c P P = -1 := if_pos rfl
      rw [f_Model_readsAll_L70, if_neg cx_i1, ec, if_pos rfl]
      show (if (1 : Int32) = 0 ∨ (1 : Int32) = 1 then _ else _) = _
      rw [if_pos (Or.inr rfl)]
    · rw [if_pos hm]
      exact (Int64.add_zero _).symm
  | succ d ih =>
    intro P i t nf k fC fM ik ic rk rc h1 h2 h3 h4 h5 h6 h7 T
    by_cases hPn : P = n
    · exact ih P i t nf k fC fM ik ic rk rc (by omega) h2 h3 h4 h5 (by omega) (by omega) T
    · obtain ⟨fC, rfl⟩ : ∃ j, fC = j + 1 + 1 := ⟨fC - 2, by omega⟩
      obtain ⟨fM, rfl⟩ : ∃ j, fM = j + 1 + 1 := ⟨fM - 2, by omega⟩
      have ch1 := tx_chn ag (show P < n by omega)
      rw [f_Text_read_L23, if_neg (cx_G100 (by omega)), if_pos rfl, if_neg (nI_ge (by omega) (by omega)), tx_skS hn h2, cx_ob, f_Model_readsAll_L70, if_neg cx_i1, if_neg ch1, tx_sign ag h2 (by decide), cx_ob, h3]
      by_cases h59 : P < n ∧ c P = 59
      · simp only [if_pos h59, cx_i10, if_false, nI_1]
        rcases tx_item (ic := ic) (rc := rc) ag (show P + 1 ≤ n by omega) (show 2 * i ≤ P + 1 by omega) hF T with ⟨q, nf', z1, rk', rc', k', q1, q2, q3, q4⟩ | ⟨x, y, A, P', k', nf', rk', rc', ST, EV, q3, q4, T', hrc⟩
        · refine Or.inl ⟨q, (nI q, ik, ic, nI i, nf', z1), (0, row, num, nI q, rk', rc', k'), q1, ?_, rfl, ?_, rfl, rfl, rfl, rfl⟩
          · rw [q3, cx_ob]
            exact tx_cEnd (of_eq_false (nI_m1 (by omega)))
          · rw [q4 row num, cx_ob]
            simp only [if_true, eq_self]
            unfold f_Model_readsAll_J100 f_Model_readsAll_J101
            rw [if_pos rfl]
            exact tx_mEnd
        · obtain ⟨f1, f2, f3, f4, f5, f6, f7, f8⟩ := tx_ST_fact hn (show P + 1 ≤ n by omega) ST
          have hh := tx_here ag f4
          rw [f7] at hh
          rw [q3, cx_ob, q4 row num, cx_ob]
          simp only [cx_i10, if_false]
          unfold f_Model_readsAll_J101
          simp only [cx_i10, if_false]
          rw [hh, cx_ob]
          rcases ih P' (i + 1) (t + 1) nf' k' (fC + 1) (fM + 1) (upd ik i (nI x)) (upd ic i (nI y)) rk' rc' (by omega) f5 f8 (by omega) (by omega) (by omega) (by omega) T' with h | ⟨I, kF, nfF, K, M, ikF, icF, rkF, rcF, z, r1, r2, r3, r4, r5, r6, r7, r8, r9, r10⟩
          · exact Or.inl h
          · have hk : k ≤ k' := by
              rcases EV with ⟨_, e, _⟩ | ⟨_, _, e, _⟩ <;> omega
            have hrk : ∀ m, m < k → rk' m = rk m := by
              rcases EV with ⟨_, _, e⟩ | ⟨_, _, _, e⟩
              · intro m _; rw [e]
              · intro m hm; rw [e, pk_un (by omega)]
            have hik : ikF i = nI x := (r5 i (by omega)).1.trans pk_us
            have hic : icF i = nI y := (r5 i (by omega)).2.trans pk_us
            refine Or.inr ⟨I + 1, kF, nfF, fun a => if a = 0 then x else K (a - 1), fun a => if a = 0 then y else M (a - 1), ikF, icF, rkF, rcF, z, ?_, r2, by omega, ⟨h59, A, P', k', rk', ST, EV, r4⟩, fun m hm => ⟨(r5 m (by omega)).1.trans (pk_un (by omega)), (r5 m (by omega)).2.trans (pk_un (by omega))⟩, fun m hm => ?_, by omega, fun m hm => (r8 m (by omega)).trans (hrk m hm), fun m hm => ?_, ?_⟩
            · rw [show i + (I + 1) = i + 1 + I by omega]; exact r1
            · by_cases zm : m = 0
              · subst zm
                exact ⟨hik, hic, f1, f2, f3⟩
              · obtain ⟨w, rfl⟩ : ∃ w, m = w + 1 := ⟨m - 1, by omega⟩
                have := r6 w (by omega)
                rw [show i + (w + 1) = i + 1 + w by omega]
                simp only [if_neg zm, Nat.add_sub_cancel]
                exact this
            · rw [r9 m hm, tx_su_s, ← lN_add, ← Int64.add_assoc]
              have es : tx_su (fun i => (fun a => if a = 0 then x else K (a - 1)) (i + 1)) (fun i => (fun a => if a = 0 then y else M (a - 1)) (i + 1)) I (rkF m) = tx_su K M I (rkF m) := by
                refine congrArg (fun z => z) ?_
                unfold tx_su
                refine cx_sm_eq fun a _ => ?_
                simp only [Nat.add_sub_cancel, if_neg (Nat.succ_ne_zero a)]
              rw [es]
              refine congrArg (· + lN (tx_su K M I (rkF m))) ?_
              by_cases zk : m < k'
              · rw [if_pos zk, hrc m zk, r8 m zk]
                refine congrArg ((if m < k then rc m else 0) + ·) ?_
                by_cases ze : rk' m = nI x
                · rw [if_pos ze]
                  simp only [if_true, eq_self]
                  rw [if_pos ze.symm]
                · rw [if_neg ze]
                  simp only [if_true, eq_self]
                  rw [if_neg (fun w => ze w.symm)]
                  rfl
              · rw [if_neg zk, if_neg (by omega)]
                simp only [if_true, eq_self]
                rw [if_neg (fun w => by
                  have hx : ∃ j, j < k' ∧ rk' j = nI x := (T'.2.2.1 (nI x)).mpr (Or.inr ⟨i, by omega, pk_us⟩)
                  obtain ⟨j, hj, e⟩ := hx
                  exact r10.2.2.2 j m (by omega) hm (((r8 j hj).trans e).trans w))]
                rfl
            · rw [show i + (I + 1) = i + 1 + I by omega]; exact r10
      · simp only [if_neg h59, if_true, eq_self]
        refine Or.inl ⟨P, (nI P, ik, ic, nI i, nI nf, nI P), (0, row, num, nI P, rk, rc, nI k), h2, tx_cEnd (of_eq_false (nI_m1 (by omega))), rfl, ?_, rfl, rfl, rfl, rfl⟩
        unfold f_Model_readsAll_J100 f_Model_readsAll_J101
        rw [if_pos rfl]
        exact tx_mEnd
/-- the model's start: the flows' keys and counts -/
theorem tx_l18 {F : Nat} {row : FI} {num : FJ} {rk0 : FI} {rc0 : FJ} (hF : F ≤ 16) : ∃ (rk : FI) (rc : FJ), (∀ j, j < F → rk j = row (7 + j) ∧ rc j = cx_vt 0 num j) ∧ ∀ K : Int32 → FI → FJ → Option (Int32 × FI × FJ × Int32 × FI × FJ × Int32), f_Model_readsAll_L18 row num (nI F) K 200 0 rk0 rc0 = K (nI F) rk rc := by
  obtain ⟨s, hP, e⟩ := cx_lpK (fun (K : Int32 → FI → FJ → Option (Int32 × FI × FJ × Int32 × FI × FJ × Int32)) n j (s : FI × FJ) => f_Model_readsAll_L18 row num (nI F) K n (nI j) s.1 s.2) (fun K s => K (nI F) s.1 s.2) (fun j s => ∀ m, m < j → s.1 m = row (7 + m) ∧ s.2 m = cx_vt 0 num m) F
    (fun K n s _ => by
      show f_Model_readsAll_L18 row num (nI F) K (n + 1) (nI F) s.1 s.2 = _
      rw [f_Model_readsAll_L18, if_pos (nI_le (Nat.le_refl _) (by omega))])
    (fun n j s hj hP => by
      have et : f_Model_truthAt 0 (nI j) num = some (cx_vt 0 num j) := cx_truthAt (b := 0) (by omega) (by omega)
      refine ⟨(upd s.1 j (row (7 + j)), vp_updL s.2 j (cx_vt 0 num j)), fun m hm => ?_, fun K => ?_⟩
      · show upd s.1 j _ m = _ ∧ vp_updL s.2 j _ m = _
        by_cases q : m = j
        · subst q; rw [pk_us, pk_uLs]; exact ⟨rfl, rfl⟩
        · rw [pk_un q, pk_uLn q]; exact hP m (by omega)
      · show f_Model_readsAll_L18 row num (nI F) K (n + 1) (nI j) s.1 s.2 = _
        rw [f_Model_readsAll_L18, if_neg (nI_ge hj (by omega)), cx_p7, if_pos (ck_nI (by omega) (by decide)), if_pos (ck_nI (by omega) (by decide)), et, cx_ob, if_pos (ck_nI (by omega) (by decide)), nI_clamp (by omega), nI_clamp (by omega), nI_1]) 200 0 (rk0, rc0) (by omega) (by omega) (fun m hm => absurd hm (Nat.not_lt_zero m))
  exact ⟨s.1, s.2, hP, e⟩
/-- the whole text, read once on both sides -/
theorem tx_read {c tx ks row ik0 ic0 rk0 : FI} {num rc0 : FJ} {n F : Nat} {i0 nf0 a0 b0 k0 : Int32} (ag : tx_AG c tx n) (hF : F ≤ 16) (r6 : row 6 = nI F) (hk : ∀ j, j < F → row (7 + j) = ks j) (hd : ∀ f g : Nat, f < g → g < F → ks f ≠ ks g) :
    (∃ (q : Nat) (oC : Int32 × FI × FI × Int32 × Int32 × Int32) (oM : Int32 × FI × FJ × Int32 × FI × FJ × Int32), q ≤ n ∧ f_Text_read 200 c (nI n) ik0 ic0 i0 nf0 a0 (nI F) ks = some oC ∧ oC.1 = nI q ∧ f_Model_readsAll 200 0 row num tx (nI n) b0 rk0 rc0 k0 = some oM ∧ oM.1 = 0 ∧ oM.2.1 = row ∧ oM.2.2.1 = num ∧ oM.2.2.2.1 = nI q) ∨
    (∃ (x y A P k' : Nat) (rk rk' : FI) (I kF nfF : Nat) (K M : Nat → Nat) (ikF icF rkF : FI) (rcF : FJ) (z : Int32), f_Text_read 200 c (nI n) ik0 ic0 i0 nf0 a0 (nI F) ks = some (-1, ikF, icF, nI (1 + I), nI nfF, z) ∧ f_Model_readsAll 200 0 row num tx (nI n) b0 rk0 rc0 k0 = some (1, row, num, nI n, rkF, rcF, nI kF) ∧
      tx_ST c n 0 x y A P ∧ (∀ j, j < F → rk j = ks j) ∧ tx_EV F rk (nI x) k' rk' ∧ tx_CH c n I P k' rk' K M ∧ (ikF 0 = nI x ∧ icF 0 = nI y) ∧ (∀ m, m < I → ikF (1 + m) = nI (K m) ∧ icF (1 + m) = nI (M m) ∧ K m ≤ 999 ∧ 1 ≤ M m ∧ M m ≤ 9999) ∧ 1 + I ≤ 50 ∧ F ≤ kF ∧ (∀ m, m < F → rkF m = ks m) ∧ (∀ m, m < kF → rcF m = (if m < F then cx_vt 0 num m else 0) + lN ((if nI x = rkF m then y else 0) + tx_su K M I (rkF m))) ∧ tx_TI F ks (1 + I) ikF nfF kF rkF) := by
  have hn := ag.1
  obtain ⟨rk, rc, hrk, e18⟩ := tx_l18 (row := row) (num := num) (rk0 := rk0) (rc0 := rc0) hF
  have T0 : tx_TI F ks 0 ik0 0 F rk := by
    refine ⟨rfl, hF, fun x => ?_, fun a b hab hb => ?_⟩
    · constructor
      · rintro ⟨j, hj, e⟩
        exact Or.inl ⟨j, hj, by rw [← hk j hj, ← (hrk j hj).1]; exact e⟩
      · rintro (⟨j, hj, e⟩ | ⟨j, hj, _⟩)
        · exact ⟨j, hj, by rw [(hrk j hj).1, hk j hj]; exact e⟩
        · exact absurd hj (Nat.not_lt_zero j)
    · rw [(hrk a (by omega)).1, (hrk b hb).1, hk a (by omega), hk b hb]
      exact hd a b hab hb
  unfold f_Text_read f_Model_readsAll
  rw [if_pos (show ck 6 1002 = true from rfl), cx_n6, r6, e18]
  rcases tx_item (p := 0) (ic := ic0) (rc := rc) ag (Nat.zero_le n) (by omega) hF T0 with ⟨q, nf', z1, rk', rc', k', q1, q2, q3, q4⟩ | ⟨x, y, A, P, k', nf', rk', rc', ST, EV, q3, q4, T', hrc⟩
  · have q3 : f_Text_readItem 200 c (nI n) ik0 ic0 0 0 0 (nI F) ks = some (nI q, ik0, ic0, nI 0, nf', z1) := q3
    have q4 : f_Model_readsItem 200 0 row num tx (nI n) 0 rk rc (nI F) = some (0, row, num, nI q, rk', rc', k') := q4 row num
    have hh := tx_here ag q1
    rw [q2] at hh
    refine Or.inl ⟨q, (nI q, ik0, ic0, nI 0, nf', z1), (0, row, num, nI q, rk', rc', k'), q1, ?_, rfl, ?_, rfl, rfl, rfl, rfl⟩
    · rw [q3, cx_ob]
      exact tx_cEnd (f := 199) (of_eq_false (nI_m1 (by omega)))
    · rw [q4, cx_ob]
      simp only [hh, cx_ob]
      exact tx_mEnd (f := 199)
  · obtain ⟨f1, f2, f3, f4, f5, f6, f7, f8⟩ := tx_ST_fact hn (Nat.zero_le n) ST
    have q3 : f_Text_readItem 200 c (nI n) ik0 ic0 0 0 0 (nI F) ks = some (-1, upd ik0 0 (nI x), upd ic0 0 (nI y), nI 1, nI nf', nI P) := q3
    have q4 : f_Model_readsItem 200 0 row num tx (nI n) 0 rk rc (nI F) = some (1, row, num, nI A, rk', rc', nI k') := q4 row num
    have hh := tx_here ag f4
    rw [f7] at hh
    rw [q3, cx_ob, q4, cx_ob]
    simp only [hh, cx_ob]
    rcases tx_head (row := row) (num := num) ag hF 100 P 1 0 nf' k' 200 200 (upd ik0 0 (nI x)) (upd ic0 0 (nI y)) rk' rc' (by omega) f5 f8 (by omega) (by omega) (by omega) (by omega) T' with h | ⟨I, kF, nfF, K, M, ikF, icF, rkF, rcF, z, r1, r2, r3, r4, r5, r6', r7, r8, r9, r10⟩
    · exact Or.inl h
    · have hk' : F ≤ k' := by
        rcases EV with ⟨_, e, _⟩ | ⟨_, _, e, _⟩ <;> omega
      have hrk' : ∀ m, m < F → rk' m = rk m := by
        rcases EV with ⟨_, _, e⟩ | ⟨_, _, _, e⟩
        · intro m _; rw [e]
        · intro m hm; rw [e, pk_un (by omega)]
      have hrks : ∀ j, j < F → rk j = ks j := fun j hj => (hrk j hj).1.trans (hk j hj)
      refine Or.inr ⟨x, y, A, P, k', rk, rk', I, kF, nfF, K, M, ikF, icF, rkF, rcF, z, r1, r2, ST, hrks, EV, r4, ⟨(r5 0 (by omega)).1.trans pk_us, (r5 0 (by omega)).2.trans pk_us⟩, r6', by omega, by omega, fun m hm => (r8 m (by omega)).trans ((hrk' m hm).trans (hrks m hm)), fun m hm => ?_, r10⟩
      rw [r9 m hm, ← lN_add, ← Int64.add_assoc]
      refine congrArg (· + lN (tx_su K M I (rkF m))) ?_
      by_cases zk : m < k'
      · rw [if_pos zk, hrc m zk, r8 m zk]
        have e0 : (if m < F then rc m else 0) = if m < F then cx_vt 0 num m else 0 := by
          by_cases zF : m < F
          · rw [if_pos zF, if_pos zF, (hrk m zF).2]
          · rw [if_neg zF, if_neg zF]
        rw [e0]
        refine congrArg ((if m < F then cx_vt 0 num m else 0) + ·) ?_
        by_cases ze : rk' m = nI x
        · rw [if_pos ze, if_pos ze.symm]
        · rw [if_neg ze, if_neg (fun w => ze w.symm)]; rfl
      · rw [if_neg zk, if_neg (by omega), if_neg (fun w => by
          have hx : ∃ j, j < k' ∧ rk' j = nI x := (T'.2.2.1 (nI x)).mpr (Or.inr ⟨0, by omega, pk_us⟩)
          obtain ⟨j, hj, e⟩ := hx
          exact r10.2.2.2 j m (by omega) hm (((r8 j hj).trans e).trans w))]
        rfl
theorem tx_ag {codes text : FI} {len mlen : Int32} (h : TXR codes len text mlen) : ∃ n, len = nI n ∧ mlen = nI n ∧ tx_AG codes text n := by
  obtain ⟨n, hn, e1, e2, h⟩ := h
  exact ⟨n, e1, e2, hn, h⟩
theorem p_textFault {codes text ik ic rk0 : FI} {len mlen it nf a0 b0 k0 : Int32} {rc0 : FJ} {M D K N Q R F : Nat} {ks : FI} {t1 : FJ} {r1 m1 : FI} {n1 : FJ} {t2 : FJ} {r2 m2 : FI} {n2 : FJ} {row : FI} {num : FJ} (h0 : RS 0 (nI M) (nI D) (nI K) (nI N) (nI Q) (nI R) (nI F) ks t1 r1 m1 n1 t2 r2 m2 n2 row num) (hn : SOKn M D K N Q R F ks t1 r1 m1 n1 t2 r2 m2 n2) (X : TXR codes len text mlen) : ∃ (out1 : Int32 × FI × FI × Int32 × Int32 × Int32) (out2 : Int32 × FI × FJ × Int32 × FI × FJ × Int32), f_CB_textFault 200 (nI F) ks codes len ik ic it nf a0 = some out1 ∧ f_Model_textFault 200 row num text mlen b0 rk0 rc0 k0 = some out2 ∧ out1.1 = out2.1 ∧ out2.2.1 = row ∧ out2.2.2.1 = num := by
  obtain ⟨n, rfl, rfl, ag⟩ := tx_ag X
  obtain ⟨⟨e0, e1, e2, e3, e4, e5, e6⟩, dk, d1, d2, d3, d4⟩ := RS0_out h0
  obtain ⟨s1, s2, s3, s4, s5, s6, s7, s8, s9, _⟩ := hn
  unfold f_CB_textFault f_Model_textFault
  rcases tx_read (ik0 := ik) (ic0 := ic) (i0 := it) (nf0 := nf) (a0 := a0) (b0 := b0) (rk0 := rk0) (rc0 := rc0) (k0 := k0) (num := num) ag s7 e6 (fun j hj => dk j (by omega)) s9 with ⟨q, oC, oM, q1, q2, q3, q4, q5, q6, q7, q8⟩ | ⟨x, y, A, P, k', rk, rk', I, kF, nfF, K, M, ikF, icF, rkF, rcF, z, r1, r2, _⟩
  · simp only [q2, q4, cx_ob, if_pos q5]
    exact ⟨_, _, rfl, rfl, q3.trans q8.symm, q6, q7⟩
  · simp only [r1, r2, cx_ob, cx_i10, if_false]
    exact ⟨_, _, rfl, rfl, rfl, rfl, rfl⟩
