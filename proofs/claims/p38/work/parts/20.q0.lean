/-! an object by its form, its keys and its true counts; the calls that only look -/
abbrev mkS (M D K N Q R F : Nat) (ks : FI) (t1 : FJ) (r1 m1 : FI) (n1 : FJ) (t2 : FJ) (r2 m2 : FI) (n2 : FJ) : StateS := ((((((nI M, nI D), nI K), ((nI N, nI Q), nI R)), nI F), ks), (((t1, r1), (m1, n1)), ((t2, r2), (m2, n2))))
def ST (M D K N Q R F : Nat) (ks : FI) (t1 t2 : FJ) (st : StateS) : Prop := ∃ (r1 m1 : FI) (n1 : FJ) (r2 m2 : FI) (n2 : FJ), st = mkS M D K N Q R F ks t1 r1 m1 n1 t2 r2 m2 n2 ∧ SOKn M D K N Q R F ks t1 r1 m1 n1 t2 r2 m2 n2
def HK (h : HistoryS) : Prop := ∃ n : Nat, n ≤ 5 ∧ h.2.2.2.2.2 = nI n
def OB (M D K N Q R F : Nat) (ks : FI) (t1 t2 : FJ) (s : CBS) : Prop := ST M D K N Q R F ks t1 t2 s.1.1.1 ∧ HK s.1.1.2
def tb (b : Nat) (t1 t2 : FJ) : FJ := if b = 0 then t1 else t2
theorem OB_same {M D K N Q R F : Nat} {ks : FI} {t1 t2 : FJ} {s s' : CBS} (h : OB M D K N Q R F ks t1 t2 s) (e : s'.1.1 = s.1.1) : OB M D K N Q R F ks t1 t2 s' := by
  unfold OB at *
  rw [e]
  exact h
theorem qb {b : Nat} (hb : b ≤ 1) : f_CB_isBraid (nI b) = some 1 := by
  unfold f_CB_isBraid
  rw [p_from, if_pos (show (0 : Int32) ≤ nI b ∧ nI b ≤ 1 from ⟨nI_pos' (by omega), nI_le (b := 1) hb (by omega)⟩), cx_ob]
  exact if_pos (Or.inr rfl)
theorem qf {f F : Nat} (hf : f < F) (hF : F ≤ 16) : f_CB_isFlow (nI f) (nI F) = some 1 := by
  obtain ⟨n, rfl⟩ : ∃ n, F = n + 1 := ⟨F - 1, by omega⟩
  unfold f_CB_isFlow
  rw [nI_pred, p_from, if_pos (show (0 : Int32) ≤ nI f ∧ nI f ≤ nI n from ⟨nI_pos' (by omega), nI_le (by omega) (by omega)⟩), cx_ob]
  exact if_pos (Or.inr rfl)
theorem qc {c M : Nat} (hc : c < M) (hM : M ≤ 24) : f_CB_isCounter (nI c) (nI M) = some 1 := by
  obtain ⟨n, rfl⟩ : ∃ n, M = n + 1 := ⟨M - 1, by omega⟩
  unfold f_CB_isCounter
  rw [nI_pred, p_from, if_pos (show (0 : Int32) ≤ nI c ∧ nI c ≤ nI n from ⟨nI_pos' (by omega), nI_le (by omega) (by omega)⟩), cx_ob]
  exact if_pos (Or.inr rfl)
theorem qc_bad {M : Nat} (h2 : 2 ≤ M) (hM : M ≤ 24) : f_CB_isCounter (nI M) (nI M) = some 0 := by
  obtain ⟨n, rfl⟩ : ∃ n, M = n + 1 := ⟨M - 1, by omega⟩
  unfold f_CB_isCounter
  rw [nI_pred, p_from, if_neg (show ¬ ((0 : Int32) ≤ nI (n + 1) ∧ nI (n + 1) ≤ nI n) from fun z => nI_ge (a := n) (b := n + 1) (by omega) (by omega) z.2), cx_ob]
  exact if_pos (Or.inl rfl)
theorem qn {u N : Nat} (hu : u < N) (hN : N ≤ 16) : f_CB_isFrom 0 (nI u) (nI N - 1) = some 1 := by
  obtain ⟨n, rfl⟩ : ∃ n, N = n + 1 := ⟨N - 1, by omega⟩
  rw [nI_pred, p_from, if_pos (show (0 : Int32) ≤ nI u ∧ nI u ≤ nI n from ⟨nI_pos' (by omega), nI_le (by omega) (by omega)⟩)]
theorem qn_bad {N : Nat} (h1 : 1 ≤ N) (hN : N ≤ 16) : f_CB_isFrom 0 (nI N) (nI N - 1) = some 0 := by
  obtain ⟨n, rfl⟩ : ∃ n, N = n + 1 := ⟨N - 1, by omega⟩
  rw [nI_pred, p_from, if_neg (show ¬ ((0 : Int32) ≤ nI (n + 1) ∧ nI (n + 1) ≤ nI n) from fun z => nI_ge (a := n) (b := n + 1) (by omega) (by omega) z.2)]
theorem q00 : nI 0 = (0 : Int32) := rfl
theorem q10 : ¬ nI 1 = (0 : Int32) := by decide
theorem qwrap {α β : Type} {X : Option (α × β)} {G : α × β → CBS} {v : α} {x : StateS × HistoryS} (h : ∃ o, X = some o ∧ o.1 = v) (hP : ∀ r, (G r).1.1 = x) : ∃ s' : CBS, (X.bind fun r => some (r.1, G r)) = some (v, s') ∧ s'.1.1 = x := by
  obtain ⟨o, rfl, rfl⟩ := h
  exact ⟨_, rfl, hP _⟩
section QQ
variable {M D K N Q R F : Nat} {ks : FI} {t1 t2 : FJ} {s : CBS}
theorem ob_c (h : OB M D K N Q R F ks t1 t2 s) : (2 ≤ M ∧ M ≤ 24) ∧ (1 ≤ D ∧ D ≤ 8) ∧ (1 ≤ K ∧ K ≤ 4) ∧ (1 ≤ N ∧ N ≤ 16) ∧ (1 ≤ Q ∧ Q ≤ 3) ∧ R ≤ 60 ∧ F ≤ 16 ∧
  (∀ f : Nat, f < F → ∃ x : Nat, x ≤ 999 ∧ ks f = nI x) ∧ (∀ f g : Nat, f < g → g < F → ks f ≠ ks g) ∧
  (∀ f : Nat, f < 16 → ∃ a b : Nat, a ≤ 1000000000 ∧ b ≤ 1000000000 ∧ t1 f = lN a ∧ t2 f = lN b) ∧ (∀ f : Nat, f < 16 → F ≤ f → t1 f = 0 ∧ t2 f = 0) := by
  obtain ⟨⟨r1, m1, n1, r2, m2, n2, e, hn⟩, -⟩ := h
  obtain ⟨a1, a2, a3, a4, a5, a6, a7, a8, a9, a10, a11, -, -⟩ := hn
  exact ⟨a1, a2, a3, a4, a5, a6, a7, a8, a9, a10, a11⟩
theorem ob_T (h : OB M D K N Q R F ks t1 t2 s) (b : Nat) : (∀ f, f < 16 → ∃ a, a ≤ 1000000000 ∧ tb b t1 t2 f = lN a) ∧ (∀ f, f < 16 → F ≤ f → tb b t1 t2 f = 0) := by
  obtain ⟨-, -, -, -, -, -, -, -, -, q1, q2⟩ := ob_c h
  unfold tb
  by_cases z : b = 0
  · rw [if_pos z]
    exact ⟨fun f hf => by obtain ⟨a, c, ha, hc, ea, ec⟩ := q1 f hf; exact ⟨a, ha, ea⟩, fun f hf h2 => (q2 f hf h2).1⟩
  · rw [if_neg z]
    exact ⟨fun f hf => by obtain ⟨a, c, ha, hc, ea, ec⟩ := q1 f hf; exact ⟨c, hc, ec⟩, fun f hf h2 => (q2 f hf h2).2⟩
theorem q_form (h : OB M D K N Q R F ks t1 t2 s) : f_W_form 200 0 s = some (nI M) ∧ f_W_form 200 1 s = some (nI D) ∧ f_W_form 200 3 s = some (nI N) ∧ f_W_form 200 5 s = some (nI R) ∧ f_W_form 200 6 s = some (nI F) ∧ f_W_form 200 7 s = some (-3) := by
  obtain ⟨⟨r1, m1, n1, r2, m2, n2, e, hn⟩, -⟩ := h
  unfold f_W_form
  rw [e]
  exact ⟨rfl, rfl, rfl, rfl, rfl, rfl⟩
theorem q_bits (h : OB M D K N Q R F ks t1 t2 s) : f_W_bits 200 s = some (nI M * (nI D + 1) + 32 * nI N) := by
  obtain ⟨⟨r1, m1, n1, r2, m2, n2, e, hn⟩, -⟩ := h
  unfold f_W_bits
  rw [e]
  rfl
theorem q_bitsForEach (h : OB M D K N Q R 0 ks t1 t2 s) : f_W_bitsForEach 200 s = some (-1) := by
  obtain ⟨⟨r1, m1, n1, r2, m2, n2, e, hn⟩, -⟩ := h
  unfold f_W_bitsForEach
  rw [e]
  rfl
theorem q_truth (h : OB M D K N Q R F ks t1 t2 s) {b f : Nat} (hb : b ≤ 1) (hf : f < F) : f_W_truth 200 (nI b) (nI f) s = some (tb b t1 t2 f) := by
  obtain ⟨⟨r1, m1, n1, r2, m2, n2, e, hn⟩, -⟩ := h
  obtain ⟨a1, a2, a3, a4, a5, a6, a7, a8, a9, a10, a11, sm1, sm2⟩ := hn
  unfold f_W_truth f_CB_truth
  rw [e]
  dsimp only [mkS]
  rw [qb hb, cx_ob, if_neg cx_i1, qf hf a7, cx_ob, if_neg cx_i1]
  rcases (show b = 0 ∨ b = 1 by omega) with rfl | rfl
  · rw [if_pos q00, if_pos (ck_nI (by omega) (by decide)), nI_clamp (by omega)]
    rfl
  · rw [if_neg q10, if_pos (ck_nI (by omega) (by decide)), nI_clamp (by omega)]
    rfl
theorem q_rest (h : OB M D K N Q R F ks t1 t2 s) {b c : Nat} (hb : b ≤ 1) (hc : c < M) : f_W_rest 200 (nI b) (nI c) s = some (nI ((cx_SS M K ks (tb b t1 t2)) c % 2 ^ D)) := by
  obtain ⟨⟨r1, m1, n1, r2, m2, n2, e, hn⟩, -⟩ := h
  obtain ⟨a1, a2, a3, a4, a5, a6, a7, a8, a9, a10, a11, sm1, sm2⟩ := hn
  unfold f_W_rest f_CB_rest
  rw [e]
  dsimp only [mkS]
  rw [qb hb, cx_ob, if_neg cx_i1, qc hc a1.2, cx_ob, if_neg cx_i1]
  rcases (show b = 0 ∨ b = 1 by omega) with rfl | rfl
  · rw [if_pos q00, if_pos (ck_nI (by omega) (by decide)), nI_clamp (by omega), (sm1.1 c (by omega)).1]
    rfl
  · rw [if_neg q10, if_pos (ck_nI (by omega) (by decide)), nI_clamp (by omega), (sm2.1 c (by omega)).1]
    rfl
theorem q_mark (h : OB M D K N Q R F ks t1 t2 s) {b c : Nat} (hb : b ≤ 1) (hc : c < M) : f_W_isMarked 200 (nI b) (nI c) s = some (if (cx_SS M K ks (tb b t1 t2)) c / 2 ^ D = 0 then 0 else 1) := by
  obtain ⟨⟨r1, m1, n1, r2, m2, n2, e, hn⟩, -⟩ := h
  obtain ⟨a1, a2, a3, a4, a5, a6, a7, a8, a9, a10, a11, sm1, sm2⟩ := hn
  unfold f_W_isMarked f_CB_isMarked
  rw [e]
  dsimp only [mkS]
  rw [qb hb, cx_ob, if_neg cx_i1, qc hc a1.2, cx_ob, if_neg cx_i1]
  rcases (show b = 0 ∨ b = 1 by omega) with rfl | rfl
  · rw [if_pos q00, if_pos (ck_nI (by omega) (by decide)), nI_clamp (by omega), (sm1.1 c (by omega)).2]
    rfl
  · rw [if_neg q10, if_pos (ck_nI (by omega) (by decide)), nI_clamp (by omega), (sm2.1 c (by omega)).2]
    rfl
theorem q_above (h : OB M D K N Q R F ks t1 t2 s) {b u : Nat} (hb : b ≤ 1) (hu : u < N) : f_W_above 200 (nI b) (nI u) s = some (lN (cx_sC D N Q (cx_SS M K ks (tb b t1 t2)) u)) := by
  obtain ⟨⟨r1, m1, n1, r2, m2, n2, e, hn⟩, -⟩ := h
  obtain ⟨a1, a2, a3, a4, a5, a6, a7, a8, a9, a10, a11, sm1, sm2⟩ := hn
  unfold f_W_above f_CB_above
  rw [e]
  dsimp only [mkS]
  rw [qb hb, cx_ob, if_neg cx_i1, qn hu a4.2, cx_ob, if_neg cx_i1]
  rcases (show b = 0 ∨ b = 1 by omega) with rfl | rfl
  · rw [if_pos q00, if_pos (ck_nI (by omega) (by decide)), nI_clamp (by omega), sm1.2 u (by omega)]
    rfl
  · rw [if_neg q10, if_pos (ck_nI (by omega) (by decide)), nI_clamp (by omega), sm2.2 u (by omega)]
    rfl
theorem q_rest_bad (h : OB M D K N Q R F ks t1 t2 s) {b : Nat} (hb : b ≤ 1) : f_W_rest 200 (nI b) (nI M) s = some (-2) := by
  obtain ⟨⟨r1, m1, n1, r2, m2, n2, e, hn⟩, -⟩ := h
  unfold f_W_rest f_CB_rest
  rw [e]
  dsimp only [mkS]
  rw [qb hb, cx_ob, if_neg cx_i1, qc_bad hn.1.1 hn.1.2, cx_ob, if_pos rfl]
theorem q_above_bad (h : OB M D K N Q R F ks t1 t2 s) {b : Nat} (hb : b ≤ 1) : f_W_above 200 (nI b) (nI N) s = some (-2) := by
  obtain ⟨⟨r1, m1, n1, r2, m2, n2, e, hn⟩, -⟩ := h
  unfold f_W_above f_CB_above
  rw [e]
  dsimp only [mkS]
  rw [qb hb, cx_ob, if_neg cx_i1, qn_bad hn.2.2.2.1.1 hn.2.2.2.1.2, cx_ob, if_pos rfl]
theorem q_places (h : OB M D K N Q R F ks t1 t2 s) {f : Nat} (hf : f < F) : f_W_places 200 (nI f) s = some (cx_bF M K ks f) := by
  obtain ⟨⟨r1, m1, n1, r2, m2, n2, e, hn⟩, -⟩ := h
  obtain ⟨a1, a2, a3, a4, a5, a6, a7, a8, a9, a10, a11, sm1, sm2⟩ := hn
  obtain ⟨x, hx, ex⟩ := a8 f hf
  unfold f_W_places f_CB_places
  rw [e]
  dsimp only [mkS]
  rw [qf hf a7, cx_ob, if_neg cx_i1, if_pos (ck_nI (by omega) (by decide)), nI_clamp (by omega), ex, cx_plK hx a1 a3.2, cx_ob]
  unfold cx_bF
  rw [ex, nI_clamp (by omega)]
theorem q_placesAbove (h : OB M D K N Q R F ks t1 t2 s) {c : Nat} (hc : c < M) : f_W_placesAbove 200 (nI c) s = some (cx_pU N Q c) := by
  obtain ⟨⟨r1, m1, n1, r2, m2, n2, e, hn⟩, -⟩ := h
  obtain ⟨a1, a2, a3, a4, a5, a6, a7, a8, a9, a10, a11, sm1, sm2⟩ := hn
  unfold f_W_placesAbove f_CB_placesAbove
  rw [e]
  dsimp only [mkS]
  rw [qc hc a1.2, cx_ob, if_neg cx_i1, cx_plC (by omega) a4 a5.2, cx_ob]
theorem q_key (h : OB M D K N Q R F ks t1 t2 s) {f : Nat} (hf : f < F) : f_W_key 200 (nI f) s = some (ks f) := by
  obtain ⟨⟨r1, m1, n1, r2, m2, n2, e, hn⟩, -⟩ := h
  obtain ⟨a1, a2, a3, a4, a5, a6, a7, a8, a9, a10, a11, sm1, sm2⟩ := hn
  unfold f_W_key f_CB_key
  rw [e]
  dsimp only [mkS]
  rw [qf hf a7, cx_ob, if_neg cx_i1, if_pos (ck_nI (by omega) (by decide)), nI_clamp (by omega)]
/-- finding a key -/
theorem q_find {x : Int32} {F : Nat} {ks : FI} (hF : F ≤ 16) : (∃ j, j < F ∧ ks j = x ∧ f_State_find 200 x (nI F) ks = some (nI j)) ∨ ((∀ j, j < F → ¬ ks j = x) ∧ f_State_find 200 x (nI F) ks = some (-1)) := by
  have key : ∀ (n j : Nat), j ≤ F → F < j + n → (∀ i, i < j → ¬ ks i = x) → (∃ i, i < F ∧ ks i = x ∧ f_State_find_L2 x (nI F) ks (fun _ => some (-1)) n (nI j) = some (nI i)) ∨ ((∀ i, i < F → ¬ ks i = x) ∧ f_State_find_L2 x (nI F) ks (fun _ => some (-1)) n (nI j) = some (-1)) := by
    intro n
    induction n with
    | zero => intro j h1 h2; omega
    | succ n ih =>
      intro j h1 h2 h3
      rw [f_State_find_L2]
      by_cases z : j = F
      · subst z
        rw [if_pos (nI_le (Nat.le_refl _) (by omega))]
        exact Or.inr ⟨h3, rfl⟩
      · rw [if_neg (nI_ge (by omega) (by omega)), if_pos (ck_nI (by omega) (by decide)), nI_clamp (by omega)]
        by_cases q : ks j = x
        · rw [if_pos q]
          exact Or.inl ⟨j, by omega, q, rfl⟩
        · rw [if_neg q, nI_1]
          exact ih (j + 1) (by omega) (by omega) (fun i hi => by
            by_cases v : i = j
            · subst v; exact q
            · exact h3 i (by omega))
  exact key 200 0 (by omega) (by omega) (fun i hi => absurd hi (Nat.not_lt_zero i))
theorem q_flowOf (h : OB M D K N Q R F ks t1 t2 s) {j x : Nat} (hx : x ≤ 999) (hj : j < F) (ej : ks j = nI x) : f_W_flowOf 200 (nI x) s = some (nI j) := by
  obtain ⟨⟨r1, m1, n1, r2, m2, n2, e, hn⟩, -⟩ := h
  obtain ⟨a1, a2, a3, a4, a5, a6, a7, a8, a9, a10, a11, sm1, sm2⟩ := hn
  unfold f_W_flowOf f_CB_flowOf
  rw [e]
  dsimp only [mkS]
  rw [p_from, if_pos (show (0 : Int32) ≤ nI x ∧ nI x ≤ 999 from ⟨nI_pos' (by omega), nI_le (b := 999) hx (by omega)⟩), cx_ob, if_neg cx_i1]
  rcases q_find (x := nI x) (ks := ks) a7 with ⟨i, hi, e1, e2⟩ | ⟨e1, e2⟩
  · rw [e2, cx_ob]
    by_cases z : i = j
    · rw [z]
    · rcases Nat.lt_or_ge i j with v | v
      · exact absurd (e1.trans ej.symm) (a9 i j v hj)
      · exact absurd (ej.trans e1.symm) (a9 j i (by omega) hi)
  · exact absurd ej (e1 j hj)
theorem q_digest (h : OB M D K N Q R F ks t1 t2 s) : ∃ v, f_W_digest 200 s = some v := by
  obtain ⟨⟨r1, m1, n1, r2, m2, n2, e, hn⟩, -⟩ := h
  obtain ⟨a1, a2, a3, a4, a5, a6, a7, a8, a9, a10, a11, sm1, sm2⟩ := hn
  unfold f_W_digest f_CB_digest
  rw [e]
  dsimp only [mkS]
  have d3 : ∀ (KK : Int64 → Int32 → Option Int64) (v : Int64), ∃ w i, f_CB_digest_L72 200 (nI M) (nI N) (nI F) t1 r1 m1 n1 t2 r2 m2 n2 KK 200 v 0 = KK w i := by
    intro KK v
    rw [f_CB_digest_L72, if_neg (by decide), if_pos rfl, cx_hb_f a1.2 a4.2 a7, cx_ob, f_CB_digest_L72, if_neg (by decide), if_neg (by decide), cx_hb_s a1.2 a4.2 a7, cx_ob, f_CB_digest_L72, if_pos (by decide)]
    exact ⟨_, _, rfl⟩
  have d2 : ∀ (KK : Int64 → Int32 → Option Int64) (n j : Nat) (v : Int64), j ≤ F → F < j + n → ∃ w i, f_CB_digest_L36 (nI F) ks KK n v (nI j) = KK w i := by
    intro KK n
    induction n with
    | zero => intro j v h1 h2; omega
    | succ n ih =>
      intro j v h1 h2
      rw [f_CB_digest_L36]
      by_cases z : j = F
      · subst z
        rw [if_pos (nI_le (Nat.le_refl _) (by omega))]
        exact ⟨_, _, rfl⟩
      · rw [if_neg (nI_ge (by omega) (by omega)), if_pos (ck_nI (by omega) (by decide)), nI_1]
        exact ih (j + 1) _ (by omega) (by omega)
  have d1 : ∀ (KK : Int64 → Int32 → Option Int64) (n j : Nat) (v : Int64), j ≤ 7 → 7 < j + n → ∃ w i, f_CB_digest_L6 (nI M) (nI D) (nI K) (nI N) (nI Q) (nI R) (nI F) KK n v (nI j) = KK w i := by
    intro KK n
    induction n with
    | zero => intro j v h1 h2; omega
    | succ n ih =>
      intro j v h1 h2
      rw [f_CB_digest_L6]
      by_cases z : j = 7
      · subst z
        rw [if_pos (show (7 : Int32) ≤ nI 7 from nI_le (a := 7) (Nat.le_refl _) (by omega))]
        exact ⟨_, _, rfl⟩
      · rw [if_neg (cx_G7 (by omega))]
        have hfn : ∃ y, f_State_formNumber (nI j) (nI M) (nI D) (nI K) (nI N) (nI Q) (nI R) (nI F) = some y := by
          unfold f_State_formNumber
          repeat' (first | exact ⟨_, rfl⟩ | split)
        obtain ⟨y, ey⟩ := hfn
        rw [ey, cx_ob, nI_1]
        exact ih (j + 1) _ (by omega) (by omega)
  obtain ⟨w1, i1, e1⟩ := d1 (fun i5 i6 => f_CB_digest_L36 (nI F) ks (fun i9 i10 => f_CB_digest_L72 200 (nI M) (nI N) (nI F) t1 r1 m1 n1 t2 r2 m2 n2 (fun i17 i18 => some i17) 200 i9 0) 200 i5 0) 200 0 17 (by omega) (by omega)
  have e1 : f_CB_digest_L6 (nI M) (nI D) (nI K) (nI N) (nI Q) (nI R) (nI F) (fun i5 i6 => f_CB_digest_L36 (nI F) ks (fun i9 i10 => f_CB_digest_L72 200 (nI M) (nI N) (nI F) t1 r1 m1 n1 t2 r2 m2 n2 (fun i17 i18 => some i17) 200 i9 0) 200 i5 0) 200 17 0 = _ := e1
  rw [e1]
  obtain ⟨w2, i2, e2⟩ := d2 (fun i9 i10 => f_CB_digest_L72 200 (nI M) (nI N) (nI F) t1 r1 m1 n1 t2 r2 m2 n2 (fun i17 i18 => some i17) 200 i9 0) 200 0 w1 (by omega) (by omega)
  have e2 : f_CB_digest_L36 (nI F) ks (fun i9 i10 => f_CB_digest_L72 200 (nI M) (nI N) (nI F) t1 r1 m1 n1 t2 r2 m2 n2 (fun i17 i18 => some i17) 200 i9 0) 200 w1 0 = _ := e2
  rw [e2]
  obtain ⟨w3, i3, e3⟩ := d3 (fun i17 i18 => some i17) w2
  rw [e3]
  exact ⟨_, rfl⟩
theorem q_digest_eq {s s' : CBS} (e : s'.1.1.1 = s.1.1.1) : f_W_digest 200 s' = f_W_digest 200 s := by
  unfold f_W_digest
  rw [e]
end QQ
