/-! the text's counts: whether they fit, and the second reading -/
theorem tx_sumFor {ik ic : FI} {KY VL : Nat → Nat} {T : Nat} {x : Int32} (hT : T ≤ 50) (h : ∀ a, a < T → ik a = nI (KY a) ∧ ic a = nI (VL a) ∧ VL a ≤ 9999) : f_Text_sumFor 200 x ik ic (nI T) = some (lN (tx_su KY VL T x)) := by
  unfold f_Text_sumFor
  refine cx_lf (fun n j (s : Int64) => f_Text_sumFor_L5 x ik ic (nI T) (fun i4 i5 => some i4) n s (nI j)) (fun s => some s) (fun j => lN (tx_su KY VL j x)) T (fun n => ?_) (fun n j hj => ?_) 200 0 (by omega) (by omega)
  · show f_Text_sumFor_L5 x ik ic (nI T) _ (n + 1) _ (nI T) = _
    rw [f_Text_sumFor_L5, if_pos (nI_le (Nat.le_refl _) (by omega))]
  · show f_Text_sumFor_L5 x ik ic (nI T) _ (n + 1) _ (nI j) = f_Text_sumFor_L5 x ik ic (nI T) _ n (lN (tx_su KY VL (j + 1) x)) (nI (j + 1))
    obtain ⟨h1, h2, h3⟩ := h j hj
    have es : tx_su KY VL (j + 1) x = tx_su KY VL j x + (if nI (KY j) = x then VL j else 0) := rfl
    rw [f_Text_sumFor_L5, if_neg (nI_ge hj (by omega)), if_pos (ck_nI (by omega) (by decide)), nI_clamp (by omega), h1, h2, es, ← lN_add]
    by_cases z : nI (KY j) = x
    · rw [if_pos z, if_pos z, if_pos (ck_nI (by omega) (by decide)), nI_l (by omega), nI_1]
    · rw [if_neg z, if_neg z, nI_1]
      rfl
theorem tx_fits {ik ic ks : FI} {t1 t2 : FJ} {KY VL : Nat → Nat} {T F : Nat} (hT : T ≤ 50) (hF : F ≤ 16) (hd : ∀ f g : Nat, f < g → g < F → ks f ≠ ks g) (h : ∀ a, a < T → ik a = nI (KY a) ∧ ic a = nI (VL a) ∧ VL a ≤ 9999) :
    ((∀ a, a < T → ∀ j, j < F → ks j = ik a → t1 j + lN (tx_su KY VL T (ks j)) ≤ 1000000000) → f_Text_fits 200 ik ic (nI T) (nI F) ks t1 t2 = some 1) ∧
    ((∃ a, a < T ∧ ∃ j, j < F ∧ ks j = ik a ∧ ¬ t1 j + lN (tx_su KY VL T (ks j)) ≤ 1000000000) → f_Text_fits 200 ik ic (nI T) (nI F) ks t1 t2 = some 0) := by
  have step : ∀ (n a : Nat), a < T → (∀ j, j < F → ks j = ik a → t1 j + lN (tx_su KY VL T (ks j)) ≤ 1000000000) → f_Text_fits_L2 200 ik ic (nI T) (nI F) ks t1 t2 (fun i8 => some 1) (n + 1) (nI a) = f_Text_fits_L2 200 ik ic (nI T) (nI F) ks t1 t2 (fun i8 => some 1) n (nI (a + 1)) := by
    intro n a ha hok
    rw [f_Text_fits_L2, if_neg (nI_ge ha (by omega)), if_pos (ck_nI (by omega) (by decide)), nI_clamp (by omega)]
    rcases tx_find (x := ik a) (ks := ks) hF with ⟨j, hj, hx, e⟩ | ⟨hno, e⟩
    · rw [e, cx_ob, if_neg (of_eq_false (nI_m1 (by omega))), if_pos rfl, if_pos (ck_nI (by omega) (by decide)), if_pos (ck_nI (by omega) (by decide)), nI_clamp (by omega), tx_sumFor hT h, cx_ob, ← hx, if_pos (hok j hj hx), nI_1]
    · rw [e, cx_ob, if_pos rfl, nI_1]
  constructor
  · intro hok
    refine cx_lf (fun n j (s : Unit) => f_Text_fits_L2 200 ik ic (nI T) (nI F) ks t1 t2 (fun i8 => some 1) n (nI j)) (fun s => some 1) (fun j => ()) T (fun n => ?_) (fun n j hj => step n j hj (hok j hj)) 200 0 (by omega) (by omega)
    show f_Text_fits_L2 200 ik ic (nI T) (nI F) ks t1 t2 _ (n + 1) (nI T) = _
    rw [f_Text_fits_L2, if_pos (nI_le (Nat.le_refl _) (by omega))]
  · intro hbad
    obtain ⟨a, ⟨ha, j, hj, hx, hn⟩, hl⟩ := pk_least (fun a => a < T ∧ ∃ j, j < F ∧ ks j = ik a ∧ ¬ t1 j + lN (tx_su KY VL T (ks j)) ≤ 1000000000) hbad
    have key : ∀ n i, i ≤ a → a < i + n → f_Text_fits_L2 200 ik ic (nI T) (nI F) ks t1 t2 (fun i8 => some 1) n (nI i) = some 0 := by
      intro n
      induction n with
      | zero => intro i h1 h2; omega
      | succ n ih =>
        intro i h1 h2
        by_cases q : i = a
        · subst q
          rw [f_Text_fits_L2, if_neg (nI_ge ha (by omega)), if_pos (ck_nI (by omega) (by decide)), nI_clamp (by omega)]
          rcases tx_find (x := ik i) (ks := ks) hF with ⟨j', hj', hx', e⟩ | ⟨hno, e⟩
          · have ej : j' = j := by
              rcases Nat.lt_trichotomy j' j with w | w | w
              · exact absurd (hx'.trans hx.symm) (hd j' j w hj)
              · exact w
              · exact absurd (hx.trans hx'.symm) (hd j j' w hj')
            subst ej
            rw [e, cx_ob, if_neg (of_eq_false (nI_m1 (by omega))), if_pos rfl, if_pos (ck_nI (by omega) (by decide)), if_pos (ck_nI (by omega) (by decide)), nI_clamp (by omega), tx_sumFor hT h, cx_ob, ← hx, if_neg hn]
          · exact absurd hx (hno j hj)
        · rw [step n i (by omega) (fun j hj e => Classical.byContradiction fun w => hl i (by omega) ⟨by omega, j, hj, e, w⟩)]
          exact ih (i + 1) (by omega) (by omega)
    exact key 200 0 (by omega) (by omega)
theorem tx_l13 {row rk : FI} {num rc : FJ} {k : Nat} {sv a0 : Int32} {K : Int32 → Option (Int32 × FI × FJ × Int32 × Int32 × FI × FJ × Int32)} (hk : k ≤ 16) : ((∀ m, m < k → rc m ≤ 1000000000) → f_Model_load_L13 row num sv a0 rk rc (nI k) K 200 0 = K (nI k)) ∧ ((∃ m, m < k ∧ ¬ rc m ≤ 1000000000) → f_Model_load_L13 row num sv a0 rk rc (nI k) K 200 0 = some (-5, row, num, sv, a0, rk, rc, nI k)) := by
  constructor
  · intro h
    refine cx_lf (fun n j (s : Unit) => f_Model_load_L13 row num sv a0 rk rc (nI k) K n (nI j)) (fun s => K (nI k)) (fun j => ()) k (fun n => ?_) (fun n j hj => ?_) 200 0 (by omega) (by omega)
    · show f_Model_load_L13 row num sv a0 rk rc (nI k) K (n + 1) (nI k) = _
      rw [f_Model_load_L13, if_pos (nI_le (Nat.le_refl _) (by omega))]
    · show f_Model_load_L13 row num sv a0 rk rc (nI k) K (n + 1) (nI j) = _
      rw [f_Model_load_L13, if_neg (nI_ge hj (by omega)), if_pos (ck_nI (by omega) (by decide)), nI_clamp (by omega), if_pos (h j hj), nI_1]
  · intro h
    obtain ⟨j, ⟨hj, hb⟩, hl⟩ := pk_least (fun m => m < k ∧ ¬ rc m ≤ 1000000000) h
    have key : ∀ n i, i ≤ j → j < i + n → f_Model_load_L13 row num sv a0 rk rc (nI k) K n (nI i) = some (-5, row, num, sv, a0, rk, rc, nI k) := by
      intro n
      induction n with
      | zero => intro i h1 h2; omega
      | succ n ih =>
        intro i h1 h2
        rw [f_Model_load_L13, if_neg (nI_ge (by omega) (by omega)), if_pos (ck_nI (by omega) (by decide)), nI_clamp (by omega)]
        by_cases z : i = j
        · subst z; rw [if_neg hb]
        · rw [if_pos (Classical.byContradiction fun w => hl i (by omega) ⟨by omega, w⟩), nI_1]
          exact ih (i + 1) (by omega) (by omega)
    exact key 200 0 (by omega) (by omega)
theorem tx_su_b {KY VL : Nat → Nat} {I : Nat} {x : Int32} (h : ∀ m, m < I → VL m ≤ 9999) : tx_su KY VL I x ≤ I * 9999 := cx_sm_b fun m hm => by
  have := h m hm
  by_cases z : nI (KY m) = x
  · rw [if_pos z]; exact this
  · rw [if_neg z]; omega
theorem tx_lNi {a b : Nat} (ha : a < 2 ^ 63) (hb : b < 2 ^ 63) (h : lN a = lN b) : a = b := (pk_lEQ ha hb).mp h
/-- one item of the second reading: a flow, added if there is none, counts on both sides -/
theorem tx_one {c tx : FI} {n p x y A P : Nat} (ag : tx_AG c tx n) (hp : p ≤ n) (ST : tx_ST c n p x y A P) {M D K N Q R F : Nat} {ks : FI} {t1 : FJ} {r1 m1 : FI} {n1 : FJ} {t2 : FJ} {r2 m2 : FI} {n2 : FJ} {row : FI} {num : FJ} (h0 : RS 0 (nI M) (nI D) (nI K) (nI N) (nI Q) (nI R) (nI F) ks t1 r1 m1 n1 t2 r2 m2 n2 row num) (hn : SOKn M D K N Q R F ks t1 r1 m1 n1 t2 r2 m2 n2) {rk0 rk0' rk2 : FI} {rc2 : FJ} {F' : Nat} (q0 : ∀ j, j < F → rk0 j = ks j) (q2 : ∀ j, j < F → rk2 j = ks j) (EV : tx_EV F rk0 (nI x) F' rk0') (hb : ∀ j a, j < F → ks j = nI x → t1 j = lN a → a ≤ 1000000000 → a + y ≤ 1000000000) :
    ∃ (f : Nat) (ks' r' m' : FI) (n' : FJ) (row' : FI) (num' : FJ) (rk2' : FI) (rc2' : FJ), f < F' ∧ ks' f = nI x ∧ f_State_findOrAppend 200 (nI x) (nI F) ks = some (nI f, nI F', ks') ∧ f_State_countFlow_f 200 (nI f) (lN y) (nI M) (nI D) (nI K) (nI N) (nI Q) (nI F') ks' t1 r1 m1 n1 = some (vp_updL t1 f (t1 f + lN y), r', m', n') ∧ f_Model_readsItem 200 1 row num tx (nI n) (nI p) rk2 rc2 (nI F) = some (1, row', num', nI A, rk2', rc2', nI F') ∧
      RS 0 (nI M) (nI D) (nI K) (nI N) (nI Q) (nI R) (nI F') ks' (vp_updL t1 f (t1 f + lN y)) r' m' n' t2 r2 m2 n2 row' num' ∧ SOKn M D K N Q R F' ks' (vp_updL t1 f (t1 f + lN y)) r' m' n' t2 r2 m2 n2 ∧ (∀ z, 167 ≤ z → row' z = row z) ∧ (∀ z, 96 ≤ z → num' z = num z) ∧ (∀ j, j < F' → rk0' j = ks' j) ∧ (∀ j, j < F' → rk2' j = ks' j) ∧ (∀ j, j < F → ks' j = ks j) ∧ (f < F ∨ f = F) ∧ (F' = F ∨ (F' = F + 1 ∧ f = F)) := by
  have hln := ag.1
  obtain ⟨b1, b2, b3, b4, b5, b6, b7, b8⟩ := tx_ST_fact hln hp ST
  obtain ⟨⟨e0, e1, e2, e3, e4, e5, e6⟩, dk, d1, d2, d3, d4⟩ := RS0_out h0
  have s7 := hn.2.2.2.2.2.2.1
  have s9 := hn.2.2.2.2.2.2.2.2.1
  have s10 := hn.2.2.2.2.2.2.2.2.2.1
  rcases EV with ⟨⟨j, hj, hxj⟩, rfl, rfl⟩ | ⟨hno, h16, rfl, rfl⟩
  · have hkj : ks j = nI x := (q0 j hj).symm.trans hxj
    obtain ⟨a, _, ha, _, ea, _⟩ := s10 j (by omega)
    obtain ⟨r', m', n', row', num', c1, c2, c3, c4, c5, c6, _⟩ := p_cnt_f h0 hn hj ea (hb j a hj hkj ea ha)
    have c2 : f_Model_counts 200 0 (nI j) (lN y) row num = some (row', num') := c2
    have uniq : ∀ i, i < F' → ks i = nI x → i = j := fun i hi hx => by
      rcases Nat.lt_trichotomy i j with w | w | w
      · exact absurd (hx.trans hkj.symm) (s9 i j w hj)
      · exact w
      · exact absurd (hkj.trans hx.symm) (s9 j i w hi)
    refine ⟨j, ks, r', m', n', row', num', rk2, vp_updL rc2 j (rc2 j + lN y), hj, hkj, ?_, c1, ?_, c3, c4, c5, c6, q0, q2, fun _ _ => rfl, Or.inl hj, Or.inl rfl⟩
    · unfold f_State_findOrAppend
      rcases tx_find (x := nI x) (ks := ks) s7 with ⟨i, hi, hx, e⟩ | ⟨hno, e⟩
      · rw [e, cx_ob, if_neg (of_eq_false (nI_m1 (by omega))), uniq i hi hx]
      · exact absurd hkj (hno j hj)
    · rcases tx_readAt (x := nI x) (rk := rk2) (rc := rc2) s7 with ⟨i, hi, hx, hr⟩ | ⟨hno, _, _⟩ | ⟨hno, _, _⟩
      · have ei := uniq i hi ((q2 i hi).symm.trans hx)
        subst ei
        rw [tx_mI_ok ag hp (by omega) ST hr, f_Model_readsItem_J77, if_neg (of_eq_false (nI_m1 (by omega))), if_pos (ck_nI (by omega) (by decide)), if_pos (ck_nI (by omega) (by decide)), if_neg cx_i1, if_pos (show ck 6 1002 = true from rfl), cx_n6, e6, if_neg (nI_ge (by omega) (by omega)), nI_l (by omega), c2, cx_ob, nI_clamp (by omega)]
      · exact absurd ((q2 j hj).trans hkj) (hno j hj)
      · exact absurd ((q2 j hj).trans hkj) (hno j hj)
  · have hnk : ∀ j, j < F → ¬ ks j = nI x := fun j hj e => hno j hj ((q0 j hj).trans e)
    obtain ⟨row1, num1, c1, c2, c3, c4, c5, c6⟩ := p_adds h0 hn b1 h16 hnk
    have z1 : t1 F = 0 := (hn.2.2.2.2.2.2.2.2.2.2.1 F h16 (Nat.le_refl _)).1
    obtain ⟨r', m', n', row', num', g1, g2, g3, g4, g5, g6, _⟩ := p_cnt_f c3 c4 (f := F) (v := y) (a := 0) (by omega) z1 (by omega)
    have g2 : f_Model_counts 200 0 (nI F) (lN y) row1 num1 = some (row', num') := g2
    refine ⟨F, upd ks F (nI x), r', m', n', row', num', upd rk2 F (nI x), vp_updL (vp_updL rc2 F 0) F ((vp_updL rc2 F 0) F + lN y), by omega, pk_us, c1, g1, ?_, g3, g4, fun z hz => (g5 z hz).trans (c5 z hz), fun z hz => (g6 z hz).trans (c6 z hz), fun j hj => ?_, fun j hj => ?_, fun j hj => pk_un (by omega), Or.inr rfl, Or.inr ⟨rfl, rfl⟩⟩
    · rcases tx_readAt (x := nI x) (rk := rk2) (rc := rc2) s7 with ⟨i, hi, hx, hr⟩ | ⟨_, h, _⟩ | ⟨_, _, hr⟩
      · exact absurd ((q2 i hi).symm.trans hx) (hnk i hi)
      · omega
      · rw [tx_mI_ok ag hp (by omega) ST hr, f_Model_readsItem_J77, if_neg (of_eq_false (nI_m1 (by omega))), if_pos (ck_nI (by omega) (by decide)), if_pos (ck_nI (by omega) (by decide)), if_neg cx_i1, if_pos (show ck 6 1002 = true from rfl), cx_n6, e6, if_pos (nI_le (Nat.le_refl _) (by omega)), c2, cx_ob, nI_l (by omega)]
        simp only [g2, cx_ob]
        rw [nI_clamp (by omega)]
    · by_cases z : j = F
      · subst z; rw [pk_us, pk_us]
      · rw [pk_un z, pk_un z]; exact q0 j (by omega)
    · by_cases z : j = F
      · subst z; rw [pk_us, pk_us]
      · rw [pk_un z, pk_un z]; exact q2 j (by omega)
/-- the bounds that stay for the items that are left -/
theorem tx_hb {KY VL : Nat → Nat} {I F F' f : Nat} {ks ks' : FI} {t1 : FJ} (hI : I + 1 ≤ 50) (hV : ∀ m, m < I + 1 → VL m ≤ 9999) (hT : ∀ i, i < F → ∃ a, a ≤ 1000000000 ∧ t1 i = lN a) (hz : f = F → t1 F = 0) (hf : f < F ∨ f = F) (hF' : F' = F ∨ (F' = F + 1 ∧ f = F)) (hks : ∀ j, j < F → ks' j = ks j) (hkf : ks' f = nI (KY 0))
    (HB : ∀ j a, j < F → t1 j = lN a → a ≤ 1000000000 → a + tx_su KY VL (I + 1) (ks j) ≤ 1000000000) : ∀ j a, j < F' → vp_updL t1 f (t1 f + lN (VL 0)) j = lN a → a ≤ 1000000000 → a + tx_su (fun i => KY (i + 1)) (fun i => VL (i + 1)) I (ks' j) ≤ 1000000000 := by
  intro j a hj e ha
  have v0 := hV 0 (by omega)
  by_cases q : j = f
  · subst q
    rw [pk_uLs] at e
    rcases hf with hf | hf
    · obtain ⟨b, hb, eb⟩ := hT j hf
      have h1 := HB j b hf eb hb
      rw [tx_su_s, if_pos (show nI (KY 0) = ks j by rw [← hks j hf]; exact hkf.symm)] at h1
      rw [eb, lN_add] at e
      have := tx_lNi (by omega) (by omega) e
      rw [hks j hf]
      omega
    · subst hf
      rw [hz rfl] at e
      have e : lN (0 + VL 0) = lN a := by rw [← lN_add]; exact e
      have e2 := tx_lNi (by omega) (by omega) e
      have h2 : tx_su (fun i => KY (i + 1)) (fun i => VL (i + 1)) I (ks' j) ≤ I * 9999 := tx_su_b (fun m hm => hV (m + 1) (by omega))
      have h3 : I * 9999 ≤ 50 * 9999 := Nat.mul_le_mul_right _ (by omega)
      omega
  · have hjF : j < F := by
      rcases hF' with h | ⟨h, h2⟩ <;> omega
    rw [pk_uLn q] at e
    have h1 := HB j a hjF e ha
    rw [tx_su_s] at h1
    rw [hks j hjF]
    omega
theorem tx_p2 {c tx ik ic : FI} {n T : Nat} (ag : tx_AG c tx n) (hTT : T ≤ 50) {M D K N Q R : Nat} {t2 : FJ} {r2 m2 : FI} {n2 : FJ} : ∀ (I i P F fC fM : Nat) (KY VL : Nat → Nat) (ks rk0 rk2 : FI) (rc2 : FJ) (t1 : FJ) (r1 m1 : FI) (n1 : FJ) (row : FI) (num : FJ), tx_CH c n I P F rk0 KY VL → (∀ j, j < F → rk0 j = ks j) → (∀ j, j < F → rk2 j = ks j) → RS 0 (nI M) (nI D) (nI K) (nI N) (nI Q) (nI R) (nI F) ks t1 r1 m1 n1 t2 r2 m2 n2 row num → SOKn M D K N Q R F ks t1 r1 m1 n1 t2 r2 m2 n2 →
      (∀ j a, j < F → t1 j = lN a → a ≤ 1000000000 → a + tx_su KY VL I (ks j) ≤ 1000000000) → P ≤ n → tx_SB c n P = P → i + I = T → (∀ m, m < I → ik (i + m) = nI (KY m) ∧ ic (i + m) = nI (VL m) ∧ VL m ≤ 9999) → I + 1 ≤ fC → I + 1 ≤ fM →
      ∃ (F' : Nat) (ks' : FI) (t1' : FJ) (r1' m1' : FI) (n1' : FJ) (row' : FI) (num' : FJ) (rk' : FI) (rc' : FJ) (k' : Int32), (∀ KL : Int32 → StateS → Option (Int32 × StateS × HistoryS × FI × FI × Int32 × Int32 × Int32), f_CB_load_L48 200 ik ic (nI T) KL fC (nI i) ((((((nI M, nI D), nI K), ((nI N, nI Q), nI R)), nI F), ks), (((t1, r1), (m1, n1)), ((t2, r2), (m2, n2)))) = KL (nI T) ((((((nI M, nI D), nI K), ((nI N, nI Q), nI R)), nI F'), ks'), (((t1', r1'), (m1', n1')), ((t2, r2), (m2, n2))))) ∧
        f_Model_readsAll_L70 200 1 tx (nI n) tx_KM fM 1 (tx_ch c n P) row num (nI P) rk2 rc2 (nI F) = some (1, row', num', nI n, rk', rc', k') ∧ RS 0 (nI M) (nI D) (nI K) (nI N) (nI Q) (nI R) (nI F') ks' t1' r1' m1' n1' t2 r2 m2 n2 row' num' ∧ SOKn M D K N Q R F' ks' t1' r1' m1' n1' t2 r2 m2 n2 ∧ (∀ z, 167 ≤ z → row' z = row z) ∧ (∀ z, 96 ≤ z → num' z = num z) := by
  have hln := ag.1
  intro I
  induction I with
  | zero =>
    intro i P F fC fM KY VL ks rk0 rk2 rc2 t1 r1 m1 n1 row num CH q0 q2 h0 hn HB hP hSB hi hIK hC hM
    obtain ⟨fC, rfl⟩ : ∃ j, fC = j + 1 := ⟨fC - 1, by omega⟩
    obtain ⟨fM, rfl⟩ : ∃ j, fM = j + 1 := ⟨fM - 1, by omega⟩
    have eP : P = n := CH
    subst eP
    refine ⟨F, ks, t1, r1, m1, n1, row, num, rk2, rc2, nI F, fun KL => ?_, ?_, h0, hn, fun _ _ => rfl, fun _ _ => rfl⟩
    · rw [f_CB_load_L48, if_pos (nI_le (by omega) (by omega)), show i = T by omega]
    · have ec : tx_ch c P P = -1 := if_pos rfl
      rw [f_Model_readsAll_L70, if_neg cx_i1, ec, if_pos rfl]
      show (if (1 : Int32) = 0 ∨ (1 : Int32) = 1 then _ else _) = _
      rw [if_pos (Or.inr rfl)]
  | succ I ih =>
    intro i P F fC fM KY VL ks rk0 rk2 rc2 t1 r1 m1 n1 row num CH q0 q2 h0 hn HB hP hSB hi hIK hC hM
    obtain ⟨fC, rfl⟩ : ∃ j, fC = j + 1 := ⟨fC - 1, by omega⟩
    obtain ⟨fM, rfl⟩ : ∃ j, fM = j + 1 := ⟨fM - 1, by omega⟩
    obtain ⟨h59, A, P', k', rk0', ST, EV, CH'⟩ := CH
    obtain ⟨b1, b2, b3, b4, b5, b6, b7, b8⟩ := tx_ST_fact hln (show P + 1 ≤ n by omega) ST
    obtain ⟨f, ks', r', m', n', row', num', rk2', rc2', u1, u2, u3, u4, u5, u6, u7, u8, u9, u10, u11, u12, u13, u14⟩ := tx_one (rc2 := rc2) ag (show P + 1 ≤ n by omega) ST h0 hn q0 q2 EV (fun j a hj hk e ha => by
      have := HB j a hj e ha
      rw [tx_su_s, if_pos hk.symm] at this
      omega)
    have HB' := tx_hb (ks' := ks') (F' := k') (by omega) (fun m hm => (hIK m hm).2.2) (fun i hi => by
      obtain ⟨a, _, ha, _, ea, _⟩ := hn.2.2.2.2.2.2.2.2.2.1 i (by have := hn.2.2.2.2.2.2.1; omega)
      exact ⟨a, ha, ea⟩) (fun ef => (hn.2.2.2.2.2.2.2.2.2.2.1 F (by
        have h7 := u7.2.2.2.2.2.2.1
        omega) (Nat.le_refl _)).1) u13 u14 u12 u2 HB
    obtain ⟨F2, ks2, t12, r12, m12, n12, row2, num2, rk3, rc3, k3, v1, v2, v3, v4, v5, v6⟩ := ih (i + 1) P' k' fC fM (fun i => KY (i + 1)) (fun i => VL (i + 1)) ks' rk0' rk2' rc2' (vp_updL t1 f (t1 f + lN (VL 0))) r' m' n' row' num' CH' u10 u11 u6 u7 HB' b5 b8 (by omega) (fun m hm => by
      have := hIK (m + 1) (by omega)
      rw [show i + 1 + m = i + (m + 1) by omega]
      exact this) (by omega) (by omega)
    refine ⟨F2, ks2, t12, r12, m12, n12, row2, num2, rk3, rc3, k3, fun KL => ?_, ?_, v3, v4, fun z hz => (v5 z hz).trans (u8 z hz), fun z hz => (v6 z hz).trans (u9 z hz)⟩
    · have i0 := hIK 0 (by omega)
      rw [Nat.add_zero] at i0
      rw [f_CB_load_L48, if_neg (nI_ge (by omega) (by omega)), if_pos rfl, if_pos (ck_nI (by omega) (by decide)), nI_clamp (by omega), i0.1]
      simp only [u3, cx_ob]
      rw [if_pos (ck_nI (by omega) (by decide)), i0.2.1, nI_l (by omega), u4, cx_ob, nI_1]
      exact v1 KL
    · have hh := tx_here ag b4
      rw [b7] at hh
      rw [f_Model_readsAll_L70, if_neg cx_i1, if_neg (tx_chn ag h59.1), tx_sign ag hP (by decide), cx_ob, hSB]
      simp only [if_pos h59, cx_i10, if_false]
      rw [u5, cx_ob]
      simp only [cx_i10, if_false]
      unfold f_Model_readsAll_J101
      simp only [cx_i10, if_false]
      rw [hh, cx_ob]
      exact v2
theorem p_load {codes text ik ic rk0 : FI} {len mlen it nf a0 b0 k0 : Int32} {rc0 : FJ} {M D K N Q R F : Nat} {ks : FI} {t1 : FJ} {r1 m1 : FI} {n1 : FJ} {t2 : FJ} {r2 m2 : FI} {n2 : FJ} {h : HistoryS} {saved : Int32} {row : FI} {num : FJ} (h0 : RS 0 (nI M) (nI D) (nI K) (nI N) (nI Q) (nI R) (nI F) ks t1 r1 m1 n1 t2 r2 m2 n2 row num) (hn : SOKn M D K N Q R F ks t1 r1 m1 n1 t2 r2 m2 n2) (H : HR h saved row num) (X : TXR codes len text mlen) : ∃ (out1 : Int32 × StateS × HistoryS × FI × FI × Int32 × Int32 × Int32) (out2 : Int32 × FI × FJ × Int32 × Int32 × FI × FJ × Int32), f_CB_load 200 ((((((nI M, nI D), nI K), ((nI N, nI Q), nI R)), nI F), ks), (((t1, r1), (m1, n1)), ((t2, r2), (m2, n2)))) h codes len ik ic it nf a0 = some out1 ∧ f_Model_load 200 row num saved text mlen b0 rk0 rc0 k0 = some out2 ∧ out1.1 = out2.1 ∧ (RSs 0 out1.2.1 out2.2.1 out2.2.2.1 ∧ SOKs out1.2.1) ∧ HR out1.2.2.1 out2.2.2.2.1 out2.2.1 out2.2.2.1 := by
  obtain ⟨n, rfl, rfl, ag⟩ := tx_ag X
  have hln := ag.1
  have hn0 := hn
  obtain ⟨⟨e0, e1, e2, e3, e4, e5, e6⟩, dk, d1, d2, d3, d4⟩ := RS0_out h0
  obtain ⟨s1, s2, s3, s4, s5, s6, s7, s8, s9, s10, s11, s12, s13⟩ := hn
  unfold f_CB_load f_Model_load
  rcases tx_read (ik0 := ik) (ic0 := ic) (i0 := it) (nf0 := nf) (a0 := a0) (b0 := b0) (rk0 := rk0) (rc0 := rc0) (k0 := k0) (num := num) ag s7 e6 (fun j hj => dk j (by omega)) s9 with ⟨q, oC, oM, q1, q2, q3, q4, q5, q6, q7, q8⟩ | ⟨x, y, A, P, k', rk, rk', I, kF, nfF, KY, VL, ikF, icF, rkF, rcF, z, r1x, r2x, ST, hrk, EV, CH, h00, hIK, h50, hFk, hrkF, hrc, TI⟩
  · have hne : ¬ oC.1 = -1 := by rw [q3]; exact of_eq_false (nI_m1 (by omega))
    simp only [q2, q4, cx_ob, if_pos q5, if_neg hne]
    refine ⟨_, _, rfl, rfl, rfl, ⟨?_, sok_in hn0⟩, ?_⟩
    · show RS 0 (nI M) (nI D) (nI K) (nI N) (nI Q) (nI R) (nI F) ks t1 r1 m1 n1 t2 r2 m2 n2 oM.2.1 oM.2.2.1
      rw [q6, q7]; exact h0
    · show HR h saved oM.2.1 oM.2.2.1
      rw [q6, q7]; exact H
  · simp only [r1x, r2x, cx_ob, cx_i10, if_false, if_true, eq_self]
    obtain ⟨b1, b2, b3, b4, b5, b6, b7, b8⟩ := tx_ST_fact hln (Nat.zero_le n) ST
    have hkF : kF ≤ 16 := TI.2.1
    have hit : ∀ a, a < 1 + I → ikF a = nI ((fun a => if a = 0 then x else KY (a - 1)) a) ∧ icF a = nI ((fun a => if a = 0 then y else VL (a - 1)) a) ∧ (fun a => if a = 0 then y else VL (a - 1)) a ≤ 9999 := by
      intro a ha
      by_cases z0 : a = 0
      · subst z0
        exact ⟨h00.1, h00.2, b3⟩
      · obtain ⟨w, rfl⟩ : ∃ w, a = w + 1 := ⟨a - 1, by omega⟩
        have := hIK w (by omega)
        simp only [if_neg z0, Nat.add_sub_cancel]
        rw [Nat.add_comm w 1]
        exact ⟨this.1, this.2.1, this.2.2.2.2⟩
    have hsu : ∀ v, tx_su (fun a => if a = 0 then x else KY (a - 1)) (fun a => if a = 0 then y else VL (a - 1)) (1 + I) v = (if nI x = v then y else 0) + tx_su KY VL I v := by
      intro v
      rw [Nat.add_comm 1 I, tx_su_s]
      have es : tx_su (fun i => (fun a => if a = 0 then x else KY (a - 1)) (i + 1)) (fun i => (fun a => if a = 0 then y else VL (a - 1)) (i + 1)) I v = tx_su KY VL I v := by
        unfold tx_su
        refine cx_sm_eq fun a _ => ?_
        simp only [Nat.add_sub_cancel, if_neg (Nat.succ_ne_zero a)]
      rw [es]
      rfl
    have hsub : ∀ v, tx_su (fun a => if a = 0 then x else KY (a - 1)) (fun a => if a = 0 then y else VL (a - 1)) (1 + I) v ≤ 50 * 9999 := fun v => Nat.le_trans (tx_su_b fun m hm => (hit m hm).2.2) (Nat.mul_le_mul_right _ h50)
    have ft := tx_fits (t1 := t1) (t2 := t2) h50 s7 s9 hit
    by_cases hok : ∀ m, m < kF → rcF m ≤ 1000000000
    · have hokC : ∀ a, a < 1 + I → ∀ j, j < F → ks j = ikF a → t1 j + lN (tx_su (fun a => if a = 0 then x else KY (a - 1)) (fun a => if a = 0 then y else VL (a - 1)) (1 + I) (ks j)) ≤ 1000000000 := by
        intro a ha j hj e
        have h1 := hok j (by omega)
        rw [hrc j (by omega), if_pos hj, hrkF j hj, (d3 j (by omega)).1, ← hsu] at h1
        exact h1
      have e13 : ∀ K, f_Model_load_L13 row num saved (nI n) rkF rcF (nI kF) K 200 0 = K (nI kF) := fun K => (tx_l13 (row := row) (num := num) (sv := saved) (a0 := nI n) (rk := rkF) (K := K) hkF).1 hok
      obtain ⟨h', row1, num1, sv, g1, g2, g3, g4, g5, g6⟩ := p_push (s := ((((((nI M, nI D), nI K), ((nI N, nI Q), nI R)), nI F), ks), (((t1, r1), (m1, n1)), ((t2, r2), (m2, n2))))) h0 (sok_in hn0) H
      have g6 : RS 0 (nI M) (nI D) (nI K) (nI N) (nI Q) (nI R) (nI F) ks t1 r1 m1 n1 t2 r2 m2 n2 row1 num1 := g6
      obtain ⟨⟨w0, w1, w2, w3, w4, w5, w6⟩, wk, _, _, _, _⟩ := RS0_out g6
      have HB : ∀ j a, j < F → t1 j = lN a → a ≤ 1000000000 → a + tx_su (fun a => if a = 0 then x else KY (a - 1)) (fun a => if a = 0 then y else VL (a - 1)) (I + 1) (ks j) ≤ 1000000000 := by
        intro j a hj e ha
        rw [Nat.add_comm I 1]
        have hb := hsub (ks j)
        by_cases hin : ∃ b, b < 1 + I ∧ ks j = ikF b
        · obtain ⟨b, hb1, hb2⟩ := hin
          have := hokC b hb1 j hj hb2
          rw [e, lN_add] at this
          exact (pk_lLE (b := 1000000000) (by omega) (by omega)).mp this
        · have z0 : tx_su (fun a => if a = 0 then x else KY (a - 1)) (fun a => if a = 0 then y else VL (a - 1)) (1 + I) (ks j) = 0 := cx_sm_z fun b hb1 => if_neg fun w => hin ⟨b, hb1, by rw [(hit b hb1).1]; exact w.symm⟩
          omega
      obtain ⟨rkA, rcA, hrkA, e18⟩ := tx_l18 (row := row1) (num := num1) (rk0 := rkF) (rc0 := rcF) s7
      have q2A : ∀ j, j < F → rkA j = ks j := fun j hj => (hrkA j hj).1.trans (wk j (by omega))
      obtain ⟨f, ks', r', m', n', row2, num2, rk2', rc2', u1, u2, u3, u4, u5, u6, u7, u8, u9, u10, u11, u12, u13, u14⟩ := tx_one (rc2 := rcA) ag (Nat.zero_le n) ST g6 hn0 hrk q2A EV (fun j a hj hk e ha => by
        have := HB j a hj e ha
        rw [Nat.add_comm I 1, hsu, if_pos hk.symm] at this
        omega)
      have HB' := tx_hb (ks' := ks') (F' := k') (KY := fun a => if a = 0 then x else KY (a - 1)) (VL := fun a => if a = 0 then y else VL (a - 1)) (I := I) (by omega) (fun m hm => (hit m (by omega)).2.2) (fun i hi => by
        obtain ⟨a, _, ha, _, ea, _⟩ := s10 i (by omega)
        exact ⟨a, ha, ea⟩) (fun ef => (s11 F (by
          have h7 := u7.2.2.2.2.2.2.1
          omega) (Nat.le_refl _)).1) u13 u14 u12 u2 HB
      have es : ∀ v, tx_su (fun i => (fun a => if a = 0 then x else KY (a - 1)) (i + 1)) (fun i => (fun a => if a = 0 then y else VL (a - 1)) (i + 1)) I v = tx_su KY VL I v := by
        intro v
        unfold tx_su
        refine cx_sm_eq fun a _ => ?_
        simp only [Nat.add_sub_cancel, if_neg (Nat.succ_ne_zero a)]
      obtain ⟨F2, ks2, t12, r12, m12, n12, row3, num3, rk3, rc3, k3, v1, v2, v3, v4, v5, v6⟩ := tx_p2 (ik := ikF) (ic := icF) (T := 1 + I) ag h50 I 1 P k' 199 200 KY VL ks' rk' rk2' rc2' (vp_updL t1 f (t1 f + lN y)) r' m' n' row2 num2 CH u10 u11 u6 u7 (fun j a hj e ha => by
        have := HB' j a hj e ha
        rw [es] at this
        exact this) b5 b8 rfl (fun m hm => ⟨(hIK m hm).1, (hIK m hm).2.1, (hIK m hm).2.2.2.2⟩) (by omega) (by omega)
      have hh := tx_here ag b4
      rw [b7] at hh
      have eA : f_Model_readsAll 200 1 row1 num1 text (nI n) (nI n) rkF rcF (nI kF) = some (1, row3, num3, nI n, rk3, rc3, k3) := by
        unfold f_Model_readsAll
        rw [if_pos (show ck 6 1002 = true from rfl), cx_n6, w6, e18]
        have u5 : f_Model_readsItem 200 1 row1 num1 text (nI n) 0 rkA rcA (nI F) = some (1, row2, num2, nI A, rk2', rc2', nI k') := u5
        rw [u5, cx_ob]
        simp only [hh, cx_ob]
        exact v2
      have eC : ∀ KL, f_CB_load_L48 200 ikF icF (nI (1 + I)) KL 200 0 ((((((nI M, nI D), nI K), ((nI N, nI Q), nI R)), nI F), ks), (((t1, r1), (m1, n1)), ((t2, r2), (m2, n2)))) = KL (nI (1 + I)) ((((((nI M, nI D), nI K), ((nI N, nI Q), nI R)), nI F2), ks2), (((t12, r12), (m12, n12)), ((t2, r2), (m2, n2)))) := by
        intro KL
        show f_CB_load_L48 200 ikF icF (nI (1 + I)) KL (199 + 1) (nI 0) ((((((nI M, nI D), nI K), ((nI N, nI Q), nI R)), nI F), ks), (((t1, r1), (m1, n1)), ((t2, r2), (m2, n2)))) = _
        rw [f_CB_load_L48, if_neg (nI_ge (by omega) (by omega)), if_pos rfl, if_pos (ck_nI (by omega) (by decide)), nI_clamp (by omega), h00.1]
        simp only [u3, cx_ob]
        rw [if_pos (ck_nI (by omega) (by decide)), h00.2, nI_l (by omega), u4, cx_ob, nI_1]
        exact v1 KL
      obtain ⟨⟨y0, y1, y2, y3, y4, y5, y6⟩, _⟩ := RS0_out v3
      simp only [ft.1 hokC, cx_ob, cx_i10, if_false, g1, eC, e13, g2, eA, cx_c6, if_true, cx_n6]
      exact ⟨_, _, rfl, rfl, y6.symm, ⟨v3, sok_in v4⟩, HR_frame g3 (fun w hw => (v5 w hw).trans (u8 w hw)) (fun w hw => (v6 w hw).trans (u9 w hw))⟩
    · have hbad : ∃ m, m < kF ∧ ¬ rcF m ≤ 1000000000 := Classical.byContradiction fun w => hok fun m hm => Classical.byContradiction fun w2 => w ⟨m, hm, w2⟩
      have e13 : ∀ K, f_Model_load_L13 row num saved (nI n) rkF rcF (nI kF) K 200 0 = some (-5, row, num, saved, nI n, rkF, rcF, nI kF) := fun K => (tx_l13 (row := row) (num := num) (sv := saved) (a0 := nI n) (rk := rkF) (K := K) hkF).2 hbad
      have hbadC : ∃ a, a < 1 + I ∧ ∃ j, j < F ∧ ks j = ikF a ∧ ¬ t1 j + lN (tx_su (fun a => if a = 0 then x else KY (a - 1)) (fun a => if a = 0 then y else VL (a - 1)) (1 + I) (ks j)) ≤ 1000000000 := by
        obtain ⟨m, hm, hmb⟩ := hbad
        have hb := hsub (rkF m)
        rw [hrc m hm, ← hsu] at hmb
        by_cases hmF : m < F
        · rw [if_pos hmF, (d3 m (by omega)).1] at hmb
          obtain ⟨a, _, ha, _, ea, _⟩ := s10 m (by omega)
          by_cases hin : ∃ b, b < 1 + I ∧ ks m = ikF b
          · obtain ⟨b, hb1, hb2⟩ := hin
            rw [hrkF m hmF] at hmb
            exact ⟨b, hb1, m, hmF, hb2, hmb⟩
          · have z0 : tx_su (fun a => if a = 0 then x else KY (a - 1)) (fun a => if a = 0 then y else VL (a - 1)) (1 + I) (rkF m) = 0 := by
              rw [hrkF m hmF]
              exact cx_sm_z fun b hb1 => if_neg fun w => hin ⟨b, hb1, by rw [(hit b hb1).1]; exact w.symm⟩
            rw [z0, ea, lN_add] at hmb
            exact absurd ((pk_lLE (b := 1000000000) (by omega) (by omega)).mpr (by omega)) hmb
        · rw [if_neg hmF] at hmb
          have e0 : (0 : Int64) + lN (tx_su (fun a => if a = 0 then x else KY (a - 1)) (fun a => if a = 0 then y else VL (a - 1)) (1 + I) (rkF m)) = lN (0 + tx_su (fun a => if a = 0 then x else KY (a - 1)) (fun a => if a = 0 then y else VL (a - 1)) (1 + I) (rkF m)) := lN_add 0 _
          rw [e0] at hmb
          exact absurd ((pk_lLE (b := 1000000000) (by omega) (by omega)).mpr (by omega)) hmb
      simp only [ft.2 hbadC, cx_ob, if_true, eq_self, e13]
      exact ⟨_, _, rfl, rfl, rfl, ⟨h0, sok_in hn0⟩, H⟩
