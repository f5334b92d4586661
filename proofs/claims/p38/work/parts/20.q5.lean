/-! the law answers 1 -/
abbrev GL (o : Option Int32) : Prop := ∃ out, o = some out
theorem q_and (x : Int32) : ∃ a : Nat, a < 2 ^ 31 ∧ x &&& 2147483647 = nI a := by
  refine ⟨(x.toBitVec &&& (2147483647 : Int32).toBitVec).toNat, ?_, Int32.toBitVec_inj.mp ?_⟩
  · rw [BitVec.toNat_and]
    exact Nat.lt_of_le_of_lt Nat.and_le_right (by decide)
  · rw [Int32.toBitVec_and]
    show x.toBitVec &&& (2147483647 : Int32).toBitVec = BitVec.ofNat 32 (x.toBitVec &&& (2147483647 : Int32).toBitVec).toNat
    rw [BitVec.ofNat_toNat, BitVec.setWidth_eq]
theorem q_low (x : Int32) {m : Nat} (h0 : 0 < m) (hm : m < 2 ^ 31) : ∃ j : Nat, j < m ∧ f_L_low x (nI m) = some (nI j) := by
  obtain ⟨a, ha, ea⟩ := q_and x
  unfold f_L_low
  rw [if_neg (nI_ne0 h0 hm), ea, pk_rem ha h0 hm]
  exact ⟨a % m, Nat.mod_lt _ h0, rfl⟩
theorem q_odd (x : Int32) : ∃ b : Nat, b ≤ 1 ∧ x &&& 1 = nI b := by
  by_cases z : cx_bt x 0 = true
  · refine ⟨1, by omega, cx_ext fun i hi => ?_⟩
    show _ = cx_bt 1 i
    rw [cx_and, cx_b1 i hi]
    by_cases q : i = 0
    · subst q
      rw [z]
      rfl
    · rw [decide_eq_false q, Bool.and_false]
  · refine ⟨0, by omega, cx_ext fun i hi => ?_⟩
    show _ = cx_bt 0 i
    rw [cx_and, cx_b1 i hi, cx_b0]
    by_cases q : i = 0
    · subst q
      rw [Bool.eq_false_iff.mpr z]
      rfl
    · rw [decide_eq_false q, Bool.and_false]
theorem q_SSeq {M K : Nat} {ks : FI} {T T' : FJ} (h : ∀ f, f < 16 → T f = T' f) : cx_SS M K ks T = cx_SS M K ks T' := funext fun c => cx_sm_eq fun f hf => by rw [h f hf]
section QL
variable {M D K N Q R F : Nat} {ks : FI} {cv : Int32 → Int32}
/-- the flows are added -/
theorem law_L191 (hFL : Nat) (hFL9 : 1 ≤ hFL ∧ hFL ≤ 9) {K1 K2 : Int32 → CBS → CBS → Option Int32}
    (hK : ∀ (F : Nat) (ks : FI) (s0 s1 : CBS), 1 ≤ F → F ≤ 9 → OB M D K N Q R F ks (fun _ => 0) (fun _ => 0) s0 → OB M D K N Q 20 F ks (fun _ => 0) (fun _ => 0) s1 → GL (K1 (nI hFL) s0 s1)) :
    ∀ (n j F : Nat) (ks : FI) (s0 s1 : CBS), j ≤ hFL → hFL < j + n → F ≤ j → (1 ≤ j → 1 ≤ F) → OB M D K N Q R F ks (fun _ => 0) (fun _ => 0) s0 → OB M D K N Q 20 F ks (fun _ => 0) (fun _ => 0) s1 → GL (f_L_law_L191 200 cv (nI hFL) K1 K2 n (nI j) s0 s1) := by
  intro n
  induction n with
  | zero => intro j F ks s0 s1 h1 h2; omega
  | succ n ih =>
    intro j F ks s0 s1 h1 h2 hF hF1 o0 o1
    rw [f_L_law_L191]
    by_cases z : j = hFL
    · subst z
      rw [if_pos (nI_le (Nat.le_refl _) (by omega))]
      exact hK F ks s0 s1 (hF1 hFL9.1) (by omega) o0 o1
    · rw [if_neg (nI_ge (by omega) (by omega)), show (1 : Int32) + nI j = nI (1 + j) from nI_add 1 j, if_pos (nI_pos' (by omega))]
      obtain ⟨x, hx, ex⟩ := q_low (cv (nI (1 + j))) (m := 1000) (by omega) (by omega)
      have ex : f_L_low (cv (nI (1 + j))) 1000 = some (nI x) := ex
      rw [ex, cx_ob, nI_1]
      rcases q_addFlow o0 (show x ≤ 999 by omega) (by omega) with ⟨i, hi, ei, a0, ea0, x0⟩ | ⟨hno, a0, ea0, g0⟩
      · rcases q_addFlow o1 (show x ≤ 999 by omega) (by omega) with ⟨i', hi', ei', a1, ea1, x1⟩ | ⟨hno', -⟩
        · have g0 := OB_same o0 x0
          have g1 := OB_same o1 x1
          rw [ea0, cx_ob, ea1, cx_ob]
          try dsimp only
          rw [if_pos (show (-4 : Int32) < 0 by decide), if_pos rfl, q_flowOf g0 (by omega) hi ei, cx_ob, if_pos (nI_pos' (by have := (ob_c o0).2.2.2.2.2.2.1; omega))]
          exact ih (j + 1) F ks a0 a1 (by omega) (by omega) (by omega) (fun _ => by omega) g0 g1
        · exact absurd ei (hno' i hi)
      · rcases q_addFlow o1 (show x ≤ 999 by omega) (by omega) with ⟨i', hi', ei', -⟩ | ⟨hno', a1, ea1, g1⟩
        · exact absurd ei' (hno i' hi')
        · rw [ea0, cx_ob, ea1, cx_ob]
          try dsimp only
          rw [if_neg (nI_pos (by omega)), q_key g0 (Nat.lt_succ_self F), cx_ob, if_pos pk_us, q_flowOf g0 (show x ≤ 999 by omega) (Nat.lt_succ_self F) pk_us, cx_ob, if_pos rfl, (q_form g0).2.2.2.2.1, cx_ob, nI_pred, if_pos rfl]
          exact ih (j + 1) (F + 1) (upd ks F (nI x)) a0 a1 (by omega) (by omega) (by omega) (fun _ => by omega) g0 g1
/-- what holds behind j turns: both objects have the same true counts -/
def LI (M D K N Q R F : Nat) (ks : FI) (j : Nat) (s0 s1 : CBS) : Prop := ∃ t1 t2 t1' t2' : FJ, OB M D K N Q R F ks t1 t2 s0 ∧ OB M D K N Q 20 F ks t1' t2' s1 ∧ (∀ f, f < 16 → t1 f = t1' f ∧ t2 f = t2' f) ∧ ∀ f, f < 16 → ∃ a b : Nat, t1 f = lN a ∧ t2 f = lN b ∧ a ≤ 100000 * j ∧ b ≤ 100000 * j
theorem law_J497 {j b : Nat} (hj : j < 12) (hb : b ≤ 1) {y : Int32} {s0 s1 : CBS} {B : Int32 → CBS → CBS → Option Int32} (hI : LI M D K N Q R F ks (j + 1) s0 s1) (hB : ∀ s0 s1 : CBS, LI M D K N Q R F ks (j + 1) s0 s1 → GL (B (nI (j + 1)) s0 s1)) : GL (f_L_law_J497 200 (nI j) y (nI b) s0 s1 B) := by
  unfold f_L_law_J497
  rw [nI_1]
  by_cases z : nI j - nI j / 4 * 4 = 3
  · obtain ⟨w, hw, ew⟩ := q_low (y >>> (12 &&& 31)) (m := 61) (by omega) (by omega)
    have ew : f_L_low (y >>> (12 &&& 31)) 61 = some (nI w) := ew
    obtain ⟨t1, t2, t1', t2', o0, o1, h3, h4⟩ := hI
    obtain ⟨a0, e0, x0⟩ := aB_all o0 hb (w := w) (by omega)
    have g0 := OB_same o0 x0
    obtain ⟨a1, e1, x1⟩ := aC_all g0 hb
    have g1 := OB_same g0 x1
    rw [if_pos z, ew, cx_ob, e0, cx_ob]
    try dsimp only
    rw [if_neg cx_i1, e1, cx_ob]
    try dsimp only
    rw [if_neg cx_i1]
    exact hB a1 s1 ⟨t1, t2, t1', t2', g1, o1, h3, h4⟩
  · rw [if_neg z]
    exact hB s0 s1 hI
/-- the second object's true counts, the amount in one part or two -/
theorem law_upd {b f v p a : Nat} {t t' : FJ} (hp : p < v) (ha : t f = lN a) (ht : ∀ i, i < 16 → t i = t' i) (hf : f < 16) : ∀ i, i < 16 → vp_updL t f (t f + lN v) i = vp_updL (vp_updL t' f (t' f + lN (v - p))) f (vp_updL t' f (t' f + lN (v - p)) f + lN p) i := by
  intro i hi
  by_cases z : i = f
  · subst z
    rw [pk_uLs, pk_uLs, pk_uLs, ← ht i hi, ha, lN_add, lN_add, lN_add]
    exact congrArg lN (by omega)
  · rw [pk_uLn z, pk_uLn z, pk_uLn z]
    exact ht i hi
theorem law_upd0 {f v : Nat} {t t' : FJ} (ht : ∀ i, i < 16 → t i = t' i) (hf : f < 16) : ∀ i, i < 16 → vp_updL t f (t f + lN v) i = vp_updL t' f (t' f + lN v) i := by
  intro i hi
  by_cases z : i = f
  · subst z
    rw [pk_uLs, pk_uLs, ht i hi]
  · rw [pk_uLn z, pk_uLn z]
    exact ht i hi
theorem law_bnd {b f v j : Nat} {t1 t2 : FJ} (hv : v ≤ 100000) (hf : f < 16) (h : ∀ f, f < 16 → ∃ a b : Nat, t1 f = lN a ∧ t2 f = lN b ∧ a ≤ 100000 * j ∧ b ≤ 100000 * j) : ∀ i, i < 16 → ∃ a c : Nat, u1 b f v t1 i = lN a ∧ u2 b f v t2 i = lN c ∧ a ≤ 100000 * (j + 1) ∧ c ≤ 100000 * (j + 1) := by
  intro i hi
  obtain ⟨p, q, e1, e2, h1, h2⟩ := h i hi
  unfold u1 u2
  by_cases z : b = 0
  · rw [if_pos z, if_pos z]
    by_cases y : i = f
    · subst y
      exact ⟨p + v, q, by rw [pk_uLs, e1, lN_add], e2, by omega, by omega⟩
    · exact ⟨p, q, by rw [pk_uLn y, e1], e2, by omega, by omega⟩
  · rw [if_neg z, if_neg z]
    by_cases y : i = f
    · subst y
      exact ⟨p, q + v, e1, by rw [pk_uLs, e2, lN_add], by omega, by omega⟩
    · exact ⟨p, q, e1, by rw [pk_uLn y, e2], by omega, by omega⟩
theorem law_tb {b f j : Nat} {t1 t2 : FJ} (hf : f < 16) (h : ∀ f, f < 16 → ∃ a b : Nat, t1 f = lN a ∧ t2 f = lN b ∧ a ≤ 100000 * j ∧ b ≤ 100000 * j) : ∃ a : Nat, tb b t1 t2 f = lN a ∧ a ≤ 100000 * j := by
  obtain ⟨p, q, e1, e2, h1, h2⟩ := h f hf
  unfold tb
  by_cases z : b = 0
  · rw [if_pos z]
    exact ⟨p, e1, h1⟩
  · rw [if_neg z]
    exact ⟨q, e2, h2⟩
theorem law_tbu {b f v : Nat} {t1 t2 : FJ} : tb b (u1 b f v t1) (u2 b f v t2) f = tb b t1 t2 f + lN v := by
  unfold tb u1 u2
  by_cases z : b = 0
  · rw [if_pos z, if_pos z, if_pos z, pk_uLs]
  · rw [if_neg z, if_neg z, if_neg z, pk_uLs]
theorem law_J375 {j b f : Nat} (hj : j < 12) (hb : b ≤ 1) (hf : f < F) {y : Int32} {v : Nat} (hv : 1 ≤ v ∧ v ≤ 100000) {w1 w2 : Int32} (hw : w1 + w2 = nI v) {s0 s1 : CBS} {B : Int32 → CBS → CBS → Option Int32} (hI : LI M D K N Q R F ks j s0 s1) (hB : ∀ s0 s1 : CBS, LI M D K N Q R F ks (j + 1) s0 s1 → GL (B (nI (j + 1)) s0 s1)) : GL (f_L_law_J375 200 (nI j) y (nI b) (nI f) w1 w2 s0 s1 B) := by
  obtain ⟨t1, t2, t1', t2', o0, o1, h3, h4⟩ := hI
  have c7 := (ob_c o0).2.2.2.2.2.2.1
  have h4' : ∀ f, f < 16 → ∃ a b : Nat, t1' f = lN a ∧ t2' f = lN b ∧ a ≤ 100000 * j ∧ b ≤ 100000 * j := fun i hi => by
    rw [← (h3 i hi).1, ← (h3 i hi).2]
    exact h4 i hi
  obtain ⟨dg, ed⟩ := q_digest o0
  obtain ⟨a, ea, ha⟩ := law_tb (b := b) (f := f) (by omega) h4
  obtain ⟨a', ea', ha'⟩ := law_tb (b := b) (f := f) (by omega) h4'
  obtain ⟨a0, e0, g0, n, n1, n2, n3⟩ := q_count o0 hb hf (v := v) (by omega) ea (by omega)
  unfold f_L_law_J375
  rw [hw, ed, cx_ob, q_truth o0 hb hf, cx_ob, e0, cx_ob]
  try dsimp only
  rw [nI_l (by omega), ea, lN_add, if_pos rfl]
  by_cases z : ((y >>> (27 &&& 31)) &&& 3) = 0
  · obtain ⟨a1, e1, x1, x2⟩ := q_undo n1 n2 n3
    rw [if_pos z, e1, cx_ob]
    try dsimp only
    rw [if_neg (nI_pos (by omega)), q_digest_eq x1, ed, cx_ob, if_pos rfl]
    refine law_J497 hj hb ⟨t1, t2, t1', t2', ⟨by rw [x1]; exact o0.1, x2⟩, o1, h3, fun i hi => ?_⟩ hB
    obtain ⟨p, q, r1, r2, r3, r4⟩ := h4 i hi
    exact ⟨p, q, r1, r2, by omega, by omega⟩
  · obtain ⟨p, hp, ep⟩ := q_low (y >>> (9 &&& 31)) (m := v) (by omega) (by omega)
    have hu : ∀ b, (∀ i, i < 16 → tb b t1 t2 i = tb b t1' t2' i) := fun b i hi => by
      unfold tb
      by_cases q : b = 0
      · rw [if_pos q, if_pos q]; exact (h3 i hi).1
      · rw [if_neg q, if_neg q]; exact (h3 i hi).2
    rw [if_neg z, ep, cx_ob]
    unfold f_L_law_J476 f_L_law_J493
    by_cases q : p = 0
    · subst q
      rw [if_pos (show nI 0 ≤ (0 : Int32) from nI_le (b := 0) (Nat.le_refl _) (by omega)), if_pos (show nI 0 ≤ (0 : Int32) from nI_le (b := 0) (Nat.le_refl _) (by omega))]
      obtain ⟨a1, e1, g1, -⟩ := q_count o1 hb hf (v := v) (by omega) ea' (by omega)
      rw [e1, cx_ob]
      try dsimp only
      refine law_J497 hj hb ⟨_, _, _, _, g0, g1, fun i hi => ?_, law_bnd hv.2 (by omega) h4⟩ hB
      unfold u1 u2
      by_cases w : b = 0
      · rw [if_pos w, if_pos w, if_pos w, if_pos w]
        exact ⟨law_upd0 (fun i hi => (h3 i hi).1) (by omega) i hi, (h3 i hi).2⟩
      · rw [if_neg w, if_neg w, if_neg w, if_neg w]
        exact ⟨(h3 i hi).1, law_upd0 (fun i hi => (h3 i hi).2) (by omega) i hi⟩
    · have hsub : nI v - nI p = nI (v - p) := by
        rw [show nI v = nI (v - p) + nI p from by rw [nI_add]; exact congrArg nI (by omega)]
        exact Int32.add_sub_cancel _ _
      rw [if_neg (nI_nle (n := p) (by omega) (by omega)), hsub]
      obtain ⟨a1, e1, g1, -⟩ := q_count o1 hb hf (v := v - p) (by omega) ea' (by omega)
      have ea2 : tb b (u1 b f (v - p) t1') (u2 b f (v - p) t2') f = lN (a' + (v - p)) := by rw [law_tbu, ea', lN_add]
      obtain ⟨a2, e2, g2, -⟩ := q_count g1 hb hf (v := p) (by omega) ea2 (by omega)
      rw [e1, cx_ob]
      try dsimp only
      rw [if_neg (nI_nle (n := p) (by omega) (by omega)), e2, cx_ob]
      try dsimp only
      refine law_J497 hj hb ⟨_, _, _, _, g0, g2, fun i hi => ?_, law_bnd hv.2 (by omega) h4⟩ hB
      obtain ⟨p1, p2, r1, r2, -⟩ := h4 f (by omega)
      unfold u1 u2
      by_cases w : b = 0
      · simp only [if_pos w]
        exact ⟨law_upd (b := b) hp r1 (fun i hi => (h3 i hi).1) (by omega) i hi, (h3 i hi).2⟩
      · simp only [if_neg w]
        exact ⟨(h3 i hi).1, law_upd (b := b) hp r2 (fun i hi => (h3 i hi).2) (by omega) i hi⟩
theorem law_L307 (hF : 1 ≤ F) (hF9 : F ≤ 9) {KK : Int32 → CBS → CBS → Option Int32} (hK : ∀ s0 s1 : CBS, LI M D K N Q R F ks 12 s0 s1 → GL (KK 12 s0 s1)) : ∀ (n j : Nat) (s0 s1 : CBS), j ≤ 12 → 12 < j + n → LI M D K N Q R F ks j s0 s1 → GL (f_L_law_L307 200 cv (nI F) KK n (nI j) s0 s1) := by
  intro n
  induction n with
  | zero => intro j s0 s1 h1 h2; omega
  | succ n ih =>
    intro j s0 s1 h1 h2 hI
    rw [f_L_law_L307]
    by_cases z : j = 12
    · subst z
      rw [if_pos (show (12 : Int32) ≤ nI 12 from nI_le (a := 12) (Nat.le_refl _) (by omega))]
      exact hK s0 s1 hI
    · have hB : ∀ s0 s1 : CBS, LI M D K N Q R F ks (j + 1) s0 s1 → GL (f_L_law_L307 200 cv (nI F) KK n (nI (j + 1)) s0 s1) := fun a0 a1 hI2 => ih (j + 1) a0 a1 (by omega) (by omega) hI2
      rw [if_neg (show ¬ (12 : Int32) ≤ nI j from nI_ge (b := 12) (by omega) (by omega)), show (11 : Int32) + nI j = nI (11 + j) from nI_add 11 j, if_pos (nI_pos' (by omega))]
      generalize cv (nI (11 + j)) = y
      obtain ⟨f, hf, ef⟩ := q_low (y >>> (1 &&& 31)) (m := F) (by omega) (by omega)
      obtain ⟨b, hb, eb⟩ := q_odd y
      rw [ef, cx_ob, eb]
      by_cases q : ((y >>> (5 &&& 31)) &&& 1) = 0
      · obtain ⟨r, hr, er⟩ := q_low (y >>> (6 &&& 31)) (m := 12) (by omega) (by omega)
        have er : f_L_low (y >>> (6 &&& 31)) 12 = some (nI r) := er
        rw [if_pos q, er, cx_ob]
        exact law_J375 (by omega) hb hf (v := 1 + r) (by omega) (nI_add 1 r) hI hB
      · obtain ⟨r, hr, er⟩ := q_low (y >>> (6 &&& 31)) (m := 100000) (by omega) (by omega)
        have er : f_L_low (y >>> (6 &&& 31)) 100000 = some (nI r) := er
        rw [if_neg q, er, cx_ob]
        exact law_J375 (by omega) hb hf (v := 1 + r) (by omega) (nI_add 1 r) hI hB
end QL
