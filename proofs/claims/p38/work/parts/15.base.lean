/-! bits, sums, one loop rule, the counters that true counts give -/
def cx_bt (x : Int32) (i : Nat) : Bool := x.toBitVec.getLsbD i
theorem cx_ext {x y : Int32} (h : ∀ i, i < 32 → cx_bt x i = cx_bt y i) : x = y := Int32.toBitVec_inj.mp (BitVec.eq_of_getLsbD_eq (fun i hi => h i hi))
theorem cx_or (x y : Int32) (i : Nat) : cx_bt (x ||| y) i = (cx_bt x i || cx_bt y i) := by unfold cx_bt; rw [Int32.toBitVec_or, BitVec.getLsbD_or]
theorem cx_and (x y : Int32) (i : Nat) : cx_bt (x &&& y) i = (cx_bt x i && cx_bt y i) := by unfold cx_bt; rw [Int32.toBitVec_and, BitVec.getLsbD_and]
theorem cx_b0 (i : Nat) : cx_bt 0 i = false := BitVec.getLsbD_zero
theorem cx_sl : ∀ n, n < 32 → ((nI n &&& 31).toBitVec.smod 32).toNat = n := by decide +kernel
theorem cx_shl (n : Nat) (hn : n < 32) (x : Int32) {i : Nat} (hi : i < 32) : cx_bt (x <<< (nI n &&& 31)) i = (decide (n ≤ i) && cx_bt x (i - n)) := by
  unfold cx_bt
  rw [Int32.toBitVec_shiftLeft]
  show (x.toBitVec <<< ((nI n &&& 31).toBitVec.smod 32).toNat).getLsbD i = _
  rw [cx_sl n hn, BitVec.getLsbD_shiftLeft]
  rcases Nat.lt_or_ge i n with h | h
  · simp [h, Nat.not_le.mpr h]
  · simp [hi, h, Nat.not_lt.mpr h]
theorem cx_sshr (n : Nat) (hn : n < 32) (x : Int32) {i : Nat} (hi : i < 32) : cx_bt (x >>> (nI n &&& 31)) i = if n + i < 32 then cx_bt x (n + i) else cx_bt x 31 := by
  unfold cx_bt
  rw [Int32.toBitVec_shiftRight]
  show (x.toBitVec.sshiftRight ((nI n &&& 31).toBitVec.smod 32).toNat).getLsbD i = _
  rw [cx_sl n hn, BitVec.getLsbD_sshiftRight, BitVec.msb_eq_getLsbD_last]
  simp [hi]
theorem cx_b1 : ∀ i, i < 32 → cx_bt 1 i = decide (i = 0) := by decide +kernel
theorem cx_btI {x : Int32} {n : Nat} (hn : n < 32) : (((x >>> (nI n &&& 31)) &&& 1) = 1) = (cx_bt x n = true) := by
  apply propext
  constructor
  · intro h
    have h := congrArg (fun z => cx_bt z 0) h
    have h : cx_bt ((x >>> (nI n &&& 31)) &&& 1) 0 = cx_bt 1 0 := h
    rw [cx_and, cx_sshr n hn x (by omega), if_pos (by omega), cx_b1 0 (by omega)] at h
    simpa using h
  · intro h
    refine cx_ext (fun i hi => ?_)
    rw [cx_and, cx_sshr n hn x hi, cx_b1 i hi]
    by_cases q : i = 0
    · subst q
      rw [if_pos (by omega)]
      simpa using h
    · simp [q]
theorem cx_bif {α : Type} {x : Int32} {n : Nat} (hn : n < 32) {a b : α} : (if ((x >>> (nI n &&& 31)) &&& 1) = 1 then a else b) = if cx_bt x n = true then a else b := by
  by_cases h : cx_bt x n = true
  · rw [if_pos h, if_pos (by rw [cx_btI hn]; exact h)]
  · rw [if_neg h, if_neg (by rw [cx_btI hn]; exact h)]
theorem cx_isIn {x : Int32} {n : Nat} (hn : n < 32) : f_CB_isIn x (nI n) = some (if cx_bt x n = true then 1 else 0) := by
  unfold f_CB_isIn
  rw [cx_bif hn]
  by_cases h : cx_bt x n = true
  · rw [if_pos h, if_pos h]
  · rw [if_neg h, if_neg h]
theorem cx_sh1 {v i : Nat} (hv : v < 32) (hi : i < 32) : cx_bt (1 <<< (nI v &&& 31)) i = decide (v = i) := by
  rw [cx_shl v hv 1 hi, cx_b1 (i - v) (by omega)]
  by_cases h : v = i
  · subst h; simp
  · rw [decide_eq_false h]
    by_cases h2 : v ≤ i
    · rw [decide_eq_false (show ¬ i - v = 0 by omega)]; simp
    · rw [decide_eq_false h2]; simp
/-- the mask of some values -/
def cx_mk (v : Nat → Nat) : Nat → Int32
  | 0 => 0
  | n + 1 => cx_mk v n ||| (1 <<< (nI (v n) &&& 31))
theorem cx_mkb {v : Nat → Nat} {n c : Nat} (hv : ∀ i, i < n → v i < 32) (hc : c < 32) : cx_bt (cx_mk v n) c = true ↔ ∃ i, i < n ∧ v i = c := by
  induction n with
  | zero =>
    rw [cx_mk, cx_b0]
    exact ⟨fun h => absurd h (by decide), fun ⟨i, h, _⟩ => absurd h (Nat.not_lt_zero i)⟩
  | succ n ih =>
    rw [cx_mk, cx_or, Bool.or_eq_true, ih (fun i hi => hv i (by omega)), cx_sh1 (hv n (by omega)) hc, decide_eq_true_eq]
    constructor
    · rintro (⟨i, h1, h2⟩ | h)
      · exact ⟨i, by omega, h2⟩
      · exact ⟨n, by omega, h⟩
    · rintro ⟨i, h1, h2⟩
      by_cases q : i = n
      · subst q; exact Or.inr h2
      · exact Or.inl ⟨i, by omega, h2⟩
/-- how many bits stand below a place -/
def cx_ct (m : Int32) : Nat → Nat
  | 0 => 0
  | p + 1 => cx_ct m p + (if cx_bt m p = true then 1 else 0)
theorem cx_ct_le {m : Int32} : ∀ {p q : Nat}, p ≤ q → cx_ct m p ≤ cx_ct m q := by
  intro p q
  induction q with
  | zero => intro h; rw [show p = 0 by omega]; exact Nat.le_refl _
  | succ q ih =>
    intro h
    by_cases e : p = q + 1
    · subst e; exact Nat.le_refl _
    · have := ih (by omega)
      rw [cx_ct]
      omega
/-- at most n bits stand in a mask of n values -/
theorem cx_ct_mk {v : Nat → Nat} {n : Nat} (hv : ∀ i, i < n → v i < 32) : ∀ p, p ≤ 32 → cx_ct (cx_mk v n) p ≤ n := by
  induction n with
  | zero =>
    intro p hp
    have : ∀ p, cx_ct (cx_mk v 0) p = 0 := by
      intro p
      induction p with
      | zero => rfl
      | succ p ih => rw [cx_ct, ih, cx_mk, cx_b0]; rfl
    rw [this]
    exact Nat.le_refl _
  | succ n ih =>
    have ih := ih (fun i hi => hv i (by omega))
    have key : ∀ p, p ≤ 32 → cx_ct (cx_mk v (n + 1)) p ≤ cx_ct (cx_mk v n) p + (if v n < p then 1 else 0) := by
      intro p
      induction p with
      | zero => intro _; exact Nat.zero_le _
      | succ p ihp =>
        intro hp
        have h1 := ihp (by omega)
        rw [cx_ct, cx_ct]
        have e : cx_bt (cx_mk v (n + 1)) p = (cx_bt (cx_mk v n) p || decide (v n = p)) := by
          rw [cx_mk, cx_or, cx_sh1 (hv n (by omega)) (by omega)]
        rw [e]
        by_cases q : v n = p
        · rw [if_neg (by omega)] at h1
          rw [if_pos (show v n < p + 1 by omega), decide_eq_true q, Bool.or_true, if_pos rfl]
          by_cases q2 : cx_bt (cx_mk v n) p = true
          · rw [if_pos q2]; omega
          · rw [if_neg q2]; omega
        · rw [decide_eq_false q, Bool.or_false]
          by_cases q3 : v n < p
          · rw [if_pos q3] at h1; rw [if_pos (show v n < p + 1 by omega)]; omega
          · rw [if_neg q3] at h1; rw [if_neg (show ¬ v n < p + 1 by omega)]; omega
    intro p hp
    have h1 := key p hp
    have h2 := ih p hp
    by_cases q3 : v n < p
    · rw [if_pos q3] at h1; omega
    · rw [if_neg q3] at h1; omega
def cx_av (f : Nat) : Nat := if f = 0 then 41 else if f = 1 then 73 else if f = 2 then 97 else 131
def cx_aw (f : Nat) : Nat := if f = 0 then 5 else if f = 1 then 17 else if f = 2 then 29 else 53
def cx_ev (f : Nat) : Nat := if f = 0 then 19 else if f = 1 then 37 else 61
def cx_ew (f : Nat) : Nat := if f = 0 then 3 else if f = 1 then 11 else 23
def cx_kv (M x f : Nat) : Nat := (x * cx_av f + cx_aw f) % 1009 % M
def cx_uv (N c f : Nat) : Nat := (c * cx_ev f + cx_ew f) % 103 % N
/-- the places of a key, of a counter -/
def cx_pK (M K x : Nat) : Int32 := cx_mk (cx_kv M x) K
def cx_pU (N Q c : Nat) : Int32 := cx_mk (cx_uv N c) Q
theorem cx_pK_lt {M K x c : Nat} (hM : 0 < M) (hM2 : M ≤ 24) (hc : c < 32) (h : cx_bt (cx_pK M K x) c = true) : c < M := by
  obtain ⟨i, _, rfl⟩ := (cx_mkb (fun i _ => Nat.lt_of_lt_of_le (Nat.mod_lt _ hM) (by omega)) hc).mp h
  exact Nat.mod_lt _ hM
theorem cx_pU_lt {N Q x c : Nat} (hN : 0 < N) (hN2 : N ≤ 16) (hc : c < 32) (h : cx_bt (cx_pU N Q x) c = true) : c < N := by
  obtain ⟨i, _, rfl⟩ := (cx_mkb (fun i _ => Nat.lt_of_lt_of_le (Nat.mod_lt _ hN) (by omega)) hc).mp h
  exact Nat.mod_lt _ hN
theorem cx_pK_ct {M K x : Nat} (hM : 0 < M) (hM2 : M ≤ 24) (p : Nat) (hp : p ≤ 32) : cx_ct (cx_pK M K x) p ≤ K := cx_ct_mk (fun i _ => Nat.lt_of_lt_of_le (Nat.mod_lt _ hM) (by omega)) p hp
theorem cx_pU_ct {N Q x : Nat} (hN : 0 < N) (hN2 : N ≤ 16) (p : Nat) (hp : p ≤ 32) : cx_ct (cx_pU N Q x) p ≤ Q := cx_ct_mk (fun i _ => Nat.lt_of_lt_of_le (Nat.mod_lt _ hN) (by omega)) p hp
theorem cx_pK_ex {M K x : Nat} (hM : 0 < M) (hM2 : M ≤ 24) (hK : 0 < K) : ∃ c, c < M ∧ cx_bt (cx_pK M K x) c = true :=
  ⟨cx_kv M x 0, Nat.mod_lt _ hM, (cx_mkb (fun i _ => Nat.lt_of_lt_of_le (Nat.mod_lt _ hM) (by omega)) (Nat.lt_of_lt_of_le (Nat.mod_lt _ hM) (by omega))).mpr ⟨0, hK, rfl⟩⟩
theorem cx_pU_ex {N Q x : Nat} (hN : 0 < N) (hN2 : N ≤ 16) (hQ : 0 < Q) : ∃ c, c < N ∧ cx_bt (cx_pU N Q x) c = true :=
  ⟨cx_uv N x 0, Nat.mod_lt _ hN, (cx_mkb (fun i _ => Nat.lt_of_lt_of_le (Nat.mod_lt _ hN) (by omega)) (Nat.lt_of_lt_of_le (Nat.mod_lt _ hN) (by omega))).mpr ⟨0, hQ, rfl⟩⟩
/-- a finite sum -/
def cx_sm (g : Nat → Nat) : Nat → Nat
  | 0 => 0
  | n + 1 => cx_sm g n + g n
theorem cx_sm_le {g h : Nat → Nat} : ∀ {n : Nat}, (∀ i, i < n → g i ≤ h i) → cx_sm g n ≤ cx_sm h n := by
  intro n
  induction n with
  | zero => intro _; exact Nat.le_refl _
  | succ n ih => intro q; have := ih (fun i hi => q i (by omega)); have := q n (by omega); rw [cx_sm, cx_sm]; omega
theorem cx_sm_eq {g h : Nat → Nat} {n : Nat} (q : ∀ i, i < n → g i = h i) : cx_sm g n = cx_sm h n :=
  Nat.le_antisymm (cx_sm_le fun i hi => Nat.le_of_eq (q i hi)) (cx_sm_le fun i hi => Nat.le_of_eq (q i hi).symm)
theorem cx_sm_z {g : Nat → Nat} {n : Nat} (q : ∀ i, i < n → g i = 0) : cx_sm g n = 0 := by
  induction n with
  | zero => rfl
  | succ n ih => rw [cx_sm, ih (fun i hi => q i (by omega)), q n (by omega)]
theorem cx_sm_add (g h : Nat → Nat) (n : Nat) : cx_sm (fun i => g i + h i) n = cx_sm g n + cx_sm h n := by
  induction n with
  | zero => rfl
  | succ n ih => rw [cx_sm, cx_sm, cx_sm, ih]; omega
theorem cx_sm_b {g : Nat → Nat} {B n : Nat} (q : ∀ i, i < n → g i ≤ B) : cx_sm g n ≤ n * B := by
  induction n with
  | zero => exact Nat.zero_le _
  | succ n ih => have := ih (fun i hi => q i (by omega)); have := q n (by omega); rw [cx_sm, Nat.succ_mul]; omega
theorem cx_sm_up {g h : Nat → Nat} {n k d : Nat} (hk : k < n) (e : h k = g k + d) (q : ∀ i, i < n → i ≠ k → h i = g i) : cx_sm h n = cx_sm g n + d := by
  induction n with
  | zero => omega
  | succ n ih =>
    rw [cx_sm, cx_sm]
    by_cases z : k = n
    · subst z
      rw [e, cx_sm_eq (g := h) (h := g) (fun i hi => q i (by omega) (by omega))]; omega
    · rw [ih (by omega) (fun i hi hne => q i (by omega) hne), q n (by omega) (fun c => z c.symm)]; omega
theorem cx_sm_mem {g : Nat → Nat} {n k : Nat} (hk : k < n) : g k ≤ cx_sm g n := by
  induction n with
  | zero => omega
  | succ n ih =>
    rw [cx_sm]
    by_cases z : k = n
    · subst z; omega
    · have := ih (by omega); omega
/-- what a counter of the first layer has got in all -/
def cx_SS (M K : Nat) (ks : FI) (T : FJ) (c : Nat) : Nat := cx_sm (fun f => if cx_bt (cx_pK M K (ks f).toNatClampNeg) c = true then (T f).toNatClampNeg else 0) 16
/-- the counters that these give -/
def cx_SEM (D N Q : Nat) (S : Nat → Nat) (r m : FI) (n : FJ) : Prop :=
  (∀ c, c < 24 → r c = nI (S c % 2 ^ D) ∧ m c = (if S c / 2 ^ D = 0 then 0 else 1)) ∧
  ∀ u, u < 16 → n u = lN (cx_sm (fun c => if cx_bt (cx_pU N Q c) u = true then S c / 2 ^ D else 0) 24)
theorem cx_SEM_eq {D N Q : Nat} {S S' : Nat → Nat} {r m : FI} {n : FJ} (h : cx_SEM D N Q S r m n) (e : ∀ c, c < 24 → S c = S' c) : cx_SEM D N Q S' r m n := by
  refine ⟨fun c hc => by rw [← e c hc]; exact h.1 c hc, fun u hu => ?_⟩
  rw [h.2 u hu]
  exact congrArg lN (cx_sm_eq fun c hc => by rw [e c hc])
theorem cx_SEM_fn {D N Q : Nat} {S : Nat → Nat} {r m r' m' : FI} {n n' : FJ} (h : cx_SEM D N Q S r m n) (h' : cx_SEM D N Q S r' m' n') : (∀ c, c < 24 → r c = r' c ∧ m c = m' c) ∧ ∀ u, u < 16 → n u = n' u :=
  ⟨fun c hc => ⟨(h.1 c hc).1.trans (h'.1 c hc).1.symm, (h.1 c hc).2.trans (h'.1 c hc).2.symm⟩, fun u hu => (h.2 u hu).trans (h'.2 u hu).symm⟩
/-- one rule for the loops that count up -/
theorem cx_lp {σ R : Type} (L : Nat → Nat → σ → Option R) (K : σ → Option R) (P : Nat → σ → Prop) (m : Nat) (hend : ∀ n s, P m s → L (n + 1) m s = K s) (hstep : ∀ n j s, j < m → P j s → ∃ s', P (j + 1) s' ∧ L (n + 1) j s = L n (j + 1) s') : ∀ (n j : Nat) (s : σ), j ≤ m → m < j + n → P j s → ∃ s', P m s' ∧ L n j s = K s' := by
  intro n
  induction n with
  | zero => intro j s h1 h2; omega
  | succ n ih =>
    intro j s h1 h2 hP
    by_cases q : j = m
    · subst q
      exact ⟨s, hP, hend n s hP⟩
    · obtain ⟨s', hP', e⟩ := hstep n j s (by omega) hP
      obtain ⟨s2, h3, h4⟩ := ih (j + 1) s' (by omega) (by omega) hP'
      exact ⟨s2, h3, e.trans h4⟩
/-- one for those that fold: the value at each turn is told -/
theorem cx_lf {σ R : Type} (L : Nat → Nat → σ → Option R) (K : σ → Option R) (F : Nat → σ) (m : Nat) (hend : ∀ n, L (n + 1) m (F m) = K (F m)) (hstep : ∀ n j, j < m → L (n + 1) j (F j) = L n (j + 1) (F (j + 1))) : ∀ (n j : Nat), j ≤ m → m < j + n → L n j (F j) = K (F m) := by
  intro n
  induction n with
  | zero => intro j h1 h2; omega
  | succ n ih =>
    intro j h1 h2
    by_cases q : j = m
    · subst q; exact hend n
    · rw [hstep n j (by omega)]; exact ih (j + 1) (by omega) (by omega)
theorem cx_ck {j n : Nat} (h : j < n) (hn : n < 2 ^ 31) : (ck (nI j) n = true) = True := by
  unfold ck
  rw [decide_eq_false (nI_pos (by omega)), nI_clamp (by omega), decide_eq_false (by omega)]
  exact eq_self true
theorem cx_leN {a b : Nat} (ha : a < 2 ^ 31) (hb : b < 2 ^ 31) : (nI a ≤ nI b) = (a ≤ b) := propext (nI_leI ha hb)
theorem cx_ltN {a b : Nat} (ha : a < 2 ^ 31) (hb : b < 2 ^ 31) : (nI a < nI b) = (a < b) := propext (nI_ltI ha hb)
theorem cx_eqN {a b : Nat} (ha : a < 2 ^ 31) (hb : b < 2 ^ 31) : (nI a = nI b) = (a = b) := propext (nI_eq ha hb)
theorem cx_ob {α β : Type} {a : α} {f : α → Option β} : (some a).bind f = f a := rfl
theorem cx_i1 : ¬ (1 : Int32) = 0 := by decide
theorem cx_i01 : ((0 : Int32) = 0) = True := eq_self 0
theorem cx_i10 : ((1 : Int32) = 0) = False := eq_false (by decide)
theorem cx_z1 : ((0 : Int32) = 0 ∨ (0 : Int32) = 1) = True := eq_true (Or.inl rfl)
theorem cx_z2 : ((1 : Int32) = 0 ∨ (1 : Int32) = 1) = True := eq_true (Or.inr rfl)
theorem cx_le2 {i : Nat} (h : i < 2 ^ 31) : ((2 : Int32) ≤ nI i) = (2 ≤ i) := propext (nI_leI (a := 2) (by omega) h)
theorem cx_le3 {i : Nat} (h : i < 2 ^ 31) : ((3 : Int32) ≤ nI i) = (3 ≤ i) := propext (nI_leI (a := 3) (by omega) h)
theorem cx_le4 {i : Nat} (h : i < 2 ^ 31) : ((4 : Int32) ≤ nI i) = (4 ≤ i) := propext (nI_leI (a := 4) (by omega) h)
theorem cx_le5 {i : Nat} (h : i < 2 ^ 31) : ((5 : Int32) ≤ nI i) = (5 ≤ i) := propext (nI_leI (a := 5) (by omega) h)
theorem cx_le7 {i : Nat} (h : i < 2 ^ 31) : ((7 : Int32) ≤ nI i) = (7 ≤ i) := propext (nI_leI (a := 7) (by omega) h)
theorem cx_le16 {i : Nat} (h : i < 2 ^ 31) : ((16 : Int32) ≤ nI i) = (16 ≤ i) := propext (nI_leI (a := 16) (by omega) h)
theorem cx_le24 {i : Nat} (h : i < 2 ^ 31) : ((24 : Int32) ≤ nI i) = (24 ≤ i) := propext (nI_leI (a := 24) (by omega) h)
theorem cx_le32 {i : Nat} (h : i < 2 ^ 31) : ((32 : Int32) ≤ nI i) = (32 ≤ i) := propext (nI_leI (a := 32) (by omega) h)
theorem cx_le48 {i : Nat} (h : i < 2 ^ 31) : ((48 : Int32) ≤ nI i) = (48 ≤ i) := propext (nI_leI (a := 48) (by omega) h)
theorem cx_le96 {i : Nat} (h : i < 2 ^ 31) : ((96 : Int32) ≤ nI i) = (96 ≤ i) := propext (nI_leI (a := 96) (by omega) h)
theorem cx_le167 {i : Nat} (h : i < 2 ^ 31) : ((167 : Int32) ≤ nI i) = (167 ≤ i) := propext (nI_leI (a := 167) (by omega) h)
theorem cx_L2 {j : Nat} (h : 2 ≤ j) (h2 : j < 2 ^ 31) : (2 : Int32) ≤ nI j := nI_le (a := 2) h h2
theorem cx_G2 {j : Nat} (h : j < 2) : ¬ (2 : Int32) ≤ nI j := nI_ge (b := 2) h (by omega)
theorem cx_T2 {j : Nat} (h : j < 2) : nI j < (2 : Int32) := nI_lt (b := 2) h (by omega)
theorem cx_L3 {j : Nat} (h : 3 ≤ j) (h2 : j < 2 ^ 31) : (3 : Int32) ≤ nI j := nI_le (a := 3) h h2
theorem cx_G3 {j : Nat} (h : j < 3) : ¬ (3 : Int32) ≤ nI j := nI_ge (b := 3) h (by omega)
theorem cx_T3 {j : Nat} (h : j < 3) : nI j < (3 : Int32) := nI_lt (b := 3) h (by omega)
theorem cx_L4 {j : Nat} (h : 4 ≤ j) (h2 : j < 2 ^ 31) : (4 : Int32) ≤ nI j := nI_le (a := 4) h h2
theorem cx_G4 {j : Nat} (h : j < 4) : ¬ (4 : Int32) ≤ nI j := nI_ge (b := 4) h (by omega)
theorem cx_T4 {j : Nat} (h : j < 4) : nI j < (4 : Int32) := nI_lt (b := 4) h (by omega)
theorem cx_L5 {j : Nat} (h : 5 ≤ j) (h2 : j < 2 ^ 31) : (5 : Int32) ≤ nI j := nI_le (a := 5) h h2
theorem cx_G5 {j : Nat} (h : j < 5) : ¬ (5 : Int32) ≤ nI j := nI_ge (b := 5) h (by omega)
theorem cx_T5 {j : Nat} (h : j < 5) : nI j < (5 : Int32) := nI_lt (b := 5) h (by omega)
theorem cx_L7 {j : Nat} (h : 7 ≤ j) (h2 : j < 2 ^ 31) : (7 : Int32) ≤ nI j := nI_le (a := 7) h h2
theorem cx_G7 {j : Nat} (h : j < 7) : ¬ (7 : Int32) ≤ nI j := nI_ge (b := 7) h (by omega)
theorem cx_T7 {j : Nat} (h : j < 7) : nI j < (7 : Int32) := nI_lt (b := 7) h (by omega)
theorem cx_L16 {j : Nat} (h : 16 ≤ j) (h2 : j < 2 ^ 31) : (16 : Int32) ≤ nI j := nI_le (a := 16) h h2
theorem cx_G16 {j : Nat} (h : j < 16) : ¬ (16 : Int32) ≤ nI j := nI_ge (b := 16) h (by omega)
theorem cx_T16 {j : Nat} (h : j < 16) : nI j < (16 : Int32) := nI_lt (b := 16) h (by omega)
theorem cx_L24 {j : Nat} (h : 24 ≤ j) (h2 : j < 2 ^ 31) : (24 : Int32) ≤ nI j := nI_le (a := 24) h h2
theorem cx_G24 {j : Nat} (h : j < 24) : ¬ (24 : Int32) ≤ nI j := nI_ge (b := 24) h (by omega)
theorem cx_T24 {j : Nat} (h : j < 24) : nI j < (24 : Int32) := nI_lt (b := 24) h (by omega)
theorem cx_L32 {j : Nat} (h : 32 ≤ j) (h2 : j < 2 ^ 31) : (32 : Int32) ≤ nI j := nI_le (a := 32) h h2
theorem cx_G32 {j : Nat} (h : j < 32) : ¬ (32 : Int32) ≤ nI j := nI_ge (b := 32) h (by omega)
theorem cx_T32 {j : Nat} (h : j < 32) : nI j < (32 : Int32) := nI_lt (b := 32) h (by omega)
theorem cx_L48 {j : Nat} (h : 48 ≤ j) (h2 : j < 2 ^ 31) : (48 : Int32) ≤ nI j := nI_le (a := 48) h h2
theorem cx_G48 {j : Nat} (h : j < 48) : ¬ (48 : Int32) ≤ nI j := nI_ge (b := 48) h (by omega)
theorem cx_T48 {j : Nat} (h : j < 48) : nI j < (48 : Int32) := nI_lt (b := 48) h (by omega)
theorem cx_L96 {j : Nat} (h : 96 ≤ j) (h2 : j < 2 ^ 31) : (96 : Int32) ≤ nI j := nI_le (a := 96) h h2
theorem cx_G96 {j : Nat} (h : j < 96) : ¬ (96 : Int32) ≤ nI j := nI_ge (b := 96) h (by omega)
theorem cx_T96 {j : Nat} (h : j < 96) : nI j < (96 : Int32) := nI_lt (b := 96) h (by omega)
theorem cx_L167 {j : Nat} (h : 167 ≤ j) (h2 : j < 2 ^ 31) : (167 : Int32) ≤ nI j := nI_le (a := 167) h h2
theorem cx_G167 {j : Nat} (h : j < 167) : ¬ (167 : Int32) ≤ nI j := nI_ge (b := 167) h (by omega)
theorem cx_T167 {j : Nat} (h : j < 167) : nI j < (167 : Int32) := nI_lt (b := 167) h (by omega)
theorem cx_m32 {i : Nat} : (32 : Int32) * nI i = nI (32 * i) := pk_mul 32 i
theorem cx_m48 {i : Nat} : (48 : Int32) * nI i = nI (48 * i) := pk_mul 48 i
theorem cx_m96 {i : Nat} : (96 : Int32) * nI i = nI (96 * i) := pk_mul 96 i
theorem cx_m167 {i : Nat} : (167 : Int32) * nI i = nI (167 * i) := pk_mul 167 i
theorem cx_p7 {i : Nat} : (7 : Int32) + nI i = nI (7 + i) := nI_add 7 i
theorem cx_p23 {i : Nat} : (23 : Int32) + nI i = nI (23 + i) := nI_add 23 i
theorem cx_p32 {i : Nat} : (32 : Int32) + nI i = nI (32 + i) := nI_add 32 i
theorem cx_q16 {i : Nat} : nI i + (16 : Int32) = nI (i + 16) := nI_add i 16
theorem cx_q24 {i : Nat} : nI i + (24 : Int32) = nI (i + 24) := nI_add i 24
theorem cx_c0 : (ck 0 1002 = true) = True := eq_true rfl
theorem cx_n0 : (0 : Int32).toNatClampNeg = 0 := rfl
theorem cx_c1 : (ck 1 1002 = true) = True := eq_true rfl
theorem cx_n1 : (1 : Int32).toNatClampNeg = 1 := rfl
theorem cx_c2 : (ck 2 1002 = true) = True := eq_true rfl
theorem cx_n2 : (2 : Int32).toNatClampNeg = 2 := rfl
theorem cx_c3 : (ck 3 1002 = true) = True := eq_true rfl
theorem cx_n3 : (3 : Int32).toNatClampNeg = 3 := rfl
theorem cx_c4 : (ck 4 1002 = true) = True := eq_true rfl
theorem cx_n4 : (4 : Int32).toNatClampNeg = 4 := rfl
theorem cx_c5 : (ck 5 1002 = true) = True := eq_true rfl
theorem cx_n5 : (5 : Int32).toNatClampNeg = 5 := rfl
theorem cx_c6 : (ck 6 1002 = true) = True := eq_true rfl
theorem cx_n6 : (6 : Int32).toNatClampNeg = 6 := rfl
