/-! the text: blanks, digits, numbers -/
theorem cx_bT {α : Type} {C : Prop} [Decidable C] (h : C) {a b : α} : (if (if C then (1 : Int32) else 0) = 0 then a else b) = b := by rw [if_neg (by rw [if_pos h]; decide)]
theorem cx_bN {α : Type} {C : Prop} [Decidable C] (h : ¬ C) {a b : α} : (if (if C then (1 : Int32) else 0) = 0 then a else b) = a := by rw [if_pos (by rw [if_neg h])]
def tx_sb (c : FI) (n : Nat) : Nat → Nat → Nat
  | 0, p => p
  | d + 1, p => if p < n then (if c p = 32 then tx_sb c n d (p + 1) else p) else p
def tx_nd (c : FI) (n : Nat) : Nat → Nat → Nat
  | 0, p => p
  | d + 1, p => if p < n then (if 48 ≤ c p ∧ c p ≤ 57 then tx_nd c n d (p + 1) else p) else p
def tx_SB (c : FI) (n p : Nat) : Nat := tx_sb c n 100 p
def tx_ND (c : FI) (n p : Nat) : Nat := tx_nd c n 100 p
theorem tx_sb_st {c : FI} {n : Nat} : ∀ (d p : Nat), p ≤ n → n - p ≤ d → p ≤ tx_sb c n d p ∧ tx_sb c n d p ≤ n ∧ (tx_sb c n d p = n ∨ ¬ c (tx_sb c n d p) = 32) := by
  intro d
  induction d with
  | zero => intro p h1 h2; rw [tx_sb]; exact ⟨Nat.le_refl _, h1, Or.inl (by omega)⟩
  | succ d ih =>
    intro p h1 h2
    rw [tx_sb]
    by_cases q : p < n
    · rw [if_pos q]
      by_cases z : c p = 32
      · rw [if_pos z]
        obtain ⟨a, b, e⟩ := ih (p + 1) (by omega) (by omega)
        exact ⟨by omega, b, e⟩
      · rw [if_neg z]; exact ⟨Nat.le_refl _, h1, Or.inr z⟩
    · rw [if_neg q]; exact ⟨Nat.le_refl _, h1, Or.inl (by omega)⟩
theorem tx_sb_fix {c : FI} {n : Nat} {d p : Nat} (h : p = n ∨ ¬ c p = 32) : tx_sb c n d p = p := by
  cases d with
  | zero => rfl
  | succ d =>
    rw [tx_sb]
    by_cases q : p < n
    · rw [if_pos q, if_neg (by
        rcases h with h | h
        · omega
        · exact h)]
    · rw [if_neg q]
theorem tx_SB_st {c : FI} {n p : Nat} (hn : n ≤ 100) (hp : p ≤ n) : p ≤ tx_SB c n p ∧ tx_SB c n p ≤ n ∧ (tx_SB c n p = n ∨ ¬ c (tx_SB c n p) = 32) := tx_sb_st 100 p hp (by omega)
theorem tx_SB_SB {c : FI} {n p : Nat} (hn : n ≤ 100) (hp : p ≤ n) : tx_SB c n (tx_SB c n p) = tx_SB c n p := tx_sb_fix (tx_SB_st hn hp).2.2
theorem tx_nd_st {c : FI} {n : Nat} : ∀ (d p : Nat), p ≤ n → p ≤ tx_nd c n d p ∧ tx_nd c n d p ≤ n := by
  intro d
  induction d with
  | zero => intro p h1; rw [tx_nd]; exact ⟨Nat.le_refl _, h1⟩
  | succ d ih =>
    intro p h1
    rw [tx_nd]
    by_cases q : p < n
    · rw [if_pos q]
      by_cases z : 48 ≤ c p ∧ c p ≤ 57
      · rw [if_pos z]
        obtain ⟨a, b⟩ := ih (p + 1) (by omega)
        exact ⟨by omega, b⟩
      · rw [if_neg z]; exact ⟨Nat.le_refl _, h1⟩
    · rw [if_neg q]; exact ⟨Nat.le_refl _, h1⟩
theorem tx_ND_st {c : FI} {n p : Nat} (hp : p ≤ n) : p ≤ tx_ND c n p ∧ tx_ND c n p ≤ n := tx_nd_st 100 p hp
/-- class's text and model's: the same codes -/
def tx_AG (c tx : FI) (n : Nat) : Prop := n ≤ 100 ∧ ∀ j, j < n → c j = tx j ∧ 0 ≤ c j
theorem tx_skC {c : FI} {n : Nat} {K : Int32 → Option Int32} (hn : n ≤ 100) : ∀ (d k p : Nat), p ≤ n → n - p ≤ d → d < k → f_Text_skipBlanks_L0 c (nI n) K k (nI p) = K (nI (tx_sb c n d p)) := by
  intro d
  induction d with
  | zero =>
    intro k p h1 h2 h3
    obtain ⟨k, rfl⟩ : ∃ j, k = j + 1 := ⟨k - 1, by omega⟩
    rw [f_Text_skipBlanks_L0, if_pos (nI_le (by omega) (by omega)), tx_sb]
  | succ d ih =>
    intro k p h1 h2 h3
    obtain ⟨k, rfl⟩ : ∃ j, k = j + 1 := ⟨k - 1, by omega⟩
    rw [f_Text_skipBlanks_L0, tx_sb]
    by_cases q : p < n
    · rw [if_neg (nI_ge q (by omega)), if_pos (ck_nI (by omega) (by decide)), nI_clamp (by omega), if_pos q]
      by_cases z : c p = 32
      · rw [if_pos z, if_pos z, nI_1]; exact ih k (p + 1) (by omega) (by omega) (by omega)
      · rw [if_neg z, if_neg z]
    · rw [if_pos (nI_le (by omega) (by omega)), if_neg q]
theorem tx_skip {c : FI} {n p : Nat} (hn : n ≤ 100) (hp : p ≤ n) : f_Text_skipBlanks 200 c (nI n) (nI p) = some (nI (tx_SB c n p)) := tx_skC (K := fun c4 => some c4) hn 100 200 p hp (by omega) (by omega)
theorem tx_hrM {c tx : FI} {n : Nat} {K : Int32 → Option (Int32 × Int32)} (ag : tx_AG c tx n) : ∀ (d k p : Nat), p ≤ n → n - p ≤ d → d < k → f_Model_here_L0 tx (nI n) K k (nI p) = K (nI (tx_sb c n d p)) := by
  obtain ⟨hn, ag⟩ := ag
  intro d
  induction d with
  | zero =>
    intro k p h1 h2 h3
    obtain ⟨k, rfl⟩ : ∃ j, k = j + 1 := ⟨k - 1, by omega⟩
    rw [f_Model_here_L0, if_pos (nI_le (by omega) (by omega)), tx_sb]
  | succ d ih =>
    intro k p h1 h2 h3
    obtain ⟨k, rfl⟩ : ∃ j, k = j + 1 := ⟨k - 1, by omega⟩
    rw [f_Model_here_L0, tx_sb]
    by_cases q : p < n
    · rw [if_neg (nI_ge q (by omega)), if_pos (ck_nI (by omega) (by decide)), nI_clamp (by omega), if_pos q, ← (ag p q).1]
      by_cases z : c p = 32
      · rw [if_pos z, if_pos z, nI_1]; exact ih k (p + 1) (by omega) (by omega) (by omega)
      · rw [if_neg z, if_neg z]
    · rw [if_pos (nI_le (by omega) (by omega)), if_neg q]
/-- the byte at a place, -1 at the end -/
def tx_ch (c : FI) (n p : Nat) : Int32 := if p = n then -1 else c p
theorem tx_here {c tx : FI} {n p : Nat} (ag : tx_AG c tx n) (hp : p ≤ n) : f_Model_here 200 tx (nI n) (nI p) = some (tx_ch c n (tx_SB c n p), nI (tx_SB c n p)) := by
  obtain ⟨h1, h2, h3⟩ := tx_SB_st (c := c) ag.1 hp
  have hn := ag.1
  unfold f_Model_here
  refine Eq.trans (tx_hrM (K := fun c4 => f_Model_here_J38 c4 tx (nI n)) ag 100 200 p hp (by omega) (by omega)) ?_
  show f_Model_here_J38 (nI (tx_SB c n p)) tx (nI n) = _
  rw [f_Model_here_J38, tx_ch]
  by_cases q : tx_SB c n p = n
  · rw [if_pos q, if_pos (nI_le (by omega) (by omega))]
  · rw [if_neg q, if_neg (nI_ge (by omega) (by omega)), if_pos (ck_nI (by omega) (by decide)), nI_clamp (by omega), (ag.2 _ (by omega)).1]
theorem tx_sign {c tx : FI} {n p : Nat} {x : Int32} (ag : tx_AG c tx n) (hp : p ≤ n) (hx : ¬ x = -1) : f_Model_sign 200 x tx (nI n) (nI p) = some (if tx_SB c n p < n ∧ c (tx_SB c n p) = x then (1, nI (tx_SB c n p + 1)) else (0, nI (tx_SB c n p))) := by
  unfold f_Model_sign
  rw [tx_here ag hp, cx_ob, tx_ch]
  obtain ⟨h1, h2, h3⟩ := tx_SB_st (c := c) ag.1 hp
  by_cases q : tx_SB c n p = n
  · simp only [if_pos q]
    rw [if_neg (fun e => hx e.symm), if_neg (fun e => by omega), f_Model_sign_J13, if_pos rfl, if_pos (Or.inl rfl), Int32.add_zero]
  · simp only [if_neg q]
    by_cases z : c (tx_SB c n p) = x
    · rw [if_pos z, if_pos ⟨by omega, z⟩, f_Model_sign_J13, if_neg cx_i1, if_pos (Or.inr rfl), nI_1]
    · rw [if_neg z, if_neg (fun e => z e.2), f_Model_sign_J13, if_pos rfl, if_pos (Or.inl rfl), Int32.add_zero]
theorem tx_skS {c : FI} {n p : Nat} {x : Int32} (hn : n ≤ 100) (hp : p ≤ n) : f_Text_skipSign x c (nI n) (nI p) = some (if p < n ∧ c p = x then (1, nI (p + 1)) else (0, nI p)) := by
  unfold f_Text_skipSign
  by_cases q : p < n
  · rw [if_neg (nI_ge q (by omega)), if_pos (ck_nI (by omega) (by decide)), nI_clamp (by omega), nI_1]
    by_cases z : c p = x
    · rw [if_pos z, if_pos ⟨q, z⟩]
    · rw [if_neg z, if_neg (fun e => z e.2)]
  · rw [if_pos (nI_le (by omega) (by omega)), if_neg (fun e => q e.1)]
/-- the value of k digits from p on -/
def tx_vl (c : FI) (p : Nat) : Nat → Nat
  | 0 => 0
  | k + 1 => 10 * tx_vl c p k + ((c (p + k)).toNatClampNeg - 48)
theorem tx_dg {x : Int32} (h : 48 ≤ x ∧ x ≤ 57) : ∃ y, y ≤ 9 ∧ x = nI (48 + y) := by
  obtain ⟨j, a, b, e⟩ := i32_nat (p := 48) (q := 57) rfl rfl h (by omega)
  exact ⟨j - 48, by omega, by rw [e]; exact congrArg nI (by omega)⟩
theorem tx_dgv {v y : Nat} : (10 : Int32) * nI v + nI (48 + y) - 48 = nI (10 * v + y) := by
  rw [show (10 : Int32) * nI v = nI (10 * v) from pk_mul 10 v, nI_add, show (48 : Int32) = nI 48 from rfl, pk_sub (by omega)]
  exact congrArg nI (by omega)
theorem tx_rnC {c : FI} {n p : Nat} {K : Int32 → Int32 → Int32 → Option (Int32 × Int32)} (hn : n ≤ 100) : ∀ (d f k : Nat), p + k ≤ n → n - (p + k) ≤ d → d < f → tx_vl c p (min k 4) < 10 ^ (min k 4) →
    f_Text_readNumber_L4 c (nI n) K f (nI k) (nI (tx_vl c p (min k 4))) (nI (p + k)) = K (nI (tx_nd c n d (p + k) - p)) (nI (tx_vl c p (min (tx_nd c n d (p + k) - p) 4))) (nI (tx_nd c n d (p + k))) ∧ tx_vl c p (min (tx_nd c n d (p + k) - p) 4) < 10 ^ (min (tx_nd c n d (p + k) - p) 4) := by
  intro d
  induction d with
  | zero =>
    intro f k h1 h2 h3 h4
    obtain ⟨f, rfl⟩ : ∃ j, f = j + 1 := ⟨f - 1, by omega⟩
    rw [f_Text_readNumber_L4, if_pos (nI_le (by omega) (by omega)), tx_nd, show p + k - p = k by omega]
    exact ⟨rfl, h4⟩
  | succ d ih =>
    intro f k h1 h2 h3 h4
    obtain ⟨f, rfl⟩ : ∃ j, f = j + 1 := ⟨f - 1, by omega⟩
    rw [f_Text_readNumber_L4, tx_nd]
    by_cases q : p + k < n
    · rw [if_neg (nI_ge q (by omega)), if_pos (ck_nI (by omega) (by decide)), nI_clamp (by omega), p_from, cx_ob, if_pos q]
      by_cases z : 48 ≤ c (p + k) ∧ c (p + k) ≤ 57
      · rw [if_pos z, if_neg cx_i1, if_pos z, nI_1, nI_1]
        obtain ⟨y, hy, ey⟩ := tx_dg z
        have ih := ih f (k + 1) (by omega) (by omega) (by omega)
        rw [← Nat.add_assoc] at ih
        by_cases k4 : 4 < k + 1
        · rw [if_pos (show (4 : Int32) < nI (k + 1) from nI_lt (a := 4) k4 (by omega))]
          rw [show min (k + 1) 4 = min k 4 by omega] at ih
          exact ih h4
        · rw [if_neg (show ¬ (4 : Int32) < nI (k + 1) from fun w => by have := (nI_ltI (a := 4) (by omega) (by omega)).mp w; omega), if_pos (ck_nI (by omega) (by decide)), ey, tx_dgv]
          have em : min k 4 = k := by omega
          have em2 : min (k + 1) 4 = k + 1 := by omega
          have ev : tx_vl c p (k + 1) = 10 * tx_vl c p k + y := by
            rw [tx_vl, ey, nI_clamp (by omega)]; omega
          rw [em2, ev] at ih
          rw [em] at h4 ⊢
          exact ih (by rw [Nat.pow_succ]; omega)
      · rw [if_neg z, if_pos rfl, if_neg z, show p + k - p = k by omega]
        exact ⟨rfl, h4⟩
    · rw [if_pos (nI_le (by omega) (by omega)), if_neg q, show p + k - p = k by omega]
      exact ⟨rfl, h4⟩
theorem tx_rnM {c tx : FI} {n p : Nat} {K : Int32 → Int32 → Option (Int32 × Int32)} {first : Int32} (ag : tx_AG c tx n) (hf : ¬ first < 0) : ∀ (d f k : Nat), p + k ≤ n → n - (p + k) ≤ d → d < f → tx_vl c p (min k 5) < 10 ^ (min k 5) →
    f_Model_reads_L14 first (nI p) tx (nI n) K f (nI (p + k)) (nI (tx_vl c p (min k 5))) = K (nI (tx_nd c n d (p + k))) (nI (tx_vl c p (min (tx_nd c n d (p + k) - p) 5))) := by
  obtain ⟨hn, ag⟩ := ag
  intro d
  induction d with
  | zero =>
    intro f k h1 h2 h3 h4
    obtain ⟨f, rfl⟩ : ∃ j, f = j + 1 := ⟨f - 1, by omega⟩
    rw [f_Model_reads_L14, if_neg hf, if_pos (nI_le (by omega) (by omega)), tx_nd, show p + k - p = k by omega]
  | succ d ih =>
    intro f k h1 h2 h3 h4
    obtain ⟨f, rfl⟩ : ∃ j, f = j + 1 := ⟨f - 1, by omega⟩
    rw [f_Model_reads_L14, if_neg hf, tx_nd]
    by_cases q : p + k < n
    · rw [if_neg (nI_ge q (by omega)), if_pos (ck_nI (by omega) (by decide)), nI_clamp (by omega), ← (ag _ q).1, p_in, cx_ob, if_pos q]
      by_cases z : 48 ≤ c (p + k) ∧ c (p + k) ≤ 57
      · rw [if_pos z, if_neg cx_i1, if_pos z, pk_sub (by omega), show p + k - p = k by omega, nI_1]
        obtain ⟨y, hy, ey⟩ := tx_dg z
        have ih := ih f (k + 1) (by omega) (by omega) (by omega)
        rw [← Nat.add_assoc] at ih
        by_cases k4 : 5 ≤ k
        · rw [if_pos (cx_L5 k4 (by omega))]
          rw [show min (k + 1) 5 = min k 5 by omega] at ih
          exact ih h4
        · rw [if_neg (cx_G5 (by omega)), if_pos (ck_nI (by omega) (by decide)), ey, tx_dgv]
          have em : min k 5 = k := by omega
          have em2 : min (k + 1) 5 = k + 1 := by omega
          have ev : tx_vl c p (k + 1) = 10 * tx_vl c p k + y := by
            rw [tx_vl, ey, nI_clamp (by omega)]; omega
          rw [em2, ev] at ih
          rw [em] at h4 ⊢
          exact ih (by rw [Nat.pow_succ]; omega)
      · rw [if_neg z, if_pos rfl, if_neg z, show p + k - p = k by omega]
    · rw [if_pos (nI_le (by omega) (by omega)), if_neg q, show p + k - p = k by omega]
/-- a number within bounds at a place -/
def tx_nu (c : FI) (n p a b : Nat) : Option Nat := if (1 ≤ tx_ND c n p - p ∧ tx_ND c n p - p ≤ 4) ∧ (a ≤ tx_vl c p (tx_ND c n p - p) ∧ tx_vl c p (tx_ND c n p - p) ≤ b) then some (tx_vl c p (tx_ND c n p - p)) else none
theorem tx_numC {c : FI} {n p : Nat} (hn : n ≤ 100) (hp : p ≤ n) : f_Text_readNumber 200 c (nI n) (nI p) = some (if 1 ≤ tx_ND c n p - p ∧ tx_ND c n p - p ≤ 4 then nI (tx_vl c p (tx_ND c n p - p)) else -1, nI (tx_ND c n p)) ∧ (tx_ND c n p - p ≤ 4 → tx_vl c p (tx_ND c n p - p) < 10 ^ (tx_ND c n p - p)) := by
  obtain ⟨e, hv⟩ := tx_rnC (c := c) (p := p) (K := fun i9 i10 c11 => f_Text_readNumber_J73 i9 i10 c11) hn 100 200 0 (by omega) (by omega) (by omega) (show 0 < 1 by decide)
  obtain ⟨l1, l2⟩ := tx_ND_st (c := c) hp
  rw [Nat.add_zero] at e hv
  have hv : tx_vl c p (min (tx_ND c n p - p) 4) < 10 ^ (min (tx_ND c n p - p) 4) := hv
  have e : f_Text_readNumber 200 c (nI n) (nI p) = f_Text_readNumber_J73 (nI (tx_ND c n p - p)) (nI (tx_vl c p (min (tx_ND c n p - p) 4))) (nI (tx_ND c n p)) := e
  refine ⟨?_, fun h => ?_⟩
  · rw [e, f_Text_readNumber_J73, p_from, cx_ob]
    by_cases z : 1 ≤ tx_ND c n p - p ∧ tx_ND c n p - p ≤ 4
    · rw [cx_bT ⟨nI_le (a := 1) z.1 (by omega), nI_le (b := 4) z.2 (by omega)⟩, if_pos z, Nat.min_eq_left z.2]
    · rw [cx_bN (fun w => z ⟨(nI_leI (a := 1) (by omega) (by omega)).mp w.1, (nI_leI (b := 4) (by omega) (by omega)).mp w.2⟩), if_neg z]
  · rw [Nat.min_eq_left h] at hv; exact hv
theorem tx_pow4 {k : Nat} (h : k ≤ 4) : 10 ^ k ≤ 10000 := Nat.pow_le_pow_right (n := 10) (by decide) h
theorem tx_vl0 {c : FI} {n p : Nat} (hn : n ≤ 100) (hp : p ≤ n) (h : tx_ND c n p - p ≤ 4) : tx_vl c p (tx_ND c n p - p) ≤ 9999 := by
  have h1 := (tx_numC (c := c) hn hp).2 h
  have h2 := tx_pow4 h
  omega
theorem tx_nu_le {c : FI} {n p a b x : Nat} (h : tx_nu c n p a b = some x) : a ≤ x ∧ x ≤ b ∧ 1 ≤ tx_ND c n p - p := by
  unfold tx_nu at h
  by_cases z : (1 ≤ tx_ND c n p - p ∧ tx_ND c n p - p ≤ 4) ∧ (a ≤ tx_vl c p (tx_ND c n p - p) ∧ tx_vl c p (tx_ND c n p - p) ≤ b)
  · rw [if_pos z] at h
    have h := Option.some.inj h
    rw [← h]
    exact ⟨z.2.1, z.2.2, z.1.1⟩
  · rw [if_neg z] at h
    exact absurd h (by simp)
/-- the model's number: the same, and it goes on only where there is one -/
theorem tx_numM {c tx : FI} {n q a b : Nat} (ag : tx_AG c tx n) (hq : q ≤ n) (hab : a ≤ b) (hb : b < 2 ^ 31) : f_Model_reads 200 (nI a) (nI b) tx (nI n) (nI q) = match tx_nu c n (tx_SB c n q) a b with
    | some x => some (nI x, nI (tx_ND c n (tx_SB c n q)))
    | none => some (-1, nI (tx_SB c n q)) := by
  obtain ⟨h1, h2, h3⟩ := tx_SB_st (c := c) ag.1 hq
  have hn := ag.1
  unfold f_Model_reads
  rw [tx_here ag hq, cx_ob]
  generalize hp : tx_SB c n q = p at h1 h2 h3
  obtain ⟨l1, l2⟩ := tx_ND_st (c := c) h2
  have J : f_Model_reads_L14 (tx_ch c n p) (nI p) tx (nI n) (fun i10 i11 => f_Model_reads_J84 (nI a) (nI b) i10 i11 (nI p)) 200 (nI p) 0 = f_Model_reads_J84 (nI a) (nI b) (nI (tx_ND c n p)) (nI (tx_vl c p (min (tx_ND c n p - p) 5))) (nI p) := by
    by_cases q0 : p = n
    · have e1 : tx_ND c n p = p := by
        show tx_nd c n (99 + 1) p = p
        rw [tx_nd, if_neg (by omega)]
      have ec : tx_ch c n p = -1 := if_pos q0
      rw [ec, f_Model_reads_L14, if_pos (show (-1 : Int32) < 0 by decide), e1, Nat.sub_self]
      rfl
    · have hf : ¬ tx_ch c n p < 0 := by
        unfold tx_ch
        rw [if_neg q0]
        exact Int32.not_lt.mpr (ag.2 p (by omega)).2
      have := tx_rnM (c := c) (p := p) (K := fun i10 i11 => f_Model_reads_J84 (nI a) (nI b) i10 i11 (nI p)) ag hf 100 200 0 (by omega) (by omega) (by omega) (show 0 < 1 by decide)
      rw [Nat.add_zero] at this
      exact this
  refine Eq.trans J ?_
  rw [f_Model_reads_J84]
  unfold tx_nu
  by_cases z0 : tx_ND c n p = p
  · rw [if_pos (by rw [z0]), if_neg (fun w => by omega)]
  · rw [if_neg (fun w => z0 ((nI_eq (by omega) (by omega)).mp w)), pk_sub l1]
    by_cases z4 : tx_ND c n p - p ≤ 4
    · have hv := tx_vl0 (c := c) hn h2 z4
      rw [if_neg (show ¬ (4 : Int32) < nI (tx_ND c n p - p) from fun w => by have := (nI_ltI (a := 4) (by omega) (by omega)).mp w; omega), Nat.min_eq_left (by omega), p_in, cx_ob]
      by_cases zz : a ≤ tx_vl c p (tx_ND c n p - p) ∧ tx_vl c p (tx_ND c n p - p) ≤ b
      · rw [cx_bT ⟨nI_le zz.1 (by omega), nI_le zz.2 hb⟩, if_pos ⟨⟨by omega, z4⟩, zz⟩]
      · rw [cx_bN (fun w => zz ⟨(nI_leI (by omega) (by omega)).mp w.1, (nI_leI (by omega) hb).mp w.2⟩), if_neg (fun w => zz w.2)]
    · rw [if_pos (show (4 : Int32) < nI (tx_ND c n p - p) from nI_lt (a := 4) (by omega) (by omega)), if_neg (fun w => z4 w.1.2)]
