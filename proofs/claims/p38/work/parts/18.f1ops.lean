def cx_hs (h : Int64) (g : Nat → Int64) : Nat → Int64
  | 0 => h
  | n + 1 => 31 * cx_hs h g n + g n
theorem cx_hs_eq {h h' : Int64} {g g' : Nat → Int64} (e0 : h = h') : ∀ {n : Nat}, (∀ i, i < n → g i = g' i) → cx_hs h g n = cx_hs h' g' n := by
  intro n
  induction n with
  | zero => intro _; exact e0
  | succ n ih => intro e; rw [cx_hs, cx_hs, ih (fun i hi => e i (by omega)), e n (by omega)]
theorem cx_hs_app {h : Int64} {g g' : Nat → Int64} {a : Nat} : ∀ {n : Nat}, (∀ i, i < n → g (a + i) = g' i) → cx_hs h g (a + n) = cx_hs (cx_hs h g a) g' n := by
  intro n
  induction n with
  | zero => intro _; rfl
  | succ n ih => intro e; rw [← Nat.add_assoc, cx_hs, cx_hs, ih (fun i hi => e i (by omega)), e n (by omega)]
def cx_h2 (h : Int64) (g g' : Nat → Int64) : Nat → Int64
  | 0 => h
  | n + 1 => 31 * (31 * cx_h2 h g g' n + g n) + g' n
theorem cx_h2_eq {h h' : Int64} {g g' k k' : Nat → Int64} (e0 : h = h') : ∀ {n : Nat}, (∀ i, i < n → g i = k i ∧ g' i = k' i) → cx_h2 h g g' n = cx_h2 h' k k' n := by
  intro n
  induction n with
  | zero => intro _; exact e0
  | succ n ih => intro e; rw [cx_h2, cx_h2, ih (fun i hi => e i (by omega)), (e n (by omega)).1, (e n (by omega)).2]
/-- a braid's part of the hash -/
def cx_hB (h : Int64) (F M N : Nat) (t : FJ) (r m : FI) (n : FJ) : Int64 := cx_hs (cx_h2 (cx_hs h t F) (fun c => (r c).toInt64) (fun c => (m c).toInt64) M) n N
theorem cx_hb_f {M N F : Nat} {h : Int64} {t : FJ} {r m : FI} {n : FJ} (hM : M ≤ 24) (hN : N ≤ 16) (hF : F ≤ 16) : f_CB_hashOfBraid_f 200 h (nI M) (nI N) (nI F) t r m n = some (cx_hB h F M N t r m n) := by
  unfold f_CB_hashOfBraid_f
  have e1 := cx_lf (fun k j (s : Int64) => f_CB_hashOfBraid_f_L6 (nI F) t (fun i3 i4 => f_CB_hashOfBraid_f_L43 (nI M) r m (fun i7 i8 => f_CB_hashOfBraid_f_L101 (nI N) n (fun i11 i12 => some i11) 200 i7 0) 200 i3 0) k s (nI j)) (fun s => f_CB_hashOfBraid_f_L43 (nI M) r m (fun i7 i8 => f_CB_hashOfBraid_f_L101 (nI N) n (fun i11 i12 => some i11) 200 i7 0) 200 s 0) (fun j => cx_hs h t j) F (fun k => by
      show f_CB_hashOfBraid_f_L6 (nI F) t _ (k + 1) _ (nI F) = _
      rw [f_CB_hashOfBraid_f_L6, if_pos (nI_le (Nat.le_refl _) (by omega))]) (fun k j hj => by
      show f_CB_hashOfBraid_f_L6 (nI F) t _ (k + 1) _ (nI j) = f_CB_hashOfBraid_f_L6 (nI F) t _ k _ (nI (j + 1))
      rw [f_CB_hashOfBraid_f_L6, if_neg (nI_ge hj (by omega)), if_pos (ck_nI (by omega) (by decide)), nI_clamp (by omega), nI_1]
      rfl) 200 0 (by omega) (by omega)
  refine Eq.trans e1 ?_
  have e2 := cx_lf (fun k j (s : Int64) => f_CB_hashOfBraid_f_L43 (nI M) r m (fun i7 i8 => f_CB_hashOfBraid_f_L101 (nI N) n (fun i11 i12 => some i11) 200 i7 0) k s (nI j)) (fun s => f_CB_hashOfBraid_f_L101 (nI N) n (fun i11 i12 => some i11) 200 s 0) (fun j => cx_h2 (cx_hs h t F) (fun c => (r c).toInt64) (fun c => (m c).toInt64) j) M (fun k => by
      show f_CB_hashOfBraid_f_L43 (nI M) r m _ (k + 1) _ (nI M) = _
      rw [f_CB_hashOfBraid_f_L43, if_pos (nI_le (Nat.le_refl _) (by omega))]) (fun k j hj => by
      show f_CB_hashOfBraid_f_L43 (nI M) r m _ (k + 1) _ (nI j) = f_CB_hashOfBraid_f_L43 (nI M) r m _ k _ (nI (j + 1))
      rw [f_CB_hashOfBraid_f_L43, if_neg (nI_ge hj (by omega)), if_pos (ck_nI (by omega) (by decide)), if_pos (ck_nI (by omega) (by decide)), nI_clamp (by omega), nI_1]
      rfl) 200 0 (by omega) (by omega)
  refine Eq.trans e2 ?_
  refine cx_lf (fun k j (s : Int64) => f_CB_hashOfBraid_f_L101 (nI N) n (fun i11 i12 => some i11) k s (nI j)) (fun s => some s) (fun j => cx_hs (cx_h2 (cx_hs h t F) (fun c => (r c).toInt64) (fun c => (m c).toInt64) M) n j) N (fun k => ?_) (fun k j hj => ?_) 200 0 (by omega) (by omega)
  · show f_CB_hashOfBraid_f_L101 (nI N) n _ (k + 1) _ (nI N) = _
    rw [f_CB_hashOfBraid_f_L101, if_pos (nI_le (Nat.le_refl _) (by omega))]
  · show f_CB_hashOfBraid_f_L101 (nI N) n _ (k + 1) _ (nI j) = f_CB_hashOfBraid_f_L101 (nI N) n _ k _ (nI (j + 1))
    rw [f_CB_hashOfBraid_f_L101, if_neg (nI_ge hj (by omega)), if_pos (ck_nI (by omega) (by decide)), nI_clamp (by omega), nI_1]
    rfl
theorem cx_hb_s {M N F : Nat} {h : Int64} {t : FJ} {r m : FI} {n : FJ} (hM : M ≤ 24) (hN : N ≤ 16) (hF : F ≤ 16) : f_CB_hashOfBraid_s 200 h (nI M) (nI N) (nI F) t r m n = some (cx_hB h F M N t r m n) := by
  unfold f_CB_hashOfBraid_s
  have e1 := cx_lf (fun k j (s : Int64) => f_CB_hashOfBraid_s_L6 (nI F) t (fun i3 i4 => f_CB_hashOfBraid_s_L43 (nI M) r m (fun i7 i8 => f_CB_hashOfBraid_s_L101 (nI N) n (fun i11 i12 => some i11) 200 i7 0) 200 i3 0) k s (nI j)) (fun s => f_CB_hashOfBraid_s_L43 (nI M) r m (fun i7 i8 => f_CB_hashOfBraid_s_L101 (nI N) n (fun i11 i12 => some i11) 200 i7 0) 200 s 0) (fun j => cx_hs h t j) F (fun k => by
      show f_CB_hashOfBraid_s_L6 (nI F) t _ (k + 1) _ (nI F) = _
      rw [f_CB_hashOfBraid_s_L6, if_pos (nI_le (Nat.le_refl _) (by omega))]) (fun k j hj => by
      show f_CB_hashOfBraid_s_L6 (nI F) t _ (k + 1) _ (nI j) = f_CB_hashOfBraid_s_L6 (nI F) t _ k _ (nI (j + 1))
      rw [f_CB_hashOfBraid_s_L6, if_neg (nI_ge hj (by omega)), if_pos (ck_nI (by omega) (by decide)), nI_clamp (by omega), nI_1]
      rfl) 200 0 (by omega) (by omega)
  refine Eq.trans e1 ?_
  have e2 := cx_lf (fun k j (s : Int64) => f_CB_hashOfBraid_s_L43 (nI M) r m (fun i7 i8 => f_CB_hashOfBraid_s_L101 (nI N) n (fun i11 i12 => some i11) 200 i7 0) k s (nI j)) (fun s => f_CB_hashOfBraid_s_L101 (nI N) n (fun i11 i12 => some i11) 200 s 0) (fun j => cx_h2 (cx_hs h t F) (fun c => (r c).toInt64) (fun c => (m c).toInt64) j) M (fun k => by
      show f_CB_hashOfBraid_s_L43 (nI M) r m _ (k + 1) _ (nI M) = _
      rw [f_CB_hashOfBraid_s_L43, if_pos (nI_le (Nat.le_refl _) (by omega))]) (fun k j hj => by
      show f_CB_hashOfBraid_s_L43 (nI M) r m _ (k + 1) _ (nI j) = f_CB_hashOfBraid_s_L43 (nI M) r m _ k _ (nI (j + 1))
      rw [f_CB_hashOfBraid_s_L43, if_neg (nI_ge hj (by omega)), if_pos (ck_nI (by omega) (by decide)), if_pos (ck_nI (by omega) (by decide)), nI_clamp (by omega), nI_1]
      rfl) 200 0 (by omega) (by omega)
  refine Eq.trans e2 ?_
  refine cx_lf (fun k j (s : Int64) => f_CB_hashOfBraid_s_L101 (nI N) n (fun i11 i12 => some i11) k s (nI j)) (fun s => some s) (fun j => cx_hs (cx_h2 (cx_hs h t F) (fun c => (r c).toInt64) (fun c => (m c).toInt64) M) n j) N (fun k => ?_) (fun k j hj => ?_) 200 0 (by omega) (by omega)
  · show f_CB_hashOfBraid_s_L101 (nI N) n _ (k + 1) _ (nI N) = _
    rw [f_CB_hashOfBraid_s_L101, if_pos (nI_le (Nat.le_refl _) (by omega))]
  · show f_CB_hashOfBraid_s_L101 (nI N) n _ (k + 1) _ (nI j) = f_CB_hashOfBraid_s_L101 (nI N) n _ k _ (nI (j + 1))
    rw [f_CB_hashOfBraid_s_L101, if_neg (nI_ge hj (by omega)), if_pos (ck_nI (by omega) (by decide)), nI_clamp (by omega), nI_1]
    rfl
theorem cx_hB_eq {h h' : Int64} {F M N : Nat} {t t' : FJ} {r m r' m' : FI} {n n' : FJ} (hM : M ≤ 24) (hN : N ≤ 16) (hF : F ≤ 16) (e0 : h = h') (e1 : ∀ c, c < 24 → r c = r' c ∧ m c = m' c) (e2 : ∀ i, i < 16 → t i = t' i ∧ n i = n' i) : cx_hB h F M N t r m n = cx_hB h' F M N t' r' m' n' :=
  cx_hs_eq (cx_h2_eq (cx_hs_eq e0 fun i hi => (e2 i (by omega)).1) fun i hi => ⟨congrArg Int32.toInt64 (e1 i (by omega)).1, congrArg Int32.toInt64 (e1 i (by omega)).2⟩) fun i hi => (e2 i (by omega)).2
